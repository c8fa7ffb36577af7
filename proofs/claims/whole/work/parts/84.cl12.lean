/-! the class: mends: tries, what is put among them (printed by gen) -/
section
set_option maxHeartbeats 2000000 in
set_option maxRecDepth 20000 in
theorem x_nextTry (h : AH) {c t : Int} (hT : h.1 60 5 = t) (ht : 0 ≤ t ∧ t < 64) (hR : tRf h) (hc : 0 ≤ c ∧ c ≤ 99) : AMet yX5_nextTry cX5_nextTry 3 (some (.object "OneWordWrong$Row")) 1 21 [.ref 60, vI c] h (Qr (fun k h' => k = 148 + t.toNat ∧ h' = hm h [(64, up (h.1 64) t c), (60, up (h.1 60) 5 (t + 1))] [] [])) := by
  refine AMet.of (by decide) (Nat.le_of_ble_eq_true rfl) (fun G hM => ?_)
  have hG := hM.cx
  refine A_hm0 (G := G) (L := [(0, .ref 60), (1, vI c)]) ?_
  refine A_aload_n hG 0 dX5_nextTry_0 rfl rfl ?_
  refine M_getI (z := 5) (v := t) hG dX5_nextTry_1 fl_X5_31 (by decide) k60 rfl rfl hT (fun ⟨ra_1, rb_1⟩ => ?_)
  refine A_bipush (n := 63) hG dX5_nextTry_4 (by decide) ?_
  refine A_mmin hG (x := t) (y := 63) dX5_nextTry_6 lw_X5_90 (by constructor <;> omega) (by constructor <;> omega) (by decide) (by decide) (Nat.le_of_ble_eq_true rfl) (fun z6 hz6 => ?_)
  refine A_istore_n (L' := [(2, vI z6), (0, .ref 60), (1, vI c)]) hG dX5_nextTry_9 rfl (by decide) rfl ?_
  refine A_aload_n hG 1 dX5_nextTry_10 rfl rfl ?_
  refine A_getR (r := 64) hG dX5_nextTry_11 fl_X5_28 (by decide) k60 (by decide) rfl ?_
  refine A_iload_n hG 0 dX5_nextTry_14 rfl rfl ?_
  refine A_iload_n hG 2 dX5_nextTry_15 rfl rfl ?_
  refine M_iast (li' := [(64, up (h.1 64) z6 c)]) hG dX5_nextTry_16 k64 n64 (by omega) (by constructor <;> omega) rfl ?_
  refine A_aload_n hG 1 dX5_nextTry_17 rfl rfl ?_
  refine A_iload_n hG 0 dX5_nextTry_18 rfl rfl ?_
  refine A_iconst (n := 1) hG dX5_nextTry_19 ?_
  refine A_iadd hG dX5_nextTry_20 ?_
  refine M_putI (z := 5) (li' := [(64, up (h.1 64) z6 c), (60, up (h.1 60) 5 (z6 + 1))]) hG dX5_nextTry_21 fl_X5_31 (by decide) k60 nf_5_5 rfl rfl (by constructor <;> omega) (Or.inl rfl) rfl ?_
  refine A_aload_n hG 1 dX5_nextTry_24 rfl rfl ?_
  refine A_getR (r := 63) hG dX5_nextTry_25 fl_X5_25 (by decide) k60 (by decide) rfl ?_
  refine A_iload_n hG 0 dX5_nextTry_28 rfl rfl ?_
  refine M_aald (r := h.2.2 63 z6) hG dX5_nextTry_29 (Or.inl k63) n63 (by omega) rfl ?_
  exact Ret_r hM dX5_nextTry_30 (by
      have e : z6 = t := by omega
      subst e
      exact ⟨hR z6 ht.1 ht.2, rfl⟩)

set_option maxHeartbeats 2000000 in
set_option maxRecDepth 20000 in
theorem x_orderAt (h : AH) {i c K n n' : Int} {w w' : Int → Int} {ρ r : Nat} (hi : 0 ≤ i ∧ i < 40) (hρ : h.2.2 61 i = ρ) (hρr : 100 ≤ ρ ∧ ρ < 212) (hr : 100 ≤ r ∧ r < 212) (hK : h.1 62 i = K) (hKr : 0 ≤ K ∧ K ≤ 99) (hc : 0 ≤ c ∧ c ≤ 99) (hwr : rowX h ρ n w) (hwo : rowX h r n' w') (hD : okD n w) (hD' : okD n' w') : AMet yX5_orderAt cX5_orderAt 4 (some .int) 1 22 [.ref 60, vI i, .ref r, vI c] h (Qi (fun z h' => ((z < 0 ∧ kK K n w < kK c n' w') ∨ (z = 0 ∧ kK K n w = kK c n' w') ∨ (0 < z ∧ kK c n' w' < kK K n w)) ∧ h' = h)) := by
  refine AMet.of (by decide) (Nat.le_of_ble_eq_true rfl) (fun G hM => ?_)
  have hG := hM.cx
  refine A_hm0 (G := G) (L := [(0, .ref 60), (1, vI i), (2, .ref r), (3, vI c)]) ?_
  refine A_aload_n hG 0 dX5_orderAt_0 rfl rfl ?_
  refine A_getR (r := 62) hG dX5_orderAt_1 fl_X5_17 (by decide) k60 (by decide) rfl ?_
  refine A_iload_n hG 1 dX5_orderAt_4 rfl rfl ?_
  refine M_iald (v := K) hG dX5_orderAt_5 k62 n62 (by omega) hK (fun ⟨ra_5, rb_5⟩ => ?_)
  refine A_iload_n hG 3 dX5_orderAt_6 rfl rfl ?_
  refine A_icmp_eq hG 21 dX5_orderAt_7 (by decide) (by constructor <;> omega) (by constructor <;> omega) (fun c_7 => ?_) (fun c_7 => ?_)
  ·
    refine A_aload_n hG 0 dX5_orderAt_21 rfl rfl ?_
    refine A_getR (r := 61) hG dX5_orderAt_22 fl_X5_11 (by decide) k60 (by decide) rfl ?_
    refine A_iload_n hG 1 dX5_orderAt_25 rfl rfl ?_
    refine M_aald (r := ρ) hG dX5_orderAt_26 (Or.inl k61) n61 (by omega) hρ ?_
    refine A_aload_n hG 2 dX5_orderAt_27 rfl rfl ?_
    refine C_Vi (as := [.ref r]) (st := []) (k := ρ) (c := 7) hG dX5_orderAt_28 ml_X5_77 mf_X7_orderTo mi_X7_orderTo se_X7_orderTo rfl (by decide) (obk_row hρr) (x_orderTo (hm h [] [] []) hρr hr (n := n) (n' := n') (w := w) (w' := w') hwr hwo (by have := hD.1; omega) (by have := hD'.1; omega) hD.2 hD'.2) (by decide) (by decide) rfl rfl (Nat.le_of_ble_eq_true rfl) (fun z28 g28 ri_28 hp_28 => ?_)
    obtain ⟨ra_28, rb_28⟩ := ri_28
    obtain ⟨hz28, rfl⟩ := hp_28
    exact Ret_i hM dX5_orderAt_31 (by constructor <;> omega) (⟨by
        have e : K = c := by omega
        subst e
        rcases hz28 with ⟨a, b, d⟩ | ⟨a, b⟩ | ⟨a, b⟩
        · refine Or.inr (Or.inl ⟨a, ?_⟩)
          subst b; exact kK_congr d
        · exact Or.inl ⟨a, rlt_kK hD hD' b⟩
        · exact Or.inr (Or.inr ⟨a, rlt_kK hD' hD b⟩), rfl⟩)
  ·
    refine A_aload_n hG 0 dX5_orderAt_10 rfl rfl ?_
    refine A_getR (r := 62) hG dX5_orderAt_11 fl_X5_17 (by decide) k60 (by decide) rfl ?_
    refine A_iload_n hG 1 dX5_orderAt_14 rfl rfl ?_
    refine M_iald (v := K) hG dX5_orderAt_15 k62 n62 (by omega) hK (fun ⟨ra_15, rb_15⟩ => ?_)
    refine A_iload_n hG 3 dX5_orderAt_16 rfl rfl ?_
    refine A_isub hG dX5_orderAt_17 ?_
    refine A_goto hG 31 dX5_orderAt_18 (by decide) ?_
    exact Ret_i hM dX5_orderAt_31 (by constructor <;> omega) (⟨by
        rcases (show K < c ∨ c < K by omega) with q | q
        · exact Or.inl ⟨by omega, kK_p hD hD' q⟩
        · exact Or.inr (Or.inr ⟨by omega, kK_p hD' hD q⟩), rfl⟩)

set_option maxHeartbeats 2000000 in
set_option maxRecDepth 20000 in
theorem x_insert (h : AH) {g : Gm} (hOk : okG g) {many c n : Int} {ms w : Int → Int} {C : Int → Prop} {r : Nat} (hX : mX h g many ms) (hC : topk C many ms) (hr0 : 148 ≤ r ∧ r < 212) (hwr : rowX h r n w) (hW : okW g w n) (hn : 1 ≤ n) (hc : 0 ≤ c ∧ c ≤ 99) : AMet yX5_insert cX5_insert 6 none 2 61 [.ref 60, .ref r, vI c] h (Qv (fun h' => (∃ (many' : Int) (ms' : Int → Int), topk (fun y => C y ∨ y = kK c n w) many' ms' ∧ mX h' g many' ms') ∧ frI h h')) := by
  have hr : 100 ≤ r ∧ r < 212 := by omega
  have hm4 := hC.1
  have hD := okD_W hOk hW hn
  have hn8 := hW.1
  refine AMet.of (by decide) (Nat.le_of_ble_eq_true rfl) (fun G hM => ?_)
  have hG := hM.cx
  refine A_hm0 (G := G) (L := [(0, .ref 60), (1, .ref r), (2, vI c)]) ?_
  refine A_iconst (n := 0) hG dX5_insert_0 ?_
  refine A_istore_n (L' := [(3, vI 0), (0, .ref 60), (1, .ref r), (2, vI c)]) hG dX5_insert_1 rfl (by decide) rfl ?_
  have z_0 : ∀ (p : Int), (0 ≤ p ∧ p ≤ many) → (∀ j, 0 ≤ j → j < p → ms j < kK c n w) → (p = many ∨ ¬ ms p < kK c n w) → G 26 [(0, .ref 60), (1, .ref r), (2, vI c), (3, vI p)] [] (hm h [] [] []) := by
    intro p hp hb hd
    refine A_iload_n hG 3 dX5_insert_26 rfl rfl ?_
    have y_1 : (p < 40) → (p < many → kK c n w < ms p) → G 51 [(0, .ref 60), (1, .ref r), (2, vI c), (3, vI p)] [] (hm h [] [] []) := by
      intro  hp4 ha
      refine A_aload_n hG 0 dX5_insert_51 rfl rfl ?_
      refine A_insI 60 (li' := [(60, h.1 60)]) rfl ?_
      have b_2 : ∀ (e : Int → Int) (sz : Int), (e 2 = sz) → ((many < 40 ∧ sz = many + 1) ∨ (many = 40 ∧ sz = 40)) → (∀ q, q ≠ 2 → e q = h.1 60 q) → G 70 [(0, .ref 60), (1, .ref r), (2, vI c), (3, vI p)] [] (hm h [(60, e)] [] []) := by
        intro e sz hE2 hsz hEq
        refine A_aload_n hG 0 dX5_insert_70 rfl rfl ?_
        refine A_getR (r := 61) hG dX5_insert_71 fl_X5_11 (by decide) k60 (by decide) rfl ?_
        refine A_aload_n hG 0 dX5_insert_74 rfl rfl ?_
        refine M_getI (z := 2) (v := sz) hG dX5_insert_75 fl_X5_21 (by decide) k60 rfl rfl hE2 (fun ⟨ra_75, rb_75⟩ => ?_)
        refine A_iconst (n := 1) hG dX5_insert_78 ?_
        refine A_isub hG dX5_insert_79 ?_
        obtain ⟨sp, hsp⟩ : ∃ sp : Nat, h.2.2 61 (sz - 1) = sp := ⟨_, rfl⟩
        have hsp4 := hX.2.1.1 (sz - 1) (by omega) (by omega)
        rw [hsp] at hsp4
        have hspr : 100 ≤ sp ∧ sp < 212 := by omega
        refine M_aald (r := sp) hG dX5_insert_80 (Or.inl k61) n61 (by omega) hsp ?_
        refine A_astore (L' := [(4, .ref sp), (0, .ref 60), (1, .ref r), (2, vI c), (3, vI p)]) hG dX5_insert_81 (by decide) rfl ?_
        refine A_aload_n hG 1 dX5_insert_83 rfl rfl ?_
        refine M_getI (z := 2) (v := sz) hG dX5_insert_84 fl_X5_21 (by decide) k60 rfl rfl hE2 (fun ⟨ra_84, rb_84⟩ => ?_)
        refine A_iconst (n := 1) hG dX5_insert_87 ?_
        refine A_isub hG dX5_insert_88 ?_
        refine A_istore (L' := [(5, vI (sz - 1)), (4, .ref sp), (0, .ref 60), (1, .ref r), (2, vI c), (3, vI p)]) hG dX5_insert_89 (by decide) rfl ?_
        refine A_insR 61 (lr' := [(61, h.2.2 61)]) rfl ?_
        refine A_insI 62 (li' := [(60, e), (62, h.1 62)]) rfl ?_
        have i_3 : ∀ fu : Nat, ∀ (i : Int) (f : Int → Nat) (k : Int → Int), (p ≤ i ∧ i ≤ sz - 1) → (∀ j, f j = if i < j ∧ j ≤ sz - 1 then h.2.2 61 (j - 1) else h.2.2 61 j) → (∀ j, k j = if i < j ∧ j ≤ sz - 1 then h.1 62 (j - 1) else h.1 62 j) → ((41 + i).toNat) < fu → G 91 [(0, .ref 60), (1, .ref r), (2, vI c), (3, vI p), (4, .ref sp), (5, vI i)] [] (hm h [(60, e), (62, k)] [] [(61, f)]) := by
          intro fu
          induction fu with
          | zero => intro i f k hi hf hk hfu; exact absurd hfu (Nat.not_lt_zero _)
          | succ fu ih_i =>
            intro i f k hi hf hk hfu
            refine A_iload hG 5 dX5_insert_91 rfl ?_
            refine A_iload_n hG 3 dX5_insert_93 rfl rfl ?_
            refine A_icmp_le hG 135 dX5_insert_94 (by decide) (by constructor <;> omega) (by constructor <;> omega) (fun c_94 => ?_) (fun c_94 => ?_)
            ·
              refine A_aload_n hG 0 dX5_insert_135 rfl rfl ?_
              refine A_getR (r := 61) hG dX5_insert_136 fl_X5_11 (by decide) k60 (by decide) rfl ?_
              refine A_iload_n hG 3 dX5_insert_139 rfl rfl ?_
              refine A_aload hG 4 dX5_insert_140 rfl ?_
              refine M_aast (lr' := [(61, up f p sp)]) hG dX5_insert_142 k61 n61 (obk_row hspr) (by omega) rfl ?_
              refine A_aload hG 4 dX5_insert_143 rfl ?_
              refine A_aload_n hG 1 dX5_insert_145 rfl rfl ?_
              refine C_Vv (as := [.ref r]) (st := []) (k := sp) (c := 7) hG dX5_insert_146 ml_X5_120 mf_X7_copyOf mi_X7_copyOf se_X7_copyOf rfl (by decide) (obk_row hspr) (x_copyOf (hm h [(60, e), (62, k)] [] [(61, up f p sp)]) hspr hr (by omega) (n := n) (w := w) (rowX_eq (by simp (disch := omega) only [hm, alk, if_neg, if_pos, ite_true]) (by simp (disch := omega) only [hm, alk, if_neg, if_pos, ite_true]) hwr) hn8) (by decide) (by decide) rfl rfl (Nat.le_of_ble_eq_true rfl) (fun g146 hp_146 => ?_)
              have hq_146 : ∃ ex fx : Int → Int, (ex 1 = n ∧ (∀ q, q ≠ 1 → ex q = (hm h [(60, e), (62, k)] [] [(61, up f p sp)]).1 sp q) ∧ ∀ j, 0 ≤ j → j < n → fx j = w j) ∧ g146 = hm (hm h [(60, e), (62, k)] [] [(61, up f p sp)]) [(sp + 200, fx), (sp, ex)] [] [] := hp_146
              clear hp_146
              obtain ⟨e146, f146, ⟨ce146, cq146, cf146⟩, rfl⟩ := hq_146
              refine A_hm (la := [(60, e), (62, k), (sp, e146), (sp + 200, f146)]) (lb := []) (lc := [(61, up f p sp)]) (by simp (disch := omega) only [amg, aset, alk, if_neg, if_pos, ite_true]) rfl rfl ?_
              refine A_aload_n hG 0 dX5_insert_149 rfl rfl ?_
              refine A_getR (r := 62) hG dX5_insert_150 fl_X5_17 (by decide) k60 (by decide) rfl ?_
              refine A_iload_n hG 3 dX5_insert_153 rfl rfl ?_
              refine A_iload_n hG 2 dX5_insert_154 rfl rfl ?_
              refine M_iast (li' := [(60, e), (62, up k p c), (sp, e146), (sp + 200, f146)]) hG dX5_insert_155 k62 n62 (by omega) (by constructor <;> omega) (by simp (disch := omega) only [amg, aset, alk, if_neg, if_pos, ite_true]) ?_
              exact Ret_v hM dX5_insert_156 (by
                  refine ⟨ins_fin hX hC hsz (by omega) hsp hb ha hW hn hc hE2 (fun j => ?_) (fun j => ?_) ⟨?_, fun j j0 j1 => ?_⟩ (fun k k0 k1 k2 => ⟨?_, ?_⟩), ⟨fun k k1 k2 k3 k4 => by simp (disch := omega) only [hm, alk, if_neg], fun q hq => hEq q hq, fun _ _ _ => rfl, fun k k1 => by simp (disch := omega) only [hm, alk, if_neg]⟩⟩
                  · show up f p sp j = _
                    by_cases e1 : j = p
                    · rw [e1, up_eq, if_pos rfl]
                    · rw [up_ne _ _ e1, if_neg e1, hf j]
                      by_cases e2 : p < j ∧ j ≤ sz - 1
                      · rw [if_pos e2, if_pos (by omega)]
                      · rw [if_neg e2, if_neg (by omega)]
                  · show up k p c j = _
                    by_cases e1 : j = p
                    · rw [e1, up_eq, if_pos rfl]
                    · rw [up_ne _ _ e1, if_neg e1, hk j]
                      by_cases e2 : p < j ∧ j ≤ sz - 1
                      · rw [if_pos e2, if_pos (by omega)]
                      · rw [if_neg e2, if_neg (by omega)]
                  · simp (disch := omega) only [hm, alk, if_neg, ite_true]; exact ce146
                  · simp (disch := omega) only [hm, alk, if_neg, ite_true]; exact cf146 j j0 j1
                  · simp (disch := omega) only [hm, alk, if_neg]
                  · simp (disch := omega) only [hm, alk, if_neg])
            ·
              refine A_aload_n hG 0 dX5_insert_97 rfl rfl ?_
              refine A_getR (r := 61) hG dX5_insert_98 fl_X5_11 (by decide) k60 (by decide) rfl ?_
              refine A_iload hG 5 dX5_insert_101 rfl ?_
              refine A_aload_n hG 0 dX5_insert_103 rfl rfl ?_
              refine A_getR (r := 61) hG dX5_insert_104 fl_X5_11 (by decide) k60 (by decide) rfl ?_
              refine A_iload hG 5 dX5_insert_107 rfl ?_
              refine A_iconst (n := 1) hG dX5_insert_109 ?_
              refine A_isub hG dX5_insert_110 ?_
              refine M_aald (r := f (i - 1)) hG dX5_insert_111 (Or.inl k61) n61 (by omega) rfl ?_
              refine M_aast (lr' := [(61, up f i (f (i - 1)))]) hG dX5_insert_112 k61 n61 (by rw [hf (i - 1), if_neg (by omega)]; exact obk_row (by have := hX.2.1.1 (i - 1) (by omega) (by omega); omega)) (by omega) rfl ?_
              refine A_aload_n hG 0 dX5_insert_113 rfl rfl ?_
              refine A_getR (r := 62) hG dX5_insert_114 fl_X5_17 (by decide) k60 (by decide) rfl ?_
              refine A_iload hG 5 dX5_insert_117 rfl ?_
              refine A_aload_n hG 0 dX5_insert_119 rfl rfl ?_
              refine A_getR (r := 62) hG dX5_insert_120 fl_X5_17 (by decide) k60 (by decide) rfl ?_
              refine A_iload hG 5 dX5_insert_123 rfl ?_
              refine A_iconst (n := 1) hG dX5_insert_125 ?_
              refine A_isub hG dX5_insert_126 ?_
              refine M_iald (v := k (i - 1)) hG dX5_insert_127 k62 n62 (by omega) rfl (fun ⟨ra_127, rb_127⟩ => ?_)
              refine M_iast (li' := [(60, e), (62, up k i (k (i - 1)))]) hG dX5_insert_128 k62 n62 (by omega) (by constructor <;> omega) rfl ?_
              refine A_iinc (L' := [(5, vI (i + (-1))), (0, .ref 60), (1, .ref r), (2, vI c), (3, vI p), (4, .ref sp)]) hG 5 dX5_insert_129 rfl (by decide) rfl ?_
              refine A_goto hG 91 dX5_insert_132 (by decide) ?_
              refine A_sub hG [1, 2, 3, 4, 5, 0] rfl ?_
              exact ih_i (i + (-1)) (up f i (f (i - 1))) (up k i (k (i - 1))) (by omega) (fun j => by
                  by_cases e : j = i
                  · subst e; rw [up_eq, hf, if_neg (by omega), if_pos (by omega)]
                  · rw [up_ne _ _ e, hf j]
                    by_cases e2 : i < j ∧ j ≤ sz - 1
                    · rw [if_pos e2, if_pos (by omega)]
                    · rw [if_neg e2, if_neg (by omega)]) (fun j => by
                  by_cases e : j = i
                  · subst e; rw [up_eq, hk, if_neg (by omega), if_pos (by omega)]
                  · rw [up_ne _ _ e, hk j]
                    by_cases e2 : i < j ∧ j ≤ sz - 1
                    · rw [if_pos e2, if_pos (by omega)]
                    · rw [if_neg e2, if_neg (by omega)]) (by omega)
        refine A_sub hG [2, 3, 4, 5, 1, 0] rfl ?_
        exact i_3 _ (sz - 1) (h.2.2 61) (h.1 62) (by omega) (fun j => by rw [if_neg (by omega)]) (fun j => by rw [if_neg (by omega)]) (Nat.lt_succ_self _)
      refine M_getI (z := 2) (v := many) hG dX5_insert_52 fl_X5_21 (by decide) k60 rfl rfl hX.1 (fun ⟨ra_52, rb_52⟩ => ?_)
      refine A_bipush (n := 40) hG dX5_insert_55 (by decide) ?_
      refine A_icmp_ge hG 70 dX5_insert_57 (by decide) (by constructor <;> omega) (by constructor <;> omega) (fun c_57 => ?_) (fun c_57 => ?_)
      ·
        refine A_sub hG [0, 1, 2, 3] rfl ?_
        exact b_2 (h.1 60) many hX.1 (by omega) (fun _ _ => rfl)
      ·
        refine A_aload_n hG 0 dX5_insert_60 rfl rfl ?_
        refine A_dup hG dX5_insert_61 rfl ?_
        refine M_getI (z := 2) (v := many) hG dX5_insert_62 fl_X5_21 (by decide) k60 rfl rfl hX.1 (fun ⟨ra_62, rb_62⟩ => ?_)
        refine A_iconst (n := 1) hG dX5_insert_65 ?_
        refine A_iadd hG dX5_insert_66 ?_
        refine M_putI (z := 2) (li' := [(60, up (h.1 60) 2 (many + 1))]) hG dX5_insert_67 fl_X5_21 (by decide) k60 nf_5_2 rfl rfl (by constructor <;> omega) (Or.inl rfl) rfl ?_
        refine A_sub hG [0, 1, 2, 3] rfl ?_
        exact b_2 (up (h.1 60) 2 (many + 1)) (many + 1) (up_eq _ _ _) (by omega) (fun q hq => up_ne _ _ hq)
    refine A_bipush (n := 40) hG dX5_insert_27 (by decide) ?_
    refine A_icmp_eq hG 50 dX5_insert_29 (by decide) (by constructor <;> omega) (by constructor <;> omega) (fun c_29 => ?_) (fun c_29 => ?_)
    ·
      exact Ret_v hM dX5_insert_50 (⟨⟨many, ms, topk_full hC (by omega) (fun i i0 i1 => hb i i0 (by omega)), hX⟩, frI_rf _⟩)
    ·
      refine A_iload_n hG 3 dX5_insert_32 rfl rfl ?_
      refine A_aload_n hG 0 dX5_insert_33 rfl rfl ?_
      refine M_getI (z := 2) (v := many) hG dX5_insert_34 fl_X5_21 (by decide) k60 rfl rfl hX.1 (fun ⟨ra_34, rb_34⟩ => ?_)
      refine A_icmp_ge hG 51 dX5_insert_37 (by decide) (by constructor <;> omega) (by constructor <;> omega) (fun c_37 => ?_) (fun c_37 => ?_)
      ·
        refine A_sub hG [0, 1, 2, 3] rfl ?_
        exact y_1 (by omega) (fun q => by omega)
      ·
        obtain ⟨n1, w1, hx1, hW1, hn1, hK1, hms1⟩ := hX.2.2 p (by omega) (by omega)
        have hp1 := hX.2.1.1 p (by omega) (by omega)
        have hD1 := okD_W hOk hW1 hn1
        refine A_aload_n hG 0 dX5_insert_40 rfl rfl ?_
        refine A_iload_n hG 3 dX5_insert_41 rfl rfl ?_
        refine A_aload_n hG 1 dX5_insert_42 rfl rfl ?_
        refine A_iload_n hG 2 dX5_insert_43 rfl rfl ?_
        refine C_Vi (as := [vI p, .ref r, vI c]) (st := []) (k := 60) (c := 5) hG dX5_insert_44 ml_X5_116 mf_X5_orderAt mi_X5_orderAt se_X5_orderAt rfl (by decide) k60 (x_orderAt (hm h [] [] []) (i := p) (c := c) (K := h.1 62 p) (n := n1) (n' := n) (w := w1) (w' := w) (ρ := h.2.2 61 p) (r := r) (by omega) rfl (by omega) hr rfl hK1 hc hx1 hwr hD1 hD) (by decide) (by decide) rfl rfl (Nat.le_of_ble_eq_true rfl) (fun z44 g44 ri_44 hp_44 => ?_)
        obtain ⟨ra_44, rb_44⟩ := ri_44
        obtain ⟨hz44, rfl⟩ := hp_44
        refine A_if_ne hG 51 dX5_insert_47 (by decide) (by constructor <;> omega) (fun c_47 => ?_) (fun c_47 => ?_)
        ·
          refine A_sub hG [0, 1, 2, 3] rfl ?_
          exact y_1 (by omega) (fun _ => by rw [hms1] at hd ⊢; omega)
        ·
          exact Ret_v hM dX5_insert_50 (⟨⟨many, ms, topk_has (p := p) hC (by omega) (by rw [hms1]; omega), hX⟩, frI_rf _⟩)
  have a_6 : ∀ fu : Nat, ∀ (p : Int), (0 ≤ p ∧ p ≤ many) → (∀ j, 0 ≤ j → j < p → ms j < kK c n w) → ((41 - p).toNat) < fu → G 2 [(0, .ref 60), (1, .ref r), (2, vI c), (3, vI p)] [] (hm h [] [] []) := by
    intro fu
    induction fu with
    | zero => intro p hp hb hfu; exact absurd hfu (Nat.not_lt_zero _)
    | succ fu ih_a =>
      intro p hp hb hfu
      refine A_iload_n hG 3 dX5_insert_2 rfl rfl ?_
      refine A_aload_n hG 0 dX5_insert_3 rfl rfl ?_
      refine M_getI (z := 2) (v := many) hG dX5_insert_4 fl_X5_21 (by decide) k60 rfl rfl hX.1 (fun ⟨ra_4, rb_4⟩ => ?_)
      refine A_icmp_ge hG 26 dX5_insert_7 (by decide) (by constructor <;> omega) (by constructor <;> omega) (fun c_7 => ?_) (fun c_7 => ?_)
      ·
        refine A_sub hG [0, 1, 2, 3] rfl ?_
        exact z_0 p (by omega) hb (Or.inl (by omega))
      ·
        obtain ⟨n1, w1, hx1, hW1, hn1, hK1, hms1⟩ := hX.2.2 p (by omega) (by omega)
        have hp1 := hX.2.1.1 p (by omega) (by omega)
        have hD1 := okD_W hOk hW1 hn1
        refine A_aload_n hG 0 dX5_insert_10 rfl rfl ?_
        refine A_iload_n hG 3 dX5_insert_11 rfl rfl ?_
        refine A_aload_n hG 1 dX5_insert_12 rfl rfl ?_
        refine A_iload_n hG 2 dX5_insert_13 rfl rfl ?_
        refine C_Vi (as := [vI p, .ref r, vI c]) (st := []) (k := 60) (c := 5) hG dX5_insert_14 ml_X5_116 mf_X5_orderAt mi_X5_orderAt se_X5_orderAt rfl (by decide) k60 (x_orderAt (hm h [] [] []) (i := p) (c := c) (K := h.1 62 p) (n := n1) (n' := n) (w := w1) (w' := w) (ρ := h.2.2 61 p) (r := r) (by omega) rfl (by omega) hr rfl hK1 hc hx1 hwr hD1 hD) (by decide) (by decide) rfl rfl (Nat.le_of_ble_eq_true rfl) (fun z14 g14 ri_14 hp_14 => ?_)
        obtain ⟨ra_14, rb_14⟩ := ri_14
        obtain ⟨hz14, rfl⟩ := hp_14
        refine A_if_ge hG 26 dX5_insert_17 (by decide) (by constructor <;> omega) (fun c_17 => ?_) (fun c_17 => ?_)
        ·
          refine A_sub hG [0, 1, 2, 3] rfl ?_
          exact z_0 p (by omega) hb (Or.inr (by rw [hms1]; omega))
        ·
          refine A_iinc (L' := [(3, vI (p + 1)), (0, .ref 60), (1, .ref r), (2, vI c)]) hG 3 dX5_insert_20 rfl (by decide) rfl ?_
          refine A_goto hG 2 dX5_insert_23 (by decide) ?_
          refine A_sub hG [1, 2, 3, 0] rfl ?_
          exact ih_a (p + 1) (by omega) (fun j j0 j1 => by
              by_cases e : j = p
              · rw [e, hms1]; omega
              · exact hb j j0 (by omega)) (by omega)
  refine A_sub hG [1, 2, 3, 0] rfl ?_
  exact a_6 _ 0 (by omega) (fun j j0 j1 => by omega) (Nat.lt_succ_self _)

set_option maxHeartbeats 2000000 in
set_option maxRecDepth 20000 in
theorem x_readTries (h : AH) {gn : Nat} (hg : gn = 20 ∨ gn = 40) {g : Gm} (hgx : gX h gn = g) (hOk : okG g) {nT cnt s : Int} {S : Int → Prop} (hI0 : mInv h g nT cnt S) (hs : 0 ≤ s ∧ s ≤ 64) : AMet yX5_readTries cX5_readTries 7 none 3 86 [.ref 60, .ref gn, .ref 14, vI s] h (Qv (fun h' => frM h h' ∧ ∃ cnt', ((cnt' = cnt ∧ cnt ≤ s) ∨ (cnt' = 0 ∧ s < cnt)) ∧ mInv h' g nT cnt' S)) := by
  obtain ⟨C, many, ms, Cs, W, hC, hX, hT, hS⟩ := hI0
  have hcn := hT.2.1
  have hR24 := hOk.2.1
  refine AMet.of (by decide) (Nat.le_of_ble_eq_true rfl) (fun G hM => ?_)
  have hG := hM.cx
  refine A_hm0 (G := G) (L := [(0, .ref 60), (1, .ref gn), (2, .ref 14), (3, vI s)]) ?_
  refine A_aload_n hG 0 dX5_readTries_0 rfl rfl ?_
  refine M_getI (z := 5) (v := cnt) hG dX5_readTries_1 fl_X5_31 (by decide) k60 rfl rfl hT.1 (fun ⟨ra_1, rb_1⟩ => ?_)
  refine A_iload_n hG 3 dX5_readTries_4 rfl rfl ?_
  refine A_icmp_gt hG 9 dX5_readTries_5 (by decide) (by constructor <;> omega) (by constructor <;> omega) (fun c_5 => ?_) (fun c_5 => ?_)
  ·
    refine A_aload_n hG 2 dX5_readTries_9 rfl rfl ?_
    refine C_Vv (as := []) (st := []) (k := 14) (c := 4) hG dX5_readTries_10 ml_X5_96 mf_X4_restart mi_X4_restart se_X4_restart rfl (by decide) k14 (x_lrestart (hm h [] [] [])) (by decide) (by decide) rfl rfl (Nat.le_of_ble_eq_true rfl) (fun g10 hp_10 => ?_)
    have hq_10 : ∃ fx fy : Int → Int64, ((∀ j, 0 ≤ j → j < 2560 → fx j = i2l 0) ∧ ∀ j, 0 ≤ j → j < 24 → fy j = i2l 0) ∧ g10 = hm (hm h [] [] []) [] [(15, fx), (16, fy)] [] := hp_10
    clear hp_10
    obtain ⟨f10, e10, ⟨hf10, he10⟩, rfl⟩ := hq_10
    refine A_hm (la := []) (lb := [(16, e10), (15, f10)]) (lc := []) rfl rfl rfl ?_
    refine A_iconst (n := 0) hG dX5_readTries_13 ?_
    refine A_istore (L' := [(4, vI 0), (0, .ref 60), (1, .ref gn), (2, .ref 14), (3, vI s)]) hG dX5_readTries_14 (by decide) rfl ?_
    have l_1 : ∀ fu : Nat, ∀ (l : Int) (f : Int → Int64), (0 ≤ l ∧ l ≤ cnt) → (∀ n' f', 1 ≤ n' → 0 ≤ f' → f' + n' ≤ 8 → ∀ k m, 0 ≤ k → k ≤ 9 → 0 ≤ m → m < 4 → ∀ x, 0 ≤ x → x < 64 → (bitL (f (40 * (8 * f' + n' - 1) + (4 * k + m))) x ↔ n' = 1 ∧ x < l ∧ f' < nT ∧ g 0 (W x f') = k ∧ g 1 (W x f') = m)) → ((65 - l).toNat) < fu → G 16 [(0, .ref 60), (1, .ref gn), (2, .ref 14), (3, vI s), (4, vI l)] [] (hm h [] [(16, e10), (15, f)] []) := by
      intro fu
      induction fu with
      | zero => intro l f hl hI hfu; exact absurd hfu (Nat.not_lt_zero _)
      | succ fu ih_l =>
        intro l f hl hI hfu
        refine A_iload hG 4 dX5_readTries_16 rfl ?_
        refine A_aload_n hG 0 dX5_readTries_18 rfl rfl ?_
        refine M_getI (z := 5) (v := cnt) hG dX5_readTries_19 fl_X5_31 (by decide) k60 rfl rfl hT.1 (fun ⟨ra_19, rb_19⟩ => ?_)
        refine A_icmp_ge hG 47 dX5_readTries_22 (by decide) (by constructor <;> omega) (by constructor <;> omega) (fun c_22 => ?_) (fun c_22 => ?_)
        ·
          refine A_aload_n hG 2 dX5_readTries_47 rfl rfl ?_
          refine A_aload_n hG 1 dX5_readTries_48 rfl rfl ?_
          refine A_aload_n hG 0 dX5_readTries_49 rfl rfl ?_
          refine A_getR (r := 63) hG dX5_readTries_50 fl_X5_25 (by decide) k60 (by decide) rfl ?_
          refine A_iconst (n := 0) hG dX5_readTries_53 ?_
          obtain ⟨ρ0, hρ0⟩ : ∃ ρ0 : Nat, ρ0 = 148 + ((0 : Int)).toNat := ⟨_, rfl⟩
          have hρ0r : 100 ≤ ρ0 ∧ ρ0 < 212 := by omega
          have tρ0 := hT.2.2.2 (0 : Int) (by omega) (by omega)
          unfold tOne at tρ0
          rw [← hρ0] at tρ0
          have hn8 := tρ0.2.1.1
          have hn1 := tρ0.2.2.1
          refine M_aald (r := ρ0) hG dX5_readTries_54 (Or.inl k63) n63 (by omega) ((hT.2.2.1 0 (by omega) (by omega)).trans hρ0.symm) ?_
          refine M_getI (z := 1) (v := nT) hG dX5_readTries_55 fl_X5_44 (by decide) (obk_row hρ0r) rfl rfl tρ0.1.1 (fun ⟨ra_55, rb_55⟩ => ?_)
          refine C_Uv (as := [.ref gn, vI nT]) (st := []) (k := 14) (c := 4) (owner := RX8) (x := ⟨RX4, yX8_joinAll.name, yX8_joinAll.desc⟩) (y := yX8_joinAll) hG dX5_readTries_58 lw_X5_105 sm_X4_X8_joinAll de_X8_joinAll (by decide) rfl mf_X8_joinAll mi_X8_joinAll su_X4_X8_joinAll rfl (by decide) k14 (x_joinAll14 (hm h [] [(16, e10), (15, f)] []) hg (g := g) hgx hOk (N := nT) (W := W) (Ls := (fun x => x < cnt)) (by omega) (fun x x0 x1 hx n' f' h1 h2 h3 k m k0 k1 m0 m1 => by
              have hx : x < cnt := hx
              refine (hI n' f' h1 h2 (by omega) k m k0 k1 m0 m1 x x0 x1).trans ?_
              constructor
              · rintro ⟨rfl, a2, a3, a4, a5⟩
                exact ⟨rfl, (rd_1 _ _ _).mpr ⟨a4, a5⟩⟩
              · rintro ⟨rfl, q⟩
                have := (rd_1 _ _ _).mp q
                exact ⟨rfl, by omega, by omega, this.1, this.2⟩)) (by decide) (by decide) rfl rfl (Nat.le_of_ble_eq_true rfl) (fun g58 hp_58 => ?_)
          have hq_58 : ∃ fx : Int → Int64, (∀ x, 0 ≤ x → x < 64 → (fun x => x < cnt) x → ∀ n' f', 1 ≤ n' → 0 ≤ f' → f' + n' ≤ nT → ∀ k m, 0 ≤ k → k ≤ 9 → 0 ≤ m → m < 4 → (bitL (fx (40 * (8 * f' + n' - 1) + (4 * k + m))) x ↔ rd g (fun q => bitL (e10 q) x) (W x) n' f' k m)) ∧ g58 = hm (hm h [] [(16, e10), (15, f)] []) [] [(15, fx)] [] := hp_58
          clear hp_58
          obtain ⟨f58, hf58, rfl⟩ := hq_58
          refine A_hm (la := []) (lb := [(16, e10), (15, f58)]) (lc := []) rfl rfl rfl ?_
          refine A_aload_n hG 2 dX5_readTries_61 rfl rfl ?_
          refine A_aload_n hG 0 dX5_readTries_62 rfl rfl ?_
          refine A_getR (r := 63) hG dX5_readTries_63 fl_X5_25 (by decide) k60 (by decide) rfl ?_
          refine A_iconst (n := 0) hG dX5_readTries_66 ?_
          refine M_aald (r := ρ0) hG dX5_readTries_67 (Or.inl k63) n63 (by omega) ((hT.2.2.1 0 (by omega) (by omega)).trans hρ0.symm) ?_
          refine M_getI (z := 1) (v := nT) hG dX5_readTries_68 fl_X5_44 (by decide) (obk_row hρ0r) rfl rfl tρ0.1.1 (fun ⟨ra_68, rb_68⟩ => ?_)
          refine C_Vl (as := [vI nT]) (st := []) (k := 14) (c := 4) hG dX5_readTries_71 ml_X5_109 mf_X4_readLanes mi_X4_readLanes se_X4_readLanes rfl (by decide) k14 (x_readLanes (hm h [] [(16, e10), (15, f58)] []) (n := nT) (by omega)) (by decide) (by decide) rfl rfl (Nat.le_of_ble_eq_true rfl) (fun z71 g71 hp_71 => ?_)
          have hq_71 : (∀ x, bitL z71 x ↔ ∃ q, 0 ≤ q ∧ q < 4 ∧ bitL (f58 (40 * (nT - 1) + q)) x) ∧ g71 = hm h [] [(16, e10), (15, f58)] [] := hp_71
          clear hp_71
          obtain ⟨hz71, rfl⟩ := hq_71
          have hrd : ∀ x, 0 ≤ x → x < cnt → (bitL z71 x ↔ READ g (hasb 0) (W x) nT) := fun x x0 x1 => by
              rw [hz71 x]
              have e : READ g (hasb 0) (W x) nT ↔ READ g (fun q => bitL (e10 q) x) (W x) nT := READ_congr (fun r r0 r1 => ⟨fun q => absurd q (hasb_0 (by omega)), fun q => absurd q (by rw [he10 r r0 (by omega)]; exact bitL_0 x)⟩) (by omega) (fun _ _ _ => rfl)
              rw [e]
              unfold READ
              constructor
              · rintro ⟨q, q0, q1, q2⟩
                refine ⟨q, q0, q1, (hf58 x x0 (by omega) x1 nT 0 (by omega) (by omega) (by omega) 0 q (by omega) (by omega) q0 q1).mp ?_⟩
                rw [show 40 * (8 * 0 + nT - 1) + (4 * 0 + q) = 40 * (nT - 1) + q by omega]; exact q2
              · rintro ⟨q, q0, q1, q2⟩
                refine ⟨q, q0, q1, ?_⟩
                have := (hf58 x x0 (by omega) x1 nT 0 (by omega) (by omega) (by omega) 0 q (by omega) (by omega) q0 q1).mpr q2
                rw [show 40 * (8 * 0 + nT - 1) + (4 * 0 + q) = 40 * (nT - 1) + q by omega] at this; exact this
          refine A_lstore (L' := [(4, .long z71), (0, .ref 60), (1, .ref gn), (2, .ref 14), (3, vI s)]) hG dX5_readTries_74 (by decide) rfl ?_
          refine A_iconst (n := 0) hG dX5_readTries_76 ?_
          refine A_istore (L' := [(6, vI 0), (4, .long z71), (0, .ref 60), (1, .ref gn), (2, .ref 14), (3, vI s)]) hG dX5_readTries_77 (by decide) rfl ?_
          have i_4 : ∀ fu : Nat, ∀ (l : Int) (h1 : AH), (0 ≤ l ∧ l ≤ cnt) → (frI h h1) → (∃ many ms, topk (fun y => C y ∨ tSet g nT W Cs l y) many ms ∧ mX h1 g many ms) → ((65 - l).toNat) < fu → G 79 [(0, .ref 60), (1, .ref gn), (2, .ref 14), (3, vI s), (4, .long z71), (6, vI l)] [] (hm h1 [] [] []) := by
            intro fu
            induction fu with
            | zero => intro l h1 hl hF hJ hfu; exact absurd hfu (Nat.not_lt_zero _)
            | succ fu ih_i =>
              intro l h1 hl hF hJ hfu
              obtain ⟨mj, nj, hCj, hXj⟩ := hJ
              refine A_iload hG 5 dX5_readTries_79 rfl ?_
              refine A_aload_n hG 0 dX5_readTries_81 rfl rfl ?_
              refine M_getI (z := 5) (v := cnt) hG dX5_readTries_82 fl_X5_31 (by decide) k60 rfl rfl ((hF.2.1 5 (by omega)).trans hT.1) (fun ⟨ra_82, rb_82⟩ => ?_)
              refine A_icmp_ge hG 124 dX5_readTries_85 (by decide) (by constructor <;> omega) (by constructor <;> omega) (fun c_85 => ?_) (fun c_85 => ?_)
              ·
                refine A_aload_n hG 0 dX5_readTries_124 rfl rfl ?_
                refine A_iconst (n := 0) hG dX5_readTries_125 ?_
                refine M_putI (z := 5) (li' := [(60, up (h1.1 60) 5 0)]) hG dX5_readTries_126 fl_X5_31 (by decide) k60 nf_5_5 rfl rfl (by constructor <;> omega) (Or.inl rfl) rfl ?_
                exact Ret_v hM dX5_readTries_129 (by
                    have hlc : l = cnt := by omega
                    subst hlc
                    have hm4 := hCj.1
                    refine ⟨⟨fun k k1 k2 _ k4 k5 => ?_, fun k k1 k2 => hF.2.2.1 k k1 k2, fun k k1 => hF.2.2.2 k k1⟩, 0, Or.inr ⟨rfl, by omega⟩, mInv_read hS hCj (mX_eq (h := h1) hm4.2 ?_ rfl rfl (fun k k1 k2 => ⟨?_, ?_⟩) hXj) (show up (h1.1 60) 5 0 5 = 0 from up_eq _ _ _) (fun l l0 l1 => (congrFun (hF.2.2.2 63 (by omega)) l).trans (hT.2.2.1 l l0 l1))⟩
                    · simp (disch := omega) only [hm, alk, if_neg]; exact hF.1 k k1 k2 (by omega) (by omega)
                    · exact (show up (h1.1 60) 5 0 2 = _ from up_ne _ _ (by omega))
                    · simp (disch := omega) only [hm, alk, if_neg]
                    · simp (disch := omega) only [hm, alk, if_neg])
              ·
                refine A_lload hG 4 dX5_readTries_88 rfl ?_
                refine A_iload hG 5 dX5_readTries_90 rfl ?_
                refine A_lushr hG dX5_readTries_92 ?_
                refine A_lconst (v := i2l 1) hG dX5_readTries_93 (by decide) ?_
                refine A_land hG dX5_readTries_94 ?_
                refine A_lconst (v := i2l 1) hG dX5_readTries_95 (by decide) ?_
                refine A_lcmp hG dX5_readTries_96 ?_
                refine A_if_ne hG 118 dX5_readTries_97 (by decide) (ir_lcmp _ _) (fun c_97 => ?_) (fun c_97 => ?_)
                ·
                  have hnr : ¬ READ g (hasb 0) (W l) nT := fun q => c_97 ((lane_bit z71 (by omega)).mpr ((hrd l (by omega) (by omega)).mpr q))
                  refine A_iinc (L' := [(6, vI (l + 1)), (0, .ref 60), (1, .ref gn), (2, .ref 14), (3, vI s), (4, .long z71)]) hG 5 dX5_readTries_118 rfl (by decide) rfl ?_
                  refine A_goto hG 79 dX5_readTries_121 (by decide) ?_
                  refine A_sub hG [1, 2, 3, 4, 5, 0] rfl ?_
                  exact ih_i (l + 1) h1 (by omega) hF (⟨mj, nj, topk_congr hCj (fun y => by rw [tSet_s (by omega) y]; exact ⟨fun q => q.imp id Or.inl, fun q => q.imp id (fun q => q.elim id (fun q => absurd q.1 hnr))⟩), hXj⟩) (by omega)
                ·
                  obtain ⟨ρ, hρ⟩ : ∃ ρ : Nat, ρ = 148 + (l).toNat := ⟨_, rfl⟩
                  have hρr : 100 ≤ ρ ∧ ρ < 212 := by omega
                  have tρ := hT.2.2.2 l (by omega) (by omega)
                  unfold tOne at tρ
                  rw [← hρ] at tρ
                  have hWl := tρ.2.1
                  have hyr : READ g (hasb 0) (W l) nT := (hrd l (by omega) (by omega)).mp ((lane_bit z71 (by omega)).mp c_97)
                  refine A_aload_n hG 0 dX5_readTries_100 rfl rfl ?_
                  refine A_aload_n hG 0 dX5_readTries_101 rfl rfl ?_
                  refine A_getR (r := 63) hG dX5_readTries_102 fl_X5_25 (by decide) k60 (by decide) rfl ?_
                  refine A_iload hG 5 dX5_readTries_105 rfl ?_
                  refine M_aald (r := ρ) hG dX5_readTries_107 (Or.inl k63) n63 (by omega) ((congrFun (hF.2.2.2 63 (by omega)) l).trans ((hT.2.2.1 l (by omega) (by omega)).trans hρ.symm)) ?_
                  refine A_aload_n hG 0 dX5_readTries_108 rfl rfl ?_
                  refine A_getR (r := 64) hG dX5_readTries_109 fl_X5_28 (by decide) k60 (by decide) rfl ?_
                  refine A_iload hG 5 dX5_readTries_112 rfl ?_
                  refine M_iald (v := (Cs l)) hG dX5_readTries_114 k64 n64 (by omega) ((congrFun (hF.1 64 (by omega) (by omega) (by omega) (by omega)) l).trans tρ.2.2.2.1) (fun ⟨ra_114, rb_114⟩ => ?_)
                  refine C_Vv (as := [.ref ρ, vI (Cs l)]) (st := []) (k := 60) (c := 5) hG dX5_readTries_115 ml_X5_113 mf_X5_insert mi_X5_insert se_X5_insert rfl (by decide) k60 (x_insert (hm h1 [] [] []) (g := g) hOk (many := mj) (c := (Cs l)) (n := nT) (ms := nj) (w := (W l)) (C := (fun y => C y ∨ tSet g nT W Cs l y)) (r := ρ) hXj hCj (by omega) (rowX_eq (hF.1 ρ (by omega) (by omega) (by omega) (by omega)) (hF.1 (ρ + 200) (by omega) (by omega) (by omega) (by omega)) tρ.1) hWl (by omega) ⟨tρ.2.2.2.2.1, tρ.2.2.2.2.2⟩) (by decide) (by decide) rfl rfl (Nat.le_of_ble_eq_true rfl) (fun g115 hp_115 => ?_)
                  have hq_115 : (∃ (many' : Int) (ms' : Int → Int), topk (fun y => (fun y => C y ∨ tSet g nT W Cs l y) y ∨ y = kK (Cs l) nT (W l)) many' ms' ∧ mX g115 g many' ms') ∧ frI h1 g115 := hp_115
                  clear hp_115
                  obtain ⟨⟨many115, ms115, hC115, hX115⟩, hF115⟩ := hq_115
                  refine A_hm0 ?_
                  refine A_iinc (L' := [(6, vI (l + 1)), (0, .ref 60), (1, .ref gn), (2, .ref 14), (3, vI s), (4, .long z71)]) hG 5 dX5_readTries_118 rfl (by decide) rfl ?_
                  refine A_goto hG 79 dX5_readTries_121 (by decide) ?_
                  refine A_sub hG [1, 2, 3, 4, 5, 0] rfl ?_
                  exact ih_i (l + 1) g115 (by omega) (frI_tr hF hF115) (⟨many115, ms115, topk_congr hC115 (fun y => by rw [tSet_s (by omega) y]; exact ⟨fun q => q.elim (fun q => q.imp id Or.inl) (fun q => Or.inr (Or.inr ⟨hyr, q⟩)), fun q => q.elim (fun q => Or.inl (Or.inl q)) (fun q => q.elim (fun q => Or.inl (Or.inr q)) (fun q => Or.inr q.2))⟩), hX115⟩) (by omega)
          refine A_sub hG [2, 3, 4, 5, 1, 0] rfl ?_
          exact i_4 _ 0 (hm h [] [(16, e10), (15, f58)] []) (by omega) (⟨fun _ _ _ _ _ => rfl, fun _ _ => rfl, fun k k1 k2 => by simp (disch := omega) only [hm, alk, if_neg], fun _ _ => rfl⟩) (⟨many, ms, topk_congr hC (fun y => ⟨Or.inl, fun q => q.elim id (fun ⟨l, l0, l1, _⟩ => by omega)⟩), hX⟩) (Nat.lt_succ_self _)
        ·
          refine A_aload_n hG 2 dX5_readTries_25 rfl rfl ?_
          refine A_aload_n hG 1 dX5_readTries_26 rfl rfl ?_
          refine A_aload_n hG 0 dX5_readTries_27 rfl rfl ?_
          refine A_getR (r := 63) hG dX5_readTries_28 fl_X5_25 (by decide) k60 (by decide) rfl ?_
          refine A_iload hG 4 dX5_readTries_31 rfl ?_
          obtain ⟨ρ, hρ⟩ : ∃ ρ : Nat, ρ = 148 + (l).toNat := ⟨_, rfl⟩
          have hρr : 100 ≤ ρ ∧ ρ < 212 := by omega
          have tρ := hT.2.2.2 l (by omega) (by omega)
          unfold tOne at tρ
          rw [← hρ] at tρ
          have hWl := tρ.2.1
          refine M_aald (r := ρ) hG dX5_readTries_33 (Or.inl k63) n63 (by omega) ((hT.2.2.1 l (by omega) (by omega)).trans hρ.symm) ?_
          refine A_lconst (v := i2l 1) hG dX5_readTries_34 (by decide) ?_
          refine A_iload hG 4 dX5_readTries_35 rfl ?_
          refine A_lshl hG dX5_readTries_37 ?_
          refine C_Vv (as := [.ref gn, .ref ρ, .long (lshl (i2l 1) l)]) (st := []) (k := 14) (c := 4) hG dX5_readTries_38 ml_X5_101 mf_X4_putRow mi_X4_putRow se_X4_putRow rfl (by decide) k14 (x_putRow (hm h [] [(16, e10), (15, f)] []) hg (g := g) hgx hρr hOk (n := nT) (w := (W l)) tρ.1 hWl (lshl (i2l 1) l)) (by decide) (by decide) rfl rfl (Nat.le_of_ble_eq_true rfl) (fun g38 hp_38 => ?_)
          have hq_38 : ∃ fx : Int → Int64, (∀ n' f', 1 ≤ n' → 0 ≤ f' → f' + n' ≤ 8 → ∀ k m, 0 ≤ k → k ≤ 9 → 0 ≤ m → m < 4 → ∀ x, 0 ≤ x → x < 64 → (bitL (fx (40 * (8 * f' + n' - 1) + (4 * k + m))) x ↔ bitL (f (40 * (8 * f' + n' - 1) + (4 * k + m))) x ∨ (n' = 1 ∧ f' < nT ∧ g 0 ((W l) f') = k ∧ g 1 ((W l) f') = m ∧ bitL (lshl (i2l 1) l) x))) ∧ g38 = hm (hm h [] [(16, e10), (15, f)] []) [] [(15, fx)] [] := hp_38
          clear hp_38
          obtain ⟨f38, hf38, rfl⟩ := hq_38
          refine A_hm (la := []) (lb := [(16, e10), (15, f38)]) (lc := []) rfl rfl rfl ?_
          refine A_iinc (L' := [(4, vI (l + 1)), (0, .ref 60), (1, .ref gn), (2, .ref 14), (3, vI s)]) hG 4 dX5_readTries_41 rfl (by decide) rfl ?_
          refine A_goto hG 16 dX5_readTries_44 (by decide) ?_
          refine A_sub hG [1, 2, 3, 4, 0] rfl ?_
          exact ih_l (l + 1) f38 (by omega) (fun n' f' h1 h2 h3 k m k0 k1 m0 m1 x x0 x1 => by
              rw [hf38 n' f' h1 h2 h3 k m k0 k1 m0 m1 x x0 x1, hI n' f' h1 h2 h3 k m k0 k1 m0 m1 x x0 x1, bitL_one (by omega) ⟨x0, x1⟩]
              constructor
              · rintro (⟨a1, a2, a3, a4, a5⟩ | ⟨a1, a2, a3, a4, rfl⟩)
                · exact ⟨a1, by omega, a3, a4, a5⟩
                · exact ⟨a1, by omega, a2, a3, a4⟩
              · rintro ⟨a1, a2, a3, a4, a5⟩
                by_cases e : x = l
                · subst e; exact Or.inr ⟨a1, a3, a4, a5, rfl⟩
                · exact Or.inl ⟨a1, by omega, a3, a4, a5⟩) (by omega)
    refine A_sub hG [1, 2, 3, 4, 0] rfl ?_
    exact l_1 _ 0 f10 (by omega) (fun n' f' h1 h2 h3 k m k0 k1 m0 m1 x x0 x1 => by
        rw [hf10 _ (by omega) (by omega)]
        exact ⟨fun q => absurd q (bitL_0 x), fun q => by omega⟩) (Nat.lt_succ_self _)
  ·
    exact Ret_v hM dX5_readTries_8 (⟨frM_rf _, cnt, Or.inl ⟨rfl, by omega⟩, C, many, ms, Cs, W, hC, hX, hT, hS⟩)

end
