/-! the class: mends: all changes, the place of a row (printed by gen) -/
section
section
variable {g : Gm} {w : Int → Int} {n p v : Int} {q : Int → Prop}
/-! the changes that are looked at, one after the other -/
def dS (p v : Int) : Int → Int → Int → Prop := fun c' p' v' => c' = 0 ∧ (p' < p ∨ (p' = p ∧ v' < v))
def dO (p : Int) : Int → Int → Int → Prop := fun c' p' _ => c' = 0 ∨ (c' = 1 ∧ p' < p)
def dN (p v : Int) : Int → Int → Int → Prop := fun c' p' v' => c' = 0 ∨ c' = 1 ∨ (c' = 2 ∧ (p' < p ∨ (p' = p ∧ v' < v)))
theorem mayC_w {c' p' v' : Int} (h : mayC g w n q c' p' v') : 0 ≤ p' ∧ ((c' = 0 ∧ p' < n ∧ 0 ≤ v' ∧ v' < g 10 0) ∨ (c' = 1 ∧ p' < n ∧ v' = 0 ∧ 2 ≤ n) ∨ (c' = 2 ∧ p' ≤ n ∧ 0 ≤ v' ∧ v' < g 10 0 ∧ n < 8)) := by
  obtain ⟨h0, h1 | h1 | h1⟩ := h
  · exact ⟨h0, Or.inl ⟨h1.1, h1.2.1, h1.2.2.2.1, h1.2.2.2.2.1⟩⟩
  · exact ⟨h0, Or.inr (Or.inl ⟨h1.1, h1.2.1, h1.2.2.2.1, h1.2.2.2.2⟩)⟩
  · exact ⟨h0, Or.inr (Or.inr h1)⟩
theorem mayC_q {c' p' v' : Int} (h : mayC g w n q c' p' v') (hc : c' = 0 ∨ c' = 1) : ¬ q p' := by
  obtain ⟨h0, h1 | h1 | h1⟩ := h
  · exact h1.2.2.1
  · exact h1.2.2.1
  · omega
theorem inv_S (hm : mayC g w n q 0 p v) (y : Int) : cnd g w n q (dS p (v + 1)) y ↔ cnd g w n q (dS p v) y ∨ (READ g (hasb 0) (rowC w 0 p v) n ∧ y = kK (swpP g (g 9) (w p) v) n (rowC w 0 p v)) := cnd_add hm (fun c' p' v' _ => by unfold dS; omega) y
theorem inv_Sn (hm : ¬ mayC g w n q 0 p v) (y : Int) : cnd g w n q (dS p (v + 1)) y ↔ cnd g w n q (dS p v) y := cnd_no hm (fun c' p' v' _ => by unfold dS; omega) y
theorem inv_Sr (hv : g 10 0 ≤ v) (y : Int) : cnd g w n q (dS p v) y ↔ cnd g w n q (dS (p + 1) 0) y := cnd_sub (fun c' p' v' hm => by have := mayC_w hm; unfold dS; omega) y
theorem inv_Sq (hq : q p) (y : Int) : cnd g w n q (dS p 0) y ↔ cnd g w n q (dS (p + 1) 0) y := cnd_sub (fun c' p' v' hm => by
  have h1 := mayC_w hm
  have h2 : c' = 0 → p' ≠ p := fun e1 e2 => mayC_q hm (Or.inl e1) (by rw [e2]; exact hq)
  unfold dS
  by_cases e : c' = 0
  · have := h2 e; omega
  · omega) y
theorem inv_SO (hp : n ≤ p) (y : Int) : cnd g w n q (dS p 0) y ↔ cnd g w n q (dO 0) y := cnd_sub (fun c' p' v' hm => by have := mayC_w hm; unfold dS dO; omega) y
theorem inv_O (hm : mayC g w n q 1 p 0) (y : Int) : cnd g w n q (dO (p + 1)) y ↔ cnd g w n q (dO p) y ∨ (READ g (hasb 0) (rowC w 1 p 0) (n - 1) ∧ y = kK (g 9 3) (n - 1) (rowC w 1 p 0)) := cnd_add hm (fun c' p' v' h => by have := mayC_w h; unfold dO; omega) y
theorem inv_On (hq : q p) (y : Int) : cnd g w n q (dO p) y ↔ cnd g w n q (dO (p + 1)) y := cnd_sub (fun c' p' v' hm => by
  have h1 := mayC_w hm
  have h2 : c' = 1 → p' ≠ p := fun e1 e2 => mayC_q hm (Or.inr e1) (by rw [e2]; exact hq)
  unfold dO
  by_cases e : c' = 1
  · have := h2 e; omega
  · omega) y
theorem inv_ON (hp : n ≤ p ∨ n ≤ 1) (y : Int) : cnd g w n q (dO p) y ↔ cnd g w n q (dN 0 0) y := cnd_sub (fun c' p' v' hm => by have := mayC_w hm; unfold dN dO; omega) y
theorem inv_N (hm : mayC g w n q 2 p v) (y : Int) : cnd g w n q (dN p (v + 1)) y ↔ cnd g w n q (dN p v) y ∨ (READ g (hasb 0) (rowC w 2 p v) (n + 1) ∧ y = kK (g 9 4) (n + 1) (rowC w 2 p v)) := cnd_add hm (fun c' p' v' h => by have := mayC_w h; unfold dN; omega) y
theorem inv_Nr (hv : g 10 0 ≤ v) (y : Int) : cnd g w n q (dN p v) y ↔ cnd g w n q (dN (p + 1) 0) y := cnd_sub (fun c' p' v' hm => by have := mayC_w hm; unfold dN; omega) y
theorem inv_NT (hp : n < p ∨ 8 ≤ n) (y : Int) : cnd g w n q (dN p 0) y ↔ cnd g w n q (fun _ _ _ => True) y := cnd_sub (fun c' p' v' hm => ⟨fun _ => trivial, fun _ => by have := mayC_w hm; unfold dN; omega⟩) y
theorem mInv_new {h : AH} {nT : Int} (hP : mPer (h.2.2 61)) (hT : tRf h) : mInv (hm h [(60, up (up (h.1 60) 2 0) 5 0)] [] []) g nT 0 (cnd g w n q (dS 0 0)) :=
  ⟨fun _ => False, 0, fun _ => 0, fun _ => 0, fun _ _ => 0, topk_0, ⟨rfl, hP, fun k k0 k1 => by omega⟩, ⟨rfl, by omega, hT, fun l l0 l1 => by omega⟩, fun y => ⟨fun ⟨c, p, v, hd, hm, _⟩ => by
    exfalso
    have := mayC_w hm
    unfold dS at hd
    omega, fun q => q.elim False.elim (fun ⟨l, l0, l1, _⟩ => by omega)⟩⟩
end
set_option maxHeartbeats 2000000 in
set_option maxRecDepth 20000 in
theorem x_addSwaps (h : AH) {gn : Nat} (hg : gn = 20 ∨ gn = 40) {g : Gm} (hgx : gX h gn = g) (hOk : okG g) {r : Nat} (hr0 : 100 ≤ r ∧ r < 108) {n p cnt : Int} {w : Int → Int} {q : Int → Prop} (hwr : rowX h r n w) (hW : okW g w n) (hp : 0 ≤ p ∧ p < n) (hq : ¬ q p) (hI0 : mInv h g n cnt (cnd g w n q (dS p 0))) (hc : cnt ≤ 48) : AMet yX5_addSwaps cX5_addSwaps 7 none 3 84 [.ref 60, .ref gn, .ref r, vI p] h (Qv (fun h' => frM h h' ∧ ∃ cnt', cnt' ≤ 64 ∧ mInv h' g n cnt' (cnd g w n q (dS (p + 1) 0)))) := by
  have hgx0 := hgx
  have hwr0 := hwr
  have hn8 := hW.1
  have hgw := hOk.1
  have hpp := hOk.2.2.2.2
  have hr : 100 ≤ r ∧ r < 212 := by omega
  have hown := hW.2 p hp.1 hp.2
  refine AMet.of (by decide) (Nat.le_of_ble_eq_true rfl) (fun G hM => ?_)
  have hG := hM.cx
  refine A_hm0 (G := G) (L := [(0, .ref 60), (1, .ref gn), (2, .ref r), (3, vI p)]) ?_
  refine A_aload_n hG 2 dX5_addSwaps_0 rfl rfl ?_
  refine A_getR (r := (r + 200)) hG dX5_addSwaps_1 fl_X5_81 (by decide) (obk_row hr) (by decide) rfl ?_
  refine A_iload_n hG 3 dX5_addSwaps_4 rfl rfl ?_
  refine M_iald (v := (w p)) hG dX5_addSwaps_5 (obk_rw hr) (obn_rw hr) (by omega) (hwr.2 p hp.1 hp.2) (fun ⟨ra_5, rb_5⟩ => ?_)
  refine A_istore (L' := [(4, vI (w p)), (0, .ref 60), (1, .ref gn), (2, .ref r), (3, vI p)]) hG dX5_addSwaps_6 (by decide) rfl ?_
  refine A_iconst (n := 0) hG dX5_addSwaps_8 ?_
  refine A_istore (L' := [(5, vI 0), (4, vI (w p)), (0, .ref 60), (1, .ref gn), (2, .ref r), (3, vI p)]) hG dX5_addSwaps_9 (by decide) rfl ?_
  have v_0 : ∀ fu : Nat, ∀ (v : Int) (h1 : AH) (ct : Int), (0 ≤ v ∧ v ≤ g 10 0) → (frM h h1) → (ct ≤ cnt + v) → (mInv h1 g n ct (cnd g w n q (dS p v))) → ((17 - v).toNat) < fu → G 11 [(0, .ref 60), (1, .ref gn), (2, .ref r), (3, vI p), (4, vI (w p)), (5, vI v)] [] (hm h1 [] [] []) := by
    intro fu
    induction fu with
    | zero => intro v h1 ct hv hF hct hJ hfu; exact absurd hfu (Nat.not_lt_zero _)
    | succ fu ih_v =>
      intro v h1 ct hv hF hct hJ hfu
      have hgx := frM_gX hg hF hgx0
      have hwr := frM_row hr0 hF hwr0
      have hcn := mInv_cnt hJ
      refine A_iload hG 5 dX5_addSwaps_11 rfl ?_
      refine A_aload_n hG 1 dX5_addSwaps_13 rfl rfl ?_
      refine M_getI (z := 4) (v := g 10 0) hG dX5_addSwaps_14 fl_X5_70 (by decide) (kg0 hg) rfl rfl ((gx_n hgx).1) (fun ⟨ra_14, rb_14⟩ => ?_)
      refine A_icmp_ge hG 67 dX5_addSwaps_17 (by decide) (by constructor <;> omega) (by constructor <;> omega) (fun c_17 => ?_) (fun c_17 => ?_)
      ·
        exact Ret_v hM dX5_addSwaps_67 (⟨hF, ct, by omega, mInv_congr (fun y => inv_Sr (by omega) y) hJ⟩)
      ·
        refine A_aload_n hG 1 dX5_addSwaps_20 rfl rfl ?_
        refine A_iload hG 4 dX5_addSwaps_21 rfl ?_
        refine A_iload hG 5 dX5_addSwaps_23 rfl ?_
        refine A_aload_n hG 1 dX5_addSwaps_25 rfl rfl ?_
        refine A_getR (r := (gn + 10)) hG dX5_addSwaps_26 fl_X5_57 (by decide) (kg0 hg) (by decide) rfl ?_
        refine C_Vi (as := [vI (w p), vI v, .ref (gn + 10)]) (st := []) (k := gn) (c := 1) hG dX5_addSwaps_29 ml_X5_83 mf_X1_swapPrice mi_X1_swapPrice se_X1_swapPrice rfl (by decide) (kg0 hg) (x_swapPrice (hm h1 [] [] []) hg (g := g) hgx hOk (u := (w p)) (v := v) hown (by omega) (pk := gn + 10) (kg10 hg) (ng10 hg) (p := (g 9)) (fun c c0 c1 => gx_p hgx ⟨c0, c1⟩) hpp) (by decide) (by decide) rfl rfl (Nat.le_of_ble_eq_true rfl) (fun z29 g29 ri_29 hp_29 => ?_)
        obtain ⟨ra_29, rb_29⟩ := ri_29
        obtain ⟨hz29, rfl⟩ := hp_29
        refine A_istore (L' := [(6, vI z29), (0, .ref 60), (1, .ref gn), (2, .ref r), (3, vI p), (4, vI (w p)), (5, vI v)]) hG dX5_addSwaps_32 (by decide) rfl ?_
        refine A_iload hG 6 dX5_addSwaps_34 rfl ?_
        refine A_iload hG 5 dX5_addSwaps_36 rfl ?_
        refine A_icmp_eq hG 61 dX5_addSwaps_38 (by decide) (by constructor <;> omega) (by constructor <;> omega) (fun c_38 => ?_) (fun c_38 => ?_)
        ·
          have hmay : ¬ mayC g w n q 0 p v := fun hm => by
              obtain ⟨h0, h1 | h1 | h1⟩ := hm
              · exact h1.2.2.2.2.2.1 c_38
              · omega
              · omega
          refine A_iinc (L' := [(5, vI (v + 1)), (6, vI z29), (0, .ref 60), (1, .ref gn), (2, .ref r), (3, vI p), (4, vI (w p))]) hG 6 dX5_addSwaps_61 rfl (by decide) rfl ?_
          refine A_goto hG 11 dX5_addSwaps_64 (by decide) ?_
          refine A_sub hG [2, 3, 4, 5, 6, 0] rfl ?_
          exact ih_v (v + 1) h1 ct (by omega) hF (by omega) (mInv_congr (fun y => (inv_Sn hmay y).symm) hJ) (by omega)
        ·
          refine A_iload hG 0 dX5_addSwaps_41 rfl ?_
          refine A_bipush (n := 100) hG dX5_addSwaps_43 (by decide) ?_
          refine A_icmp_ge hG 61 dX5_addSwaps_45 (by decide) (by constructor <;> omega) (by constructor <;> omega) (fun c_45 => ?_) (fun c_45 => ?_)
          ·
            have hmay : ¬ mayC g w n q 0 p v := fun hm => by
                obtain ⟨h0, h1 | h1 | h1⟩ := hm
                · have := h1.2.2.2.2.2.2; omega
                · omega
                · omega
            refine A_iinc (L' := [(5, vI (v + 1)), (6, vI z29), (0, .ref 60), (1, .ref gn), (2, .ref r), (3, vI p), (4, vI (w p))]) hG 6 dX5_addSwaps_61 rfl (by decide) rfl ?_
            refine A_goto hG 11 dX5_addSwaps_64 (by decide) ?_
            refine A_sub hG [2, 3, 4, 5, 6, 0] rfl ?_
            exact ih_v (v + 1) h1 ct (by omega) hF (by omega) (mInv_congr (fun y => (inv_Sn hmay y).symm) hJ) (by omega)
          ·
            have hmay : mayC g w n q 0 p v := ⟨hp.1, Or.inl ⟨rfl, hp.2, hq, by omega, by omega, c_38, by omega⟩⟩
            have hzr := swpP_rng (g := g) (pr := g 9) (hpp 0 (by omega) (by omega)) (hpp 1 (by omega) (by omega)) (hpp 2 (by omega) (by omega)) (u := w p) (v := v)
            refine A_aload_n hG 1 dX5_addSwaps_48 rfl rfl ?_
            refine A_iload hG 0 dX5_addSwaps_49 rfl ?_
            refine C_Vr (as := [vI z29]) (st := []) (k := 60) (c := 5) hG dX5_addSwaps_51 ml_X5_62 mf_X5_nextTry mi_X5_nextTry se_X5_nextTry rfl (by decide) k60 (x_nextTry (hm h1 [] [] []) (c := z29) (t := ct) hcn.1 (by omega) hcn.2.2 (by omega)) (by decide) (by decide) rfl rfl (Nat.le_of_ble_eq_true rfl) (fun z51 g51 hp_51 => ?_)
            have hq_51 : z51 = 148 + (ct).toNat ∧ g51 = hm (hm h1 [] [] []) [(64, up (h1.1 64) ct z29), (60, up (h1.1 60) 5 (ct + 1))] [] [] := hp_51
            clear hp_51
            obtain ⟨hk51, rfl⟩ := hq_51
            have hkr51 : 100 ≤ z51 ∧ z51 < 212 := by omega
            refine A_hm (la := [(60, up (h1.1 60) 5 (ct + 1)), (64, up (h1.1 64) ct z29)]) (lb := []) (lc := []) rfl rfl rfl ?_
            refine A_aload_n hG 3 dX5_addSwaps_54 rfl rfl ?_
            refine A_iload_n hG 4 dX5_addSwaps_55 rfl rfl ?_
            refine A_iload hG 6 dX5_addSwaps_56 rfl ?_
            refine C_Vv (as := [.ref r, vI p, vI v]) (st := []) (k := z51) (c := 7) hG dX5_addSwaps_58 ml_X5_87 mf_X7_copySwapped mi_X7_copySwapped se_X7_copySwapped rfl (by decide) (obk_row hkr51) (x_copySwapped (hm h1 [(60, up (h1.1 60) 5 (ct + 1)), (64, up (h1.1 64) ct z29)] [] []) hkr51 hr (by omega) (n := n) (w := w) (rowX_eq (by simp (disch := omega) only [hm, alk, if_neg, if_pos, ite_true]) (by simp (disch := omega) only [hm, alk, if_neg, if_pos, ite_true]) hwr) (p := p) (v := v) (by omega) (by omega) (by constructor <;> omega)) (by decide) (by decide) rfl rfl (Nat.le_of_ble_eq_true rfl) (fun g58 hp_58 => ?_)
            have hq_58 : ∃ ex fx : Int → Int, (ex 1 = lenC n 0 ∧ (∀ q, q ≠ 1 → ex q = (hm h1 [(60, up (h1.1 60) 5 (ct + 1)), (64, up (h1.1 64) ct z29)] [] []).1 z51 q) ∧ ∀ j, 0 ≤ j → j < lenC n 0 → fx j = rowC w 0 p v j) ∧ g58 = hm (hm h1 [(60, up (h1.1 60) 5 (ct + 1)), (64, up (h1.1 64) ct z29)] [] []) [(z51, ex), (z51 + 200, fx)] [] [] := hp_58
            clear hp_58
            obtain ⟨e58, f58, ⟨ce58, cq58, cf58⟩, rfl⟩ := hq_58
            refine A_hm (la := [(60, up (h1.1 60) 5 (ct + 1)), (64, up (h1.1 64) ct z29), (z51 + 200, f58), (z51, e58)]) (lb := []) (lc := []) (by simp (disch := omega) only [amg, aset, alk, if_neg, if_pos, ite_true]) rfl rfl ?_
            refine A_iinc (L' := [(5, vI (v + 1)), (6, vI z29), (0, .ref 60), (1, .ref gn), (2, .ref r), (3, vI p), (4, vI (w p))]) hG 6 dX5_addSwaps_61 rfl (by decide) rfl ?_
            refine A_goto hG 11 dX5_addSwaps_64 (by decide) ?_
            refine A_sub hG [2, 3, 4, 5, 6, 0] rfl ?_
            exact ih_v (v + 1) (hm h1 [(60, up (h1.1 60) 5 (ct + 1)), (64, up (h1.1 64) ct z29), (z51 + 200, f58), (z51, e58)] [] []) (ct + 1) (by omega) (frM_tr hF (frM_try hk51 (by omega))) (by omega) (mInv_congr (fun y => by
                show (cnd g w n q (dS p v) y ∨ (READ g (hasb 0) (rowC w 0 p v) n ∧ y = kK z29 n (rowC w 0 p v))) ↔ _
                rw [inv_S hmay y, hz29]) (mInv_try (w' := rowC w 0 p v) hJ (by omega) (by omega) hk51 ce58 cf58 (okW_C hW hmay hOk).1 (by omega))) (by omega)
  refine A_sub hG [2, 3, 4, 5, 1, 0] rfl ?_
  exact v_0 _ 0 h cnt (by omega) (frM_rf _) (by omega) hI0 (Nat.lt_succ_self _)

set_option maxHeartbeats 2000000 in
set_option maxRecDepth 20000 in
theorem x_find (h : AH) {gn : Nat} (hg : gn = 20 ∨ gn = 40) {g : Gm} (hgx : gX h gn = g) (hOk : okG g) {r : Nat} (hr0 : 100 ≤ r ∧ r < 108) {n qd : Int} {w : Int → Int} (hwr : rowX h r n w) (hW : okW g w n) (hn1 : 1 ≤ n) (hPer : mPer (h.2.2 61)) (hTr : tRf h) : AMet yX5_find cX5_find 7 none 4 112 [.ref 60, .ref gn, .ref r, vI qd, .ref 14] h (Qv (fun h' => frM h h' ∧ ∃ many ms, topk (cnd g w n (hasb qd) (fun _ _ _ => True)) many ms ∧ mX h' g many ms)) := by
  have hgx0 := hgx
  have hwr0 := hwr
  have hn8 := hW.1
  have hgw := hOk.1
  have hpp := hOk.2.2.2.2
  have hr : 100 ≤ r ∧ r < 212 := by omega
  have hp3 := hpp 3 (by omega) (by omega)
  have hp4 := hpp 4 (by omega) (by omega)
  refine AMet.of (by decide) (Nat.le_of_ble_eq_true rfl) (fun G hM => ?_)
  have hG := hM.cx
  refine A_hm0 (G := G) (L := [(0, .ref 60), (1, .ref gn), (2, .ref r), (3, vI qd), (4, .ref 14)]) ?_
  refine A_aload_n hG 0 dX5_find_0 rfl rfl ?_
  refine A_iconst (n := 0) hG dX5_find_1 ?_
  refine M_putI (z := 2) (li' := [(60, up (h.1 60) 2 0)]) hG dX5_find_2 fl_X5_21 (by decide) k60 nf_5_2 rfl rfl (by constructor <;> omega) (Or.inl rfl) rfl ?_
  refine A_aload_n hG 0 dX5_find_5 rfl rfl ?_
  refine A_iconst (n := 0) hG dX5_find_6 ?_
  refine M_putI (z := 5) (li' := [(60, up (up (h.1 60) 2 0) 5 0)]) hG dX5_find_7 fl_X5_31 (by decide) k60 nf_5_5 rfl rfl (by constructor <;> omega) (Or.inl rfl) rfl ?_
  refine A_iconst (n := 0) hG dX5_find_10 ?_
  refine A_istore (L' := [(5, vI 0), (0, .ref 60), (1, .ref gn), (2, .ref r), (3, vI qd), (4, .ref 14)]) hG dX5_find_11 (by decide) rfl ?_
  have a_0 : ∀ fu : Nat, ∀ (p : Int) (h1 : AH) (ct : Int), (0 ≤ p ∧ p ≤ n) → (frM h h1) → (ct ≤ 48) → (mInv h1 g n ct (cnd g w n (hasb qd) (dS p 0))) → ((9 - p).toNat) < fu → G 13 [(0, .ref 60), (1, .ref gn), (2, .ref r), (3, vI qd), (4, .ref 14), (5, vI p)] [] (hm h1 [] [] []) := by
    intro fu
    induction fu with
    | zero => intro p h1 ct hp hF hct hJ hfu; exact absurd hfu (Nat.not_lt_zero _)
    | succ fu ih_a =>
      intro p h1 ct hp hF hct hJ hfu
      have hgx := frM_gX hg hF hgx0
      have hwr := frM_row hr0 hF hwr0
      have hcn := mInv_cnt hJ
      refine A_iload hG 5 dX5_find_13 rfl ?_
      refine A_aload_n hG 2 dX5_find_15 rfl rfl ?_
      refine M_getI (z := 1) (v := n) hG dX5_find_16 fl_X5_44 (by decide) (obk_row hr) rfl rfl hwr.1 (fun ⟨ra_16, rb_16⟩ => ?_)
      refine A_icmp_ge hG 54 dX5_find_19 (by decide) (by constructor <;> omega) (by constructor <;> omega) (fun c_19 => ?_) (fun c_19 => ?_)
      ·
        refine A_aload_n hG 0 dX5_find_54 rfl rfl ?_
        refine A_aload_n hG 1 dX5_find_55 rfl rfl ?_
        refine A_aload hG 4 dX5_find_56 rfl ?_
        refine A_iconst (n := 0) hG dX5_find_58 ?_
        refine C_Vv (as := [.ref gn, .ref 14, vI 0]) (st := []) (k := 60) (c := 5) hG dX5_find_59 ml_X5_53 mf_X5_readTries mi_X5_readTries se_X5_readTries rfl (by decide) k60 (x_readTries (hm h1 [] [] []) hg (g := g) hgx hOk (nT := n) (cnt := ct) (s := 0) (S := (cnd g w n (hasb qd) (dS p 0))) hJ (by omega)) (by decide) (by decide) rfl rfl (Nat.le_of_ble_eq_true rfl) (fun g59 hp_59 => ?_)
        have hq_59 : frM h1 g59 ∧ ∃ cx, ((cx = ct ∧ ct ≤ 0) ∨ (cx = 0 ∧ 0 < ct)) ∧ mInv g59 g n cx (cnd g w n (hasb qd) (dS p 0)) := hp_59
        clear hp_59
        obtain ⟨hF59, c59, hc59, hI59⟩ := hq_59
        refine A_hm0 ?_
        obtain rfl : c59 = 0 := by omega
        refine A_iconst (n := 0) hG dX5_find_62 ?_
        have d_2 : ∀ (h2 : AH) (ct2 : Int), (frM h h2) → (ct2 ≤ 8) → (mInv h2 g (n - 1) ct2 (cnd g w n (hasb qd) (dN 0 0))) → G 113 [(0, .ref 60), (1, .ref gn), (2, .ref r), (3, vI qd), (4, .ref 14)] [] (hm h2 [] [] []) := by
          intro h2 ct2 hF2 hct2 hJ2
          have hgx := frM_gX hg hF2 hgx0
          have hwr := frM_row hr0 hF2 hwr0
          have hcn2 := mInv_cnt hJ2
          refine A_aload_n hG 0 dX5_find_113 rfl rfl ?_
          refine A_aload_n hG 1 dX5_find_114 rfl rfl ?_
          refine A_aload hG 4 dX5_find_115 rfl ?_
          refine A_iconst (n := 0) hG dX5_find_117 ?_
          refine C_Vv (as := [.ref gn, .ref 14, vI 0]) (st := []) (k := 60) (c := 5) hG dX5_find_118 ml_X5_53 mf_X5_readTries mi_X5_readTries se_X5_readTries rfl (by decide) k60 (x_readTries (hm h2 [] [] []) hg (g := g) hgx hOk (nT := (n - 1)) (cnt := ct2) (s := 0) (S := (cnd g w n (hasb qd) (dN 0 0))) hJ2 (by omega)) (by decide) (by decide) rfl rfl (Nat.le_of_ble_eq_true rfl) (fun g118 hp_118 => ?_)
          have hq_118 : frM h2 g118 ∧ ∃ cx, ((cx = ct2 ∧ ct2 ≤ 0) ∨ (cx = 0 ∧ 0 < ct2)) ∧ mInv g118 g (n - 1) cx (cnd g w n (hasb qd) (dN 0 0)) := hp_118
          clear hp_118
          obtain ⟨hF118, c118, hc118, hI118⟩ := hq_118
          refine A_hm0 ?_
          obtain rfl : c118 = 0 := by omega
          refine A_iconst (n := 0) hG dX5_find_121 ?_
          have z_4 : ∀ (h2 : AH) (ct2 : Int), (frM h h2) → (ct2 ≤ 48) → (mInv h2 g (n + 1) ct2 (cnd g w n (hasb qd) (fun _ _ _ => True))) → G 193 [(0, .ref 60), (1, .ref gn), (2, .ref r), (3, vI qd), (4, .ref 14)] [] (hm h2 [] [] []) := by
            intro h2 ct2 hF2 hct2 hJ2
            have hgx := frM_gX hg hF2 hgx0
            have hwr := frM_row hr0 hF2 hwr0
            have hcn2 := mInv_cnt hJ2
            refine A_aload_n hG 0 dX5_find_193 rfl rfl ?_
            refine A_aload_n hG 1 dX5_find_194 rfl rfl ?_
            refine A_aload hG 4 dX5_find_195 rfl ?_
            refine A_iconst (n := 0) hG dX5_find_197 ?_
            refine C_Vv (as := [.ref gn, .ref 14, vI 0]) (st := []) (k := 60) (c := 5) hG dX5_find_198 ml_X5_53 mf_X5_readTries mi_X5_readTries se_X5_readTries rfl (by decide) k60 (x_readTries (hm h2 [] [] []) hg (g := g) hgx hOk (nT := (n + 1)) (cnt := ct2) (s := 0) (S := (cnd g w n (hasb qd) (fun _ _ _ => True))) hJ2 (by omega)) (by decide) (by decide) rfl rfl (Nat.le_of_ble_eq_true rfl) (fun g198 hp_198 => ?_)
            have hq_198 : frM h2 g198 ∧ ∃ cx, ((cx = ct2 ∧ ct2 ≤ 0) ∨ (cx = 0 ∧ 0 < ct2)) ∧ mInv g198 g (n + 1) cx (cnd g w n (hasb qd) (fun _ _ _ => True)) := hp_198
            clear hp_198
            obtain ⟨hF198, c198, hc198, hI198⟩ := hq_198
            refine A_hm0 ?_
            obtain rfl : c198 = 0 := by omega
            exact Ret_v hM dX5_find_201 (⟨frM_tr hF2 hF198, mInv_top hI198⟩)
          refine A_istore (L' := [(5, vI 0), (0, .ref 60), (1, .ref gn), (2, .ref r), (3, vI qd), (4, .ref 14)]) hG dX5_find_122 (by decide) rfl ?_
          have f_6 : ∀ fu : Nat, ∀ (p : Int) (h1 : AH) (ct : Int), (0 ≤ p ∧ p ≤ n + 1) → (frM h h1) → (ct ≤ 48) → (mInv h1 g (n + 1) ct (cnd g w n (hasb qd) (dN p 0))) → ((10 - p).toNat) < fu → G 124 [(0, .ref 60), (1, .ref gn), (2, .ref r), (3, vI qd), (4, .ref 14), (5, vI p)] [] (hm h1 [] [] []) := by
            intro fu
            induction fu with
            | zero => intro p h1 ct hp hF hct hJ hfu; exact absurd hfu (Nat.not_lt_zero _)
            | succ fu ih_f =>
              intro p h1 ct hp hF hct hJ hfu
              have hgx := frM_gX hg hF hgx0
              have hwr := frM_row hr0 hF hwr0
              have hcn := mInv_cnt hJ
              refine A_iload hG 5 dX5_find_124 rfl ?_
              refine A_aload_n hG 2 dX5_find_126 rfl rfl ?_
              refine M_getI (z := 1) (v := n) hG dX5_find_127 fl_X5_44 (by decide) (obk_row hr) rfl rfl hwr.1 (fun ⟨ra_127, rb_127⟩ => ?_)
              refine A_icmp_gt hG 193 dX5_find_130 (by decide) (by constructor <;> omega) (by constructor <;> omega) (fun c_130 => ?_) (fun c_130 => ?_)
              ·
                refine A_sub hG [0, 1, 2, 3, 4] rfl ?_
                exact z_4 h1 ct hF (by omega) (mInv_congr (fun y => inv_NT (by omega) y) hJ)
              ·
                refine A_aload_n hG 2 dX5_find_133 rfl rfl ?_
                refine M_getI (z := 1) (v := n) hG dX5_find_134 fl_X5_44 (by decide) (obk_row hr) rfl rfl hwr.1 (fun ⟨ra_134, rb_134⟩ => ?_)
                refine A_bipush (n := 8) hG dX5_find_137 (by decide) ?_
                refine A_icmp_ge hG 193 dX5_find_139 (by decide) (by constructor <;> omega) (by constructor <;> omega) (fun c_139 => ?_) (fun c_139 => ?_)
                ·
                  refine A_sub hG [0, 1, 2, 3, 4] rfl ?_
                  exact z_4 h1 ct hF (by omega) (mInv_congr (fun y => inv_NT (by omega) y) hJ)
                ·
                  refine A_iconst (n := 0) hG dX5_find_142 ?_
                  refine A_istore (L' := [(6, vI 0), (0, .ref 60), (1, .ref gn), (2, .ref r), (3, vI qd), (4, .ref 14), (5, vI p)]) hG dX5_find_143 (by decide) rfl ?_
                  have g_7 : ∀ fu : Nat, ∀ (v : Int) (h3 : AH) (ct3 : Int), (0 ≤ v ∧ v ≤ g 10 0) → (frM h h3) → (ct3 ≤ ct + v) → (mInv h3 g (n + 1) ct3 (cnd g w n (hasb qd) (dN p v))) → ((17 - v).toNat) < fu → G 145 [(0, .ref 60), (1, .ref gn), (2, .ref r), (3, vI qd), (4, .ref 14), (5, vI p), (6, vI v)] [] (hm h3 [] [] []) := by
                    intro fu
                    induction fu with
                    | zero => intro v h3 ct3 hv hF3 hct3 hJ3 hfu; exact absurd hfu (Nat.not_lt_zero _)
                    | succ fu ih_g =>
                      intro v h3 ct3 hv hF3 hct3 hJ3 hfu
                      have hgx := frM_gX hg hF3 hgx0
                      have hwr := frM_row hr0 hF3 hwr0
                      have hcn3 := mInv_cnt hJ3
                      refine A_iload hG 6 dX5_find_145 rfl ?_
                      refine A_aload_n hG 1 dX5_find_147 rfl rfl ?_
                      refine M_getI (z := 4) (v := g 10 0) hG dX5_find_148 fl_X5_70 (by decide) (kg0 hg) rfl rfl ((gx_n hgx).1) (fun ⟨ra_148, rb_148⟩ => ?_)
                      refine A_icmp_ge hG 178 dX5_find_151 (by decide) (by constructor <;> omega) (by constructor <;> omega) (fun c_151 => ?_) (fun c_151 => ?_)
                      ·
                        refine A_aload_n hG 0 dX5_find_178 rfl rfl ?_
                        refine A_aload_n hG 1 dX5_find_179 rfl rfl ?_
                        refine A_aload hG 4 dX5_find_180 rfl ?_
                        refine A_bipush (n := 48) hG dX5_find_182 (by decide) ?_
                        refine C_Vv (as := [.ref gn, .ref 14, vI 48]) (st := []) (k := 60) (c := 5) hG dX5_find_184 ml_X5_53 mf_X5_readTries mi_X5_readTries se_X5_readTries rfl (by decide) k60 (x_readTries (hm h3 [] [] []) hg (g := g) hgx hOk (nT := (n + 1)) (cnt := ct3) (s := 48) (S := (cnd g w n (hasb qd) (dN p v))) hJ3 (by omega)) (by decide) (by decide) rfl rfl (Nat.le_of_ble_eq_true rfl) (fun g184 hp_184 => ?_)
                        have hq_184 : frM h3 g184 ∧ ∃ cx, ((cx = ct3 ∧ ct3 ≤ 48) ∨ (cx = 0 ∧ 48 < ct3)) ∧ mInv g184 g (n + 1) cx (cnd g w n (hasb qd) (dN p v)) := hp_184
                        clear hp_184
                        obtain ⟨hF184, c184, hc184, hI184⟩ := hq_184
                        refine A_hm0 ?_
                        refine A_iinc (L' := [(5, vI (p + 1)), (0, .ref 60), (1, .ref gn), (2, .ref r), (3, vI qd), (4, .ref 14), (6, vI v)]) hG 5 dX5_find_187 rfl (by decide) rfl ?_
                        refine A_goto hG 124 dX5_find_190 (by decide) ?_
                        refine A_sub hG [1, 2, 3, 4, 5, 0] rfl ?_
                        exact ih_f (p + 1) g184 c184 (by omega) (frM_tr hF3 hF184) (by omega) (mInv_congr (fun y => inv_Nr (by omega) y) hI184) (by omega)
                      ·
                        refine A_aload_n hG 0 dX5_find_154 rfl rfl ?_
                        refine A_aload_n hG 1 dX5_find_155 rfl rfl ?_
                        refine A_getR (r := (gn + 10)) hG dX5_find_156 fl_X5_57 (by decide) (kg0 hg) (by decide) rfl ?_
                        refine A_iconst (n := 4) hG dX5_find_159 ?_
                        refine M_iald (v := (g 9 4)) hG dX5_find_160 (kg10 hg) (ng10 hg) (by omega) (gx_p hgx ⟨by omega, by omega⟩) (fun ⟨ra_160, rb_160⟩ => ?_)
                        refine C_Vr (as := [vI (g 9 4)]) (st := []) (k := 60) (c := 5) hG dX5_find_161 ml_X5_62 mf_X5_nextTry mi_X5_nextTry se_X5_nextTry rfl (by decide) k60 (x_nextTry (hm h3 [] [] []) (c := (g 9 4)) (t := ct3) hcn3.1 (by omega) hcn3.2.2 (by omega)) (by decide) (by decide) rfl rfl (Nat.le_of_ble_eq_true rfl) (fun z161 g161 hp_161 => ?_)
                        have hq_161 : z161 = 148 + (ct3).toNat ∧ g161 = hm (hm h3 [] [] []) [(64, up (h3.1 64) ct3 (g 9 4)), (60, up (h3.1 60) 5 (ct3 + 1))] [] [] := hp_161
                        clear hp_161
                        obtain ⟨hk161, rfl⟩ := hq_161
                        have hkr161 : 100 ≤ z161 ∧ z161 < 212 := by omega
                        refine A_hm (la := [(60, up (h3.1 60) 5 (ct3 + 1)), (64, up (h3.1 64) ct3 (g 9 4))]) (lb := []) (lc := []) rfl rfl rfl ?_
                        refine A_aload_n hG 2 dX5_find_164 rfl rfl ?_
                        refine A_iload hG 5 dX5_find_165 rfl ?_
                        refine A_iload hG 6 dX5_find_167 rfl ?_
                        refine C_Vv (as := [.ref r, vI p, vI v]) (st := []) (k := z161) (c := 7) hG dX5_find_169 ml_X5_73 mf_X7_copyWith mi_X7_copyWith se_X7_copyWith rfl (by decide) (obk_row hkr161) (x_copyWith (hm h3 [(60, up (h3.1 60) 5 (ct3 + 1)), (64, up (h3.1 64) ct3 (g 9 4))] [] []) hkr161 hr (by omega) (n := n) (w := w) (rowX_eq (by simp (disch := omega) only [hm, alk, if_neg, if_pos, ite_true]) (by simp (disch := omega) only [hm, alk, if_neg, if_pos, ite_true]) hwr) (p := p) (v := v) (by omega) (by omega) (by constructor <;> omega)) (by decide) (by decide) rfl rfl (Nat.le_of_ble_eq_true rfl) (fun g169 hp_169 => ?_)
                        have hq_169 : ∃ ex fx : Int → Int, (ex 1 = lenC n 2 ∧ (∀ q, q ≠ 1 → ex q = (hm h3 [(60, up (h3.1 60) 5 (ct3 + 1)), (64, up (h3.1 64) ct3 (g 9 4))] [] []).1 z161 q) ∧ ∀ j, 0 ≤ j → j < lenC n 2 → fx j = rowC w 2 p v j) ∧ g169 = hm (hm h3 [(60, up (h3.1 60) 5 (ct3 + 1)), (64, up (h3.1 64) ct3 (g 9 4))] [] []) [(z161, ex), (z161 + 200, fx)] [] [] := hp_169
                        clear hp_169
                        obtain ⟨e169, f169, ⟨ce169, cq169, cf169⟩, rfl⟩ := hq_169
                        refine A_hm (la := [(60, up (h3.1 60) 5 (ct3 + 1)), (64, up (h3.1 64) ct3 (g 9 4)), (z161 + 200, f169), (z161, e169)]) (lb := []) (lc := []) (by simp (disch := omega) only [amg, aset, alk, if_neg, if_pos, ite_true]) rfl rfl ?_
                        refine A_iinc (L' := [(6, vI (v + 1)), (0, .ref 60), (1, .ref gn), (2, .ref r), (3, vI qd), (4, .ref 14), (5, vI p)]) hG 6 dX5_find_172 rfl (by decide) rfl ?_
                        refine A_goto hG 145 dX5_find_175 (by decide) ?_
                        refine A_sub hG [1, 2, 3, 4, 5, 6, 0] rfl ?_
                        exact ih_g (v + 1) (hm h3 [(60, up (h3.1 60) 5 (ct3 + 1)), (64, up (h3.1 64) ct3 (g 9 4)), (z161 + 200, f169), (z161, e169)] [] []) (ct3 + 1) (by omega) (frM_tr hF3 (frM_try hk161 (by omega))) (by omega) (mInv_congr (fun y => (inv_N ⟨by omega, Or.inr (Or.inr ⟨rfl, by omega, by omega, by omega, by omega⟩)⟩ y).symm) (mInv_try hJ3 (by omega) (by omega) hk161 ce169 cf169 (okW_C hW (q := hasb qd) (c := 2) (p := p) (v := v) ⟨by omega, Or.inr (Or.inr ⟨rfl, by omega, by omega, by omega, by omega⟩)⟩ hOk).1 (by omega))) (by omega)
                  refine A_sub hG [1, 2, 3, 4, 5, 6, 0] rfl ?_
                  exact g_7 _ 0 h1 ct (by omega) hF (by omega) hJ (Nat.lt_succ_self _)
          refine A_sub hG [1, 2, 3, 4, 5, 0] rfl ?_
          exact f_6 _ 0 g118 0 (by omega) (frM_tr hF2 hF118) (by omega) (mInv_0 hI118) (Nat.lt_succ_self _)
        refine A_istore (L' := [(5, vI 0), (0, .ref 60), (1, .ref gn), (2, .ref r), (3, vI qd), (4, .ref 14)]) hG dX5_find_63 (by decide) rfl ?_
        have c_11 : ∀ fu : Nat, ∀ (p : Int) (h1 : AH) (ct : Int), (0 ≤ p ∧ p ≤ n) → (frM h h1) → (ct ≤ p) → (mInv h1 g (n - 1) ct (cnd g w n (hasb qd) (dO p))) → ((9 - p).toNat) < fu → G 65 [(0, .ref 60), (1, .ref gn), (2, .ref r), (3, vI qd), (4, .ref 14), (5, vI p)] [] (hm h1 [] [] []) := by
          intro fu
          induction fu with
          | zero => intro p h1 ct hp hF hct hJ hfu; exact absurd hfu (Nat.not_lt_zero _)
          | succ fu ih_c =>
            intro p h1 ct hp hF hct hJ hfu
            have hgx := frM_gX hg hF hgx0
            have hwr := frM_row hr0 hF hwr0
            have hcn := mInv_cnt hJ
            refine A_iload hG 5 dX5_find_65 rfl ?_
            refine A_aload_n hG 2 dX5_find_67 rfl rfl ?_
            refine M_getI (z := 1) (v := n) hG dX5_find_68 fl_X5_44 (by decide) (obk_row hr) rfl rfl hwr.1 (fun ⟨ra_68, rb_68⟩ => ?_)
            refine A_icmp_ge hG 113 dX5_find_71 (by decide) (by constructor <;> omega) (by constructor <;> omega) (fun c_71 => ?_) (fun c_71 => ?_)
            ·
              refine A_sub hG [0, 1, 2, 3, 4] rfl ?_
              exact d_2 h1 ct hF (by omega) (mInv_congr (fun y => inv_ON (by omega) y) hJ)
            ·
              refine A_aload_n hG 2 dX5_find_74 rfl rfl ?_
              refine M_getI (z := 1) (v := n) hG dX5_find_75 fl_X5_44 (by decide) (obk_row hr) rfl rfl hwr.1 (fun ⟨ra_75, rb_75⟩ => ?_)
              refine A_iconst (n := 1) hG dX5_find_78 ?_
              refine A_icmp_le hG 113 dX5_find_79 (by decide) (by constructor <;> omega) (by constructor <;> omega) (fun c_79 => ?_) (fun c_79 => ?_)
              ·
                refine A_sub hG [0, 1, 2, 3, 4] rfl ?_
                exact d_2 h1 ct hF (by omega) (mInv_congr (fun y => inv_ON (by omega) y) hJ)
              ·
                refine A_iload_n hG 3 dX5_find_82 rfl rfl ?_
                have e_12 : ∀ (h2 : AH) (ct2 : Int), (frM h h2) → (ct2 ≤ p + 1) → (mInv h2 g (n - 1) ct2 (cnd g w n (hasb qd) (dO (p + 1)))) → G 107 [(0, .ref 60), (1, .ref gn), (2, .ref r), (3, vI qd), (4, .ref 14), (5, vI p)] [] (hm h2 [] [] []) := by
                  intro h2 ct2 hF2 hct2 hJ2
                  refine A_iinc (L' := [(5, vI (p + 1)), (0, .ref 60), (1, .ref gn), (2, .ref r), (3, vI qd), (4, .ref 14)]) hG 5 dX5_find_107 rfl (by decide) rfl ?_
                  refine A_goto hG 65 dX5_find_110 (by decide) ?_
                  refine A_sub hG [1, 2, 3, 4, 5, 0] rfl ?_
                  exact ih_c (p + 1) h2 ct2 (by omega) hF2 (by omega) hJ2 (by omega)
                refine A_iload hG 5 dX5_find_83 rfl ?_
                refine C_Si (as := [vI qd, vI p]) (st := []) hG dX5_find_85 ml_X5_45 mf_X11_hasBit ms_X11_hasBit (x_hasBit (hm h1 [] [] []) qd p) (by decide) (by decide) rfl rfl (Nat.le_of_ble_eq_true rfl) (fun z85 g85 ri_85 hp_85 => ?_)
                obtain ⟨ra_85, rb_85⟩ := ri_85
                obtain ⟨hz85, rfl⟩ := hp_85
                refine A_if_ne hG 107 dX5_find_88 (by decide) (by constructor <;> omega) (fun c_88 => ?_) (fun c_88 => ?_)
                ·
                  refine A_sub hG [0, 1, 2, 3, 4, 5] rfl ?_
                  exact e_12 h1 ct hF (by omega) (mInv_congr (fun y => inv_On (has_yes hz85 c_88) y) hJ)
                ·
                  refine A_aload_n hG 0 dX5_find_91 rfl rfl ?_
                  refine A_aload_n hG 1 dX5_find_92 rfl rfl ?_
                  refine A_getR (r := (gn + 10)) hG dX5_find_93 fl_X5_57 (by decide) (kg0 hg) (by decide) rfl ?_
                  refine A_iconst (n := 3) hG dX5_find_96 ?_
                  refine M_iald (v := (g 9 3)) hG dX5_find_97 (kg10 hg) (ng10 hg) (by omega) (gx_p hgx ⟨by omega, by omega⟩) (fun ⟨ra_97, rb_97⟩ => ?_)
                  refine C_Vr (as := [vI (g 9 3)]) (st := []) (k := 60) (c := 5) hG dX5_find_98 ml_X5_62 mf_X5_nextTry mi_X5_nextTry se_X5_nextTry rfl (by decide) k60 (x_nextTry (hm h1 [] [] []) (c := (g 9 3)) (t := ct) hcn.1 (by omega) hcn.2.2 (by omega)) (by decide) (by decide) rfl rfl (Nat.le_of_ble_eq_true rfl) (fun z98 g98 hp_98 => ?_)
                  have hq_98 : z98 = 148 + (ct).toNat ∧ g98 = hm (hm h1 [] [] []) [(64, up (h1.1 64) ct (g 9 3)), (60, up (h1.1 60) 5 (ct + 1))] [] [] := hp_98
                  clear hp_98
                  obtain ⟨hk98, rfl⟩ := hq_98
                  have hkr98 : 100 ≤ z98 ∧ z98 < 212 := by omega
                  refine A_hm (la := [(60, up (h1.1 60) 5 (ct + 1)), (64, up (h1.1 64) ct (g 9 3))]) (lb := []) (lc := []) rfl rfl rfl ?_
                  refine A_aload_n hG 2 dX5_find_101 rfl rfl ?_
                  refine A_iload hG 5 dX5_find_102 rfl ?_
                  refine C_Vv (as := [.ref r, vI p]) (st := []) (k := z98) (c := 7) hG dX5_find_104 ml_X5_66 mf_X7_copyWithout mi_X7_copyWithout se_X7_copyWithout rfl (by decide) (obk_row hkr98) (x_copyWithout (hm h1 [(60, up (h1.1 60) 5 (ct + 1)), (64, up (h1.1 64) ct (g 9 3))] [] []) hkr98 hr (by omega) (n := n) (w := w) (rowX_eq (by simp (disch := omega) only [hm, alk, if_neg, if_pos, ite_true]) (by simp (disch := omega) only [hm, alk, if_neg, if_pos, ite_true]) hwr) (p := p) (v := 0) (by omega) (by omega)) (by decide) (by decide) rfl rfl (Nat.le_of_ble_eq_true rfl) (fun g104 hp_104 => ?_)
                  have hq_104 : ∃ ex fx : Int → Int, (ex 1 = lenC n 1 ∧ (∀ q, q ≠ 1 → ex q = (hm h1 [(60, up (h1.1 60) 5 (ct + 1)), (64, up (h1.1 64) ct (g 9 3))] [] []).1 z98 q) ∧ ∀ j, 0 ≤ j → j < lenC n 1 → fx j = rowC w 1 p 0 j) ∧ g104 = hm (hm h1 [(60, up (h1.1 60) 5 (ct + 1)), (64, up (h1.1 64) ct (g 9 3))] [] []) [(z98, ex), (z98 + 200, fx)] [] [] := hp_104
                  clear hp_104
                  obtain ⟨e104, f104, ⟨ce104, cq104, cf104⟩, rfl⟩ := hq_104
                  refine A_hm (la := [(60, up (h1.1 60) 5 (ct + 1)), (64, up (h1.1 64) ct (g 9 3)), (z98 + 200, f104), (z98, e104)]) (lb := []) (lc := []) (by simp (disch := omega) only [amg, aset, alk, if_neg, if_pos, ite_true]) rfl rfl ?_
                  refine A_sub hG [0, 1, 2, 3, 4, 5] rfl ?_
                  exact e_12 (hm h1 [(60, up (h1.1 60) 5 (ct + 1)), (64, up (h1.1 64) ct (g 9 3)), (z98 + 200, f104), (z98, e104)] [] []) (ct + 1) (frM_tr hF (frM_try hk98 (by omega))) (by omega) (mInv_congr (fun y => (inv_O ⟨by omega, Or.inr (Or.inl ⟨rfl, by omega, has_no hz85 c_88, rfl, by omega⟩)⟩ y).symm) (mInv_try hJ (by omega) (by omega) hk98 ce104 cf104 (okW_C hW (q := hasb qd) (c := 1) (p := p) (v := 0) ⟨by omega, Or.inr (Or.inl ⟨rfl, by omega, has_no hz85 c_88, rfl, by omega⟩)⟩ hOk).1 (by omega)))
        refine A_sub hG [1, 2, 3, 4, 5, 0] rfl ?_
        exact c_11 _ 0 g59 0 (by omega) (frM_tr hF hF59) (by omega) (mInv_congr (fun y => inv_SO (by omega) y) (mInv_0 hI59)) (Nat.lt_succ_self _)
      ·
        refine A_iload_n hG 3 dX5_find_22 rfl rfl ?_
        have b_16 : ∀ (h2 : AH) (ct2 : Int), (frM h h2) → (ct2 ≤ 64) → (mInv h2 g n ct2 (cnd g w n (hasb qd) (dS (p + 1) 0))) → G 39 [(0, .ref 60), (1, .ref gn), (2, .ref r), (3, vI qd), (4, .ref 14), (5, vI p)] [] (hm h2 [] [] []) := by
          intro h2 ct2 hF2 hct2 hJ2
          have hgx := frM_gX hg hF2 hgx0
          have hwr := frM_row hr0 hF2 hwr0
          refine A_aload_n hG 0 dX5_find_39 rfl rfl ?_
          refine A_aload_n hG 1 dX5_find_40 rfl rfl ?_
          refine A_aload hG 4 dX5_find_41 rfl ?_
          refine A_bipush (n := 48) hG dX5_find_43 (by decide) ?_
          refine C_Vv (as := [.ref gn, .ref 14, vI 48]) (st := []) (k := 60) (c := 5) hG dX5_find_45 ml_X5_53 mf_X5_readTries mi_X5_readTries se_X5_readTries rfl (by decide) k60 (x_readTries (hm h2 [] [] []) hg (g := g) hgx hOk (nT := n) (cnt := ct2) (s := 48) (S := (cnd g w n (hasb qd) (dS (p + 1) 0))) hJ2 (by omega)) (by decide) (by decide) rfl rfl (Nat.le_of_ble_eq_true rfl) (fun g45 hp_45 => ?_)
          have hq_45 : frM h2 g45 ∧ ∃ cx, ((cx = ct2 ∧ ct2 ≤ 48) ∨ (cx = 0 ∧ 48 < ct2)) ∧ mInv g45 g n cx (cnd g w n (hasb qd) (dS (p + 1) 0)) := hp_45
          clear hp_45
          obtain ⟨hF45, c45, hc45, hI45⟩ := hq_45
          refine A_hm0 ?_
          refine A_iinc (L' := [(5, vI (p + 1)), (0, .ref 60), (1, .ref gn), (2, .ref r), (3, vI qd), (4, .ref 14)]) hG 5 dX5_find_48 rfl (by decide) rfl ?_
          refine A_goto hG 13 dX5_find_51 (by decide) ?_
          refine A_sub hG [1, 2, 3, 4, 5, 0] rfl ?_
          exact ih_a (p + 1) g45 c45 (by omega) (frM_tr hF2 hF45) (by omega) hI45 (by omega)
        refine A_iload hG 5 dX5_find_23 rfl ?_
        refine C_Si (as := [vI qd, vI p]) (st := []) hG dX5_find_25 ml_X5_45 mf_X11_hasBit ms_X11_hasBit (x_hasBit (hm h1 [] [] []) qd p) (by decide) (by decide) rfl rfl (Nat.le_of_ble_eq_true rfl) (fun z25 g25 ri_25 hp_25 => ?_)
        obtain ⟨ra_25, rb_25⟩ := ri_25
        obtain ⟨hz25, rfl⟩ := hp_25
        refine A_if_ne hG 39 dX5_find_28 (by decide) (by constructor <;> omega) (fun c_28 => ?_) (fun c_28 => ?_)
        ·
          refine A_sub hG [0, 1, 2, 3, 4, 5] rfl ?_
          exact b_16 h1 ct hF (by omega) (mInv_congr (fun y => inv_Sq (has_yes hz25 c_28) y) hJ)
        ·
          refine A_aload_n hG 0 dX5_find_31 rfl rfl ?_
          refine A_aload_n hG 1 dX5_find_32 rfl rfl ?_
          refine A_aload_n hG 2 dX5_find_33 rfl rfl ?_
          refine A_iload hG 5 dX5_find_34 rfl ?_
          refine C_Vv (as := [.ref gn, .ref r, vI p]) (st := []) (k := 60) (c := 5) hG dX5_find_36 ml_X5_49 mf_X5_addSwaps mi_X5_addSwaps se_X5_addSwaps rfl (by decide) k60 (x_addSwaps (hm h1 [] [] []) hg (g := g) hgx hOk hr0 (n := n) (p := p) (cnt := ct) (w := w) (q := hasb qd) hwr hW (by omega) (has_no hz25 c_28) hJ (by omega)) (by decide) (by decide) rfl rfl (Nat.le_of_ble_eq_true rfl) (fun g36 hp_36 => ?_)
          have hq_36 : frM h1 g36 ∧ ∃ cx, cx ≤ 64 ∧ mInv g36 g n cx (cnd g w n (hasb qd) (dS (p + 1) 0)) := hp_36
          clear hp_36
          obtain ⟨hF36, c36, hc36, hI36⟩ := hq_36
          refine A_hm0 ?_
          refine A_sub hG [0, 1, 2, 3, 4, 5] rfl ?_
          exact b_16 g36 c36 (frM_tr hF hF36) (by omega) hI36
  refine A_sub hG [1, 2, 3, 4, 5, 0] rfl ?_
  exact a_0 _ 0 (hm h [(60, up (up (h.1 60) 2 0) 5 0)] [] []) 0 (by omega) (⟨fun k k1 _ _ _ _ => by simp only [hm, alk, if_neg k1], fun _ _ _ => rfl, fun _ _ => rfl⟩) (by omega) (mInv_new hPer hTr) (Nat.lt_succ_self _)

theorem rowK_iff {c n n' : Int} {w w' : Int → Int} (h : okD n w) : rowK n' w' (kK c n w) ↔ n = n' ∧ ∀ i, 0 ≤ i → i < n' → w i = w' i := by
  obtain ⟨d1, d2, d3⟩ := kK_dec (p := c) h
  unfold rowK
  rw [d2]
  constructor
  · rintro ⟨rfl, e⟩
    exact ⟨rfl, fun i i0 i1 => by rw [← d3 i i0 i1]; exact e i i0 i1⟩
  · rintro ⟨rfl, e⟩
    exact ⟨rfl, fun i i0 i1 => by rw [d3 i i0 i1]; exact e i i0 i1⟩
theorem rlt_ne {n n' : Int} {w w' : Int → Int} (h : rlt n w n' w') : ¬ (n = n' ∧ ∀ i, 0 ≤ i → i < n' → w i = w' i) := by
  rintro ⟨rfl, e⟩
  rcases h with h | ⟨-, i, i0, i1, _, i3⟩
  · omega
  · rw [e i i0 i1] at i3; omega
set_option maxHeartbeats 2000000 in
set_option maxRecDepth 20000 in
theorem x_placeOf (h : AH) {g : Gm} (hOk : okG g) {many n : Int} {ms w : Int → Int} {C : Int → Prop} {r : Nat} (hX : mX h g many ms) (hC : topk C many ms) (hr : 100 ≤ r ∧ r < 212) (hwr : rowX h r n w) (hW : okW g w n) : AMet yX5_placeOf cX5_placeOf 3 (some .int) 1 22 [.ref 60, .ref r] h (Qi (fun z h' => plA C n w z ∧ h' = h)) := by
  have hm4 := hC.1
  have hn8 := hW.1
  have hgw := hOk.1
  refine AMet.of (by decide) (Nat.le_of_ble_eq_true rfl) (fun G hM => ?_)
  have hG := hM.cx
  refine A_hm0 (G := G) (L := [(0, .ref 60), (1, .ref r)]) ?_
  refine A_iconst (n := 0) hG dX5_placeOf_0 ?_
  refine A_istore_n (L' := [(2, vI 0), (0, .ref 60), (1, .ref r)]) hG dX5_placeOf_1 rfl (by decide) rfl ?_
  have i_0 : ∀ fu : Nat, ∀ (i : Int), (0 ≤ i ∧ i ≤ many) → (∀ j, 0 ≤ j → j < i → ¬ rowK n w (ms j)) → ((41 - i).toNat) < fu → G 2 [(0, .ref 60), (1, .ref r), (2, vI i)] [] (hm h [] [] []) := by
    intro fu
    induction fu with
    | zero => intro i hi hN hfu; exact absurd hfu (Nat.not_lt_zero _)
    | succ fu ih_i =>
      intro i hi hN hfu
      refine A_iload_n hG 2 dX5_placeOf_2 rfl rfl ?_
      refine A_aload_n hG 0 dX5_placeOf_3 rfl rfl ?_
      refine M_getI (z := 2) (v := many) hG dX5_placeOf_4 fl_X5_21 (by decide) k60 rfl rfl hX.1 (fun ⟨ra_4, rb_4⟩ => ?_)
      refine A_icmp_ge hG 31 dX5_placeOf_7 (by decide) (by constructor <;> omega) (by constructor <;> omega) (fun c_7 => ?_) (fun c_7 => ?_)
      ·
        refine A_bipush (n := -4) hG dX5_placeOf_31 (by decide) ?_
        exact Ret_i hM dX5_placeOf_33 (by constructor <;> omega) (⟨⟨many, ms, hC, Or.inr ⟨rfl, fun j j0 j1 => hN j j0 (by omega)⟩⟩, rfl⟩)
      ·
        obtain ⟨n1, w1, hx1, hW1, hn1, hK1, hms1⟩ := hX.2.2 i (by omega) (by omega)
        have hp1 := hX.2.1.1 i (by omega) (by omega)
        have hD1 := okD_W hOk hW1 hn1
        obtain ⟨ρ, hρ⟩ : ∃ ρ : Nat, h.2.2 61 i = ρ := ⟨_, rfl⟩
        rw [hρ] at hx1 hp1
        have hρr : 100 ≤ ρ ∧ ρ < 212 := by omega
        refine A_aload_n hG 0 dX5_placeOf_10 rfl rfl ?_
        refine A_getR (r := 61) hG dX5_placeOf_11 fl_X5_11 (by decide) k60 (by decide) rfl ?_
        refine A_iload_n hG 2 dX5_placeOf_14 rfl rfl ?_
        refine M_aald (r := ρ) hG dX5_placeOf_15 (Or.inl k61) n61 (by omega) hρ ?_
        refine A_aload_n hG 1 dX5_placeOf_16 rfl rfl ?_
        refine C_Vi (as := [.ref r]) (st := []) (k := ρ) (c := 7) hG dX5_placeOf_17 ml_X5_77 mf_X7_orderTo mi_X7_orderTo se_X7_orderTo rfl (by decide) (obk_row hρr) (x_orderTo (hm h [] [] []) hρr hr (n := n1) (n' := n) (w := w1) (w' := w) hx1 hwr hW1.1 hn8 hD1.2 (fun i i0 i1 => by have := hW.2 i i0 i1; omega)) (by decide) (by decide) rfl rfl (Nat.le_of_ble_eq_true rfl) (fun z17 g17 ri_17 hp_17 => ?_)
        obtain ⟨ra_17, rb_17⟩ := ri_17
        obtain ⟨hz17, rfl⟩ := hp_17
        refine A_if_ne hG 25 dX5_placeOf_20 (by decide) (by constructor <;> omega) (fun c_20 => ?_) (fun c_20 => ?_)
        ·
          refine A_iinc (L' := [(2, vI (i + 1)), (0, .ref 60), (1, .ref r)]) hG 2 dX5_placeOf_25 rfl (by decide) rfl ?_
          refine A_goto hG 2 dX5_placeOf_28 (by decide) ?_
          refine A_sub hG [1, 2, 0] rfl ?_
          exact ih_i (i + 1) (by omega) (fun j j0 j1 => by
              by_cases e : j = i
              · rw [e, hms1, rowK_iff hD1]
                rcases hz17 with ⟨a, b⟩ | ⟨a, b⟩ | ⟨a, b⟩
                · exact absurd a c_20
                · exact rlt_ne b
                · exact fun q => rlt_ne b ⟨q.1.symm, fun i i0 i1 => (q.2 i i0 (by omega)).symm⟩
              · exact hN j j0 (by omega)) (by omega)
        ·
          refine A_iload_n hG 2 dX5_placeOf_23 rfl rfl ?_
          exact Ret_i hM dX5_placeOf_24 (by constructor <;> omega) (⟨⟨many, ms, hC, Or.inl ⟨by omega, by omega, by
              rw [hms1, rowK_iff hD1]
              rcases hz17 with ⟨a, b, d⟩ | ⟨a, b⟩ | ⟨a, b⟩
              · exact ⟨b, fun i i0 i1 => d i i0 (by omega)⟩
              · omega
              · omega, hN⟩⟩, rfl⟩)
  refine A_sub hG [1, 2, 0] rfl ?_
  exact i_0 _ 0 (by omega) (fun j j0 j1 => by omega) (Nat.lt_succ_self _)

end
