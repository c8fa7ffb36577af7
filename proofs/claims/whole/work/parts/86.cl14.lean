/-! the class: heaps (printed by gen) -/
section
section
variable {g : Gm}
theorem famK_kK {c n p : Int} {w : Int → Int} (h : okD n w) (hp : 0 ≤ p) : famK g (kK c n w) p = if p < n then g 2 (w p) else -4 := by
  obtain ⟨d1, d2, d3⟩ := kK_dec (p := c) h
  unfold famK
  rw [d2]
  by_cases e : p < n
  · rw [if_pos e, if_pos e, d3 p hp e]
  · rw [if_neg e, if_neg e]
/-- families with 16 behind the end -/
def fam6 (g : Gm) (x p : Int) : Int := if p < lnK x then g 2 (wdK x p) else 16
theorem fam6_kK {c n p : Int} {w : Int → Int} (h : okD n w) (hp : 0 ≤ p) : fam6 g (kK c n w) p = if p < n then g 2 (w p) else 16 := by
  obtain ⟨d1, d2, d3⟩ := kK_dec (p := c) h
  unfold fam6
  rw [d2]
  by_cases e : p < n
  · rw [if_pos e, if_pos e, d3 p hp e]
  · rw [if_neg e, if_neg e]
theorem fam6_eq {c n p c' n' : Int} {w w' : Int → Int} (hOk : okG g) (hW : okW g w n) (hW' : okW g w' n') (hn : 1 ≤ n) (hn' : 1 ≤ n') (hp : 0 ≤ p) : famK g (kK c n w) p = famK g (kK c' n' w') p ↔ fam6 g (kK c n w) p = fam6 g (kK c' n' w') p := by
  rw [famK_kK (okD_W hOk hW hn) hp, famK_kK (okD_W hOk hW' hn') hp, fam6_kK (okD_W hOk hW hn) hp, fam6_kK (okD_W hOk hW' hn') hp]
  by_cases e : p < n <;> by_cases e' : p < n'
  · rw [if_pos e, if_pos e', if_pos e, if_pos e']
  · have a := hW.2 p hp e
    have o := (hOk.2.2.1 (w p) a.1 a.2).2.2.1
    rw [if_pos e, if_neg e', if_pos e, if_neg e']; omega
  · have a := hW'.2 p hp e'
    have o := (hOk.2.2.1 (w' p) a.1 a.2).2.2.1
    rw [if_neg e, if_pos e', if_neg e, if_pos e']; omega
  · rw [if_neg e, if_neg e', if_neg e, if_neg e']; simp
theorem fam6_rng {c n p : Int} {w : Int → Int} (hOk : okG g) (hW : okW g w n) (hn : 1 ≤ n) (hp : 0 ≤ p) : 0 ≤ fam6 g (kK c n w) p ∧ fam6 g (kK c n w) p ≤ 16 := by
  rw [fam6_kK (okD_W hOk hW hn) hp]
  by_cases e : p < n
  · have a := hW.2 p hp e
    have o := (hOk.2.2.1 (w p) a.1 a.2).2.2.1
    rw [if_pos e]; omega
  · rw [if_neg e]; omega
theorem cntE_inj {F F' : Int → Int} {k : Int} : ∀ {n : Nat}, (∀ i : Int, 0 ≤ i → i < n → (F i = F k ↔ F' i = F' k)) → cntE F (F k) n = cntE F' (F' k) n
  | 0, _ => rfl
  | n + 1, h => by
    simp only [cntE]
    rw [cntE_inj (n := n) (fun i i0 i1 => h i i0 (by omega))]
    have := h n (by omega) (by omega)
    by_cases e : F n = F k
    · rw [if_pos e, if_pos (this.mp e)]
    · rw [if_neg e, if_neg (fun q => e (this.mpr q))]
theorem mostP_inj {F F' : Int → Int} {n : Nat} {m : Int} (e : ∀ i j : Int, 0 ≤ i → i < n → 0 ≤ j → j < n → (F i = F j ↔ F' i = F' j)) (h : mostP F n m) : mostP F' n m := by
  obtain ⟨a1, a2, a3⟩ := h
  refine ⟨fun k k0 k1 => ?_, a2, a3.imp id ?_⟩
  · rw [← cntE_inj (F := F) (F' := F') (k := k) (fun i i0 i1 => e i k i0 i1 k0 k1)]; exact a1 k k0 k1
  · rintro ⟨k, k0, k1, k2⟩
    exact ⟨k, k0, k1, by rw [← cntE_inj (F := F) (F' := F') (k := k) (fun i i0 i1 => e i k i0 i1 k0 k1)]; exact k2⟩
theorem mostP_ex (F : Int → Int) (n : Nat) : ∃ m, mostP F n m := by
  have key : ∀ j : Nat, j ≤ n → ∃ m : Int, (∀ k : Int, 0 ≤ k → k < j → cntE F (F k) n ≤ m) ∧ 0 ≤ m ∧ (m = 0 ∨ ∃ k : Int, 0 ≤ k ∧ k < n ∧ cntE F (F k) n = m) := by
    intro j
    induction j with
    | zero => intro _; exact ⟨0, fun k k0 k1 => by omega, by omega, Or.inl rfl⟩
    | succ j ih =>
      intro hj
      obtain ⟨m, m1, m2, m3⟩ := ih (by omega)
      by_cases e : cntE F (F j) n ≤ m
      · refine ⟨m, fun k k0 k1 => ?_, m2, m3⟩
        by_cases d : k = j
        · rw [d]; exact e
        · exact m1 k k0 (by omega)
      · refine ⟨cntE F (F j) n, fun k k0 k1 => ?_, (cntE_le F (F j) n).1, Or.inr ⟨j, by omega, by omega, rfl⟩⟩
        by_cases d : k = j
        · rw [d]; exact Int.le_refl _
        · have := m1 k k0 (by omega); omega
  obtain ⟨m, m1, m2, m3⟩ := key n (Nat.le_refl _)
  exact ⟨m, m1, m2, m3⟩
def mstD (F : Int → Int) (i : Nat) (gr : Int) : Prop := gr = 0 ∨ ∃ k : Int, 0 ≤ k ∧ k < i ∧ cntE F (F k) i = gr
theorem hpK_rng {n hn : Int} {ms hf : Int → Int} (h : hpK g n ms hn hf) {i : Int} (i0 : 0 ≤ i) (i1 : i < hn) : 0 ≤ hf i ∧ hf i < n := (h.2.2.1 i i0 i1).1
end
set_option maxHeartbeats 2000000 in
set_option maxRecDepth 20000 in
theorem x_isHeaped (h : AH) {gn : Nat} (hg : gn = 20 ∨ gn = 40) {g : Gm} (hgx : gX h gn = g) (hOk : okG g) {many k hn : Int} {ms hf : Int → Int} (hX : mX h g many ms) (hm4 : many ≤ 40) (h7 : h.1 60 7 = hn) (h65 : ∀ i, 0 ≤ i → i < hn → h.1 65 i = hf i) (hk : 0 ≤ k ∧ k < many) (hH : hpK g k ms hn hf) {r : Nat} (hr0 : h.2.2 61 k = r) : AMet yX5_isHeaped cX5_isHeaped 4 (some .boolean) 2 45 [.ref 60, .ref gn, .ref r] h (Qi (fun z h' => ((z = 1 ∧ ¬ frst g ms k) ∨ (z = 0 ∧ frst g ms k)) ∧ h' = h)) := by
  obtain ⟨nk, wk, hxk, hWk, hnk, hKk, hmsk⟩ := hX.2.2 k (by omega) (by omega)
  have hpk := hX.2.1.1 k (by omega) (by omega)
  rw [hr0] at hxk hpk
  have hρrk : 100 ≤ r ∧ r < 212 := by omega
  have hhn := hH.1
  refine AMet.of (by decide) (Nat.le_of_ble_eq_true rfl) (fun G hM => ?_)
  have hG := hM.cx
  refine A_hm0 (G := G) (L := [(0, .ref 60), (1, .ref gn), (2, .ref r)]) ?_
  refine A_iconst (n := 0) hG dX5_isHeaped_0 ?_
  refine A_istore_n (L' := [(3, vI 0), (0, .ref 60), (1, .ref gn), (2, .ref r)]) hG dX5_isHeaped_1 rfl (by decide) rfl ?_
  have i_0 : ∀ fu : Nat, ∀ (i : Int), (0 ≤ i ∧ i ≤ hn) → (∀ j, 0 ≤ j → j < i → ¬ sameF g (ms (hf j)) (ms k)) → ((41 - i).toNat) < fu → G 2 [(0, .ref 60), (1, .ref gn), (2, .ref r), (3, vI i)] [] (hm h [] [] []) := by
    intro fu
    induction fu with
    | zero => intro i hi hN hfu; exact absurd hfu (Nat.not_lt_zero _)
    | succ fu ih_i =>
      intro i hi hN hfu
      refine A_iload_n hG 3 dX5_isHeaped_2 rfl rfl ?_
      refine A_aload_n hG 0 dX5_isHeaped_3 rfl rfl ?_
      refine M_getI (z := 7) (v := hn) hG dX5_isHeaped_4 fl_X5_37 (by decide) k60 rfl rfl h7 (fun ⟨ra_4, rb_4⟩ => ?_)
      refine A_icmp_ge hG 37 dX5_isHeaped_7 (by decide) (by constructor <;> omega) (by constructor <;> omega) (fun c_7 => ?_) (fun c_7 => ?_)
      ·
        refine A_iconst (n := 0) hG dX5_isHeaped_37 ?_
        exact Ret_z hM dX5_isHeaped_38 (by omega) (⟨Or.inr ⟨rfl, (hpK_frst hH).mpr (fun j j0 j1 => hN j j0 (by omega))⟩, rfl⟩)
      ·
        have hfi := hpK_rng hH (i := i) (by omega) (by omega)
        obtain ⟨ni, wi, hxi, hWi, hni, hKi, hmsi⟩ := hX.2.2 (hf i) (by omega) (by omega)
        have hpi := hX.2.1.1 (hf i) (by omega) (by omega)
        obtain ⟨ρi, hρi⟩ : ∃ ρ : Nat, h.2.2 61 (hf i) = ρ := ⟨_, rfl⟩
        rw [hρi] at hxi hpi
        have hρri : 100 ≤ ρi ∧ ρi < 212 := by omega
        refine A_aload_n hG 2 dX5_isHeaped_10 rfl rfl ?_
        refine A_aload_n hG 1 dX5_isHeaped_11 rfl rfl ?_
        refine A_aload_n hG 0 dX5_isHeaped_12 rfl rfl ?_
        refine A_getR (r := 61) hG dX5_isHeaped_13 fl_X5_11 (by decide) k60 (by decide) rfl ?_
        refine A_aload_n hG 0 dX5_isHeaped_16 rfl rfl ?_
        refine A_getR (r := 65) hG dX5_isHeaped_17 fl_X5_34 (by decide) k60 (by decide) rfl ?_
        refine A_iload_n hG 3 dX5_isHeaped_20 rfl rfl ?_
        refine M_iald (v := (hf i)) hG dX5_isHeaped_21 k65 n65 (by omega) (h65 i (by omega) (by omega)) (fun ⟨ra_21, rb_21⟩ => ?_)
        refine M_aald (r := ρi) hG dX5_isHeaped_22 (Or.inl k61) n61 (by omega) hρi ?_
        refine C_Vi (as := [.ref gn, .ref ρi]) (st := []) (k := r) (c := 7) hG dX5_isHeaped_23 ml_X5_128 mf_X7_hasFamiliesOf mi_X7_hasFamiliesOf se_X7_hasFamiliesOf rfl (by decide) (obk_row hρrk) (x_hasFamiliesOf (hm h [] [] []) hρrk hρri hg (g := g) hgx hOk (n := nk) (n' := ni) (w := wk) (w' := wi) hxk hxi hWk hWi) (by decide) (by decide) rfl rfl (Nat.le_of_ble_eq_true rfl) (fun z23 g23 ri_23 hp_23 => ?_)
        obtain ⟨ra_23, rb_23⟩ := ri_23
        obtain ⟨hz23, rfl⟩ := hp_23
        refine A_if_eq hG 31 dX5_isHeaped_26 (by decide) (by constructor <;> omega) (fun c_26 => ?_) (fun c_26 => ?_)
        ·
          refine A_iinc (L' := [(3, vI (i + 1)), (0, .ref 60), (1, .ref gn), (2, .ref r)]) hG 3 dX5_isHeaped_31 rfl (by decide) rfl ?_
          refine A_goto hG 2 dX5_isHeaped_34 (by decide) ?_
          refine A_sub hG [1, 2, 3, 0] rfl ?_
          exact ih_i (i + 1) (by omega) (fun j j0 j1 => by
              by_cases e : j = i
              · subst e
                rw [hmsi, hmsk]
                rcases hz23 with ⟨a, b⟩ | ⟨a, p, p0, p1, b⟩
                · omega
                · intro q
                  refine b ?_
                  have q1 := (fam6_eq hOk hWi hWk hni hnk p0).mp (q p p0 p1)
                  rw [fam6_kK (okD_W hOk hWi hni) p0, fam6_kK (okD_W hOk hWk hnk) p0] at q1
                  exact q1.symm
              · exact hN j j0 (by omega)) (by omega)
        ·
          refine A_iconst (n := 1) hG dX5_isHeaped_29 ?_
          exact Ret_z hM dX5_isHeaped_30 (by omega) (⟨Or.inl ⟨rfl, fun q => by
              rw [hpK_frst hH] at q
              refine q i (by omega) (by omega) (fun p p0 p1 => ?_)
              rw [hmsi, hmsk, fam6_eq hOk hWi hWk hni hnk p0, fam6_kK (okD_W hOk hWi hni) p0, fam6_kK (okD_W hOk hWk hnk) p0]
              rcases hz23 with ⟨a, b⟩ | ⟨a, b⟩
              · exact (b p p0 p1).symm
              · omega⟩, rfl⟩)
  refine A_sub hG [1, 2, 3, 0] rfl ?_
  exact i_0 _ 0 (by omega) (fun j j0 j1 => by omega) (Nat.lt_succ_self _)

set_option maxHeartbeats 2000000 in
set_option maxRecDepth 20000 in
theorem x_gatherHeaps (h : AH) {gn : Nat} (hg : gn = 20 ∨ gn = 40) {g : Gm} (hgx : gX h gn = g) (hOk : okG g) {many : Int} {ms : Int → Int} (hX : mX h g many ms) (hm4 : 0 ≤ many ∧ many ≤ 40) : AMet yX5_gatherHeaps cX5_gatherHeaps 3 none 3 68 [.ref 60, .ref gn] h (Qv (fun h' => ∃ e hf : Int → Int, (hpK g many ms (e 7) hf ∧ ∀ q, q ≠ 7 → e q = h.1 60 q) ∧ h' = hm h [(60, e), (65, hf)] [] [])) := by
  refine AMet.of (by decide) (Nat.le_of_ble_eq_true rfl) (fun G hM => ?_)
  have hG := hM.cx
  refine A_hm0 (G := G) (L := [(0, .ref 60), (1, .ref gn)]) ?_
  refine A_aload_n hG 0 dX5_gatherHeaps_0 rfl rfl ?_
  refine A_iconst (n := 0) hG dX5_gatherHeaps_1 ?_
  refine M_putI (z := 7) (li' := [(60, up (h.1 60) 7 0)]) hG dX5_gatherHeaps_2 fl_X5_37 (by decide) k60 nf_5_7 rfl rfl (by constructor <;> omega) (Or.inl rfl) rfl ?_
  refine A_iconst (n := 0) hG dX5_gatherHeaps_5 ?_
  refine A_istore_n (L' := [(2, vI 0), (0, .ref 60), (1, .ref gn)]) hG dX5_gatherHeaps_6 rfl (by decide) rfl ?_
  refine A_insI 65 (li' := [(60, up (h.1 60) 7 0), (65, h.1 65)]) rfl ?_
  have k_0 : ∀ fu : Nat, ∀ (k : Int) (e : Int → Int) (hf : Int → Int) (hn : Int), (0 ≤ k ∧ k ≤ many) → (e 7 = hn) → (∀ q, q ≠ 7 → e q = h.1 60 q) → (hpK g k ms hn hf) → ((41 - k).toNat) < fu → G 7 [(0, .ref 60), (1, .ref gn), (2, vI k)] [] (hm h [(60, e), (65, hf)] [] []) := by
    intro fu
    induction fu with
    | zero => intro k e hf hn hk h7 hEq hH hfu; exact absurd hfu (Nat.not_lt_zero _)
    | succ fu ih_k =>
      intro k e hf hn hk h7 hEq hH hfu
      refine A_iload_n hG 2 dX5_gatherHeaps_7 rfl rfl ?_
      refine A_aload_n hG 0 dX5_gatherHeaps_8 rfl rfl ?_
      refine M_getI (z := 2) (v := many) hG dX5_gatherHeaps_9 fl_X5_21 (by decide) k60 rfl rfl ((hEq 2 (by omega)).trans hX.1) (fun ⟨ra_9, rb_9⟩ => ?_)
      refine A_icmp_ge hG 55 dX5_gatherHeaps_12 (by decide) (by constructor <;> omega) (by constructor <;> omega) (fun c_12 => ?_) (fun c_12 => ?_)
      ·
        exact Ret_v hM dX5_gatherHeaps_55 (⟨e, hf, ⟨by rw [h7, show many = k by omega]; exact hH, hEq⟩, rfl⟩)
      ·
        obtain ⟨ρk, hρk⟩ : ∃ ρ : Nat, h.2.2 61 k = ρ := ⟨_, rfl⟩
        have hhn := hH.1
        refine A_aload_n hG 0 dX5_gatherHeaps_15 rfl rfl ?_
        refine A_aload_n hG 1 dX5_gatherHeaps_16 rfl rfl ?_
        refine A_aload_n hG 0 dX5_gatherHeaps_17 rfl rfl ?_
        refine A_getR (r := 61) hG dX5_gatherHeaps_18 fl_X5_11 (by decide) k60 (by decide) rfl ?_
        refine A_iload_n hG 2 dX5_gatherHeaps_21 rfl rfl ?_
        refine M_aald (r := ρk) hG dX5_gatherHeaps_22 (Or.inl k61) n61 (by omega) hρk ?_
        refine C_Vi (as := [.ref gn, .ref ρk]) (st := []) (k := 60) (c := 5) hG dX5_gatherHeaps_23 ml_X5_124 mf_X5_isHeaped mi_X5_isHeaped se_X5_isHeaped rfl (by decide) k60 (x_isHeaped (hm h [(60, e), (65, hf)] [] []) hg (g := g) ((gX_li hg rfl).trans hgx) hOk (many := many) (k := k) (hn := hn) (ms := ms) (hf := hf) (mX_eq (h := h) hm4.2 (hEq 2 (by omega)) rfl rfl (fun k k1 k2 => ⟨(by simp (disch := omega) only [hm, alk, if_neg, if_pos, ite_true]), (by simp (disch := omega) only [hm, alk, if_neg, if_pos, ite_true])⟩) hX) hm4.2 h7 (fun _ _ _ => rfl) (by omega) hH (r := ρk) hρk) (by decide) (by decide) rfl rfl (Nat.le_of_ble_eq_true rfl) (fun z23 g23 ri_23 hp_23 => ?_)
        obtain ⟨ra_23, rb_23⟩ := ri_23
        obtain ⟨hz23, rfl⟩ := hp_23
        refine A_if_ne hG 49 dX5_gatherHeaps_26 (by decide) (by constructor <;> omega) (fun c_26 => ?_) (fun c_26 => ?_)
        ·
          have hfr : ¬ frst g ms k := by
              rcases hz23 with ⟨a, b⟩ | ⟨a, b⟩
              · exact b
              · exact absurd a c_26
          refine A_iinc (L' := [(2, vI (k + 1)), (0, .ref 60), (1, .ref gn)]) hG 2 dX5_gatherHeaps_49 rfl (by decide) rfl ?_
          refine A_goto hG 7 dX5_gatherHeaps_52 (by decide) ?_
          refine A_sub hG [1, 2, 0] rfl ?_
          exact ih_k (k + 1) e hf hn (by omega) h7 hEq (hpK_old hH hfr) (by omega)
        ·
          have hfr : frst g ms k := by
              rcases hz23 with ⟨a, b⟩ | ⟨a, b⟩
              · omega
              · exact b
          refine A_aload_n hG 0 dX5_gatherHeaps_29 rfl rfl ?_
          refine A_getR (r := 65) hG dX5_gatherHeaps_30 fl_X5_34 (by decide) k60 (by decide) rfl ?_
          refine A_aload_n hG 0 dX5_gatherHeaps_33 rfl rfl ?_
          refine M_getI (z := 7) (v := hn) hG dX5_gatherHeaps_34 fl_X5_37 (by decide) k60 rfl rfl h7 (fun ⟨ra_34, rb_34⟩ => ?_)
          refine A_iload_n hG 2 dX5_gatherHeaps_37 rfl rfl ?_
          refine M_iast (li' := [(60, e), (65, up hf hn k)]) hG dX5_gatherHeaps_38 k65 n65 (by omega) (by constructor <;> omega) rfl ?_
          refine A_aload_n hG 0 dX5_gatherHeaps_39 rfl rfl ?_
          refine A_dup hG dX5_gatherHeaps_40 rfl ?_
          refine M_getI (z := 7) (v := hn) hG dX5_gatherHeaps_41 fl_X5_37 (by decide) k60 rfl rfl h7 (fun ⟨ra_41, rb_41⟩ => ?_)
          refine A_iconst (n := 1) hG dX5_gatherHeaps_44 ?_
          refine A_iadd hG dX5_gatherHeaps_45 ?_
          refine M_putI (z := 7) (li' := [(60, up e 7 (hn + 1)), (65, up hf hn k)]) hG dX5_gatherHeaps_46 fl_X5_37 (by decide) k60 nf_5_7 rfl rfl (by constructor <;> omega) (Or.inl rfl) rfl ?_
          refine A_iinc (L' := [(2, vI (k + 1)), (0, .ref 60), (1, .ref gn)]) hG 2 dX5_gatherHeaps_49 rfl (by decide) rfl ?_
          refine A_goto hG 7 dX5_gatherHeaps_52 (by decide) ?_
          refine A_sub hG [1, 2, 0] rfl ?_
          exact ih_k (k + 1) (up e 7 (hn + 1)) (up hf hn k) (hn + 1) (by omega) (up_eq _ _ _) (fun q hq => (up_ne _ _ hq).trans (hEq q hq)) (hpK_new hH hfr (by omega)) (by omega)
  refine A_sub hG [1, 2, 0] rfl ?_
  exact k_0 _ 0 (up (h.1 60) 7 0) (h.1 65) 0 (by omega) (up_eq _ _ _) (fun q hq => up_ne _ _ hq) (hpK_0 _ _ _) (Nat.lt_succ_self _)

set_option maxHeartbeats 2000000 in
set_option maxRecDepth 20000 in
theorem x_firstStandsOut (h : AH) {g : Gm} (hOk : okG g) {many hn : Int} {ms hf : Int → Int} (hX : mX h g many ms) (hm4 : 0 ≤ many ∧ many ≤ 40) (h7 : h.1 60 7 = hn) (h65 : h.1 65 = hf) (hH : hpK g many ms hn hf) {d : Int} (hd : 0 ≤ d ∧ d ≤ 99) : AMet yX5_firstStandsOut cX5_firstStandsOut 2 (some .boolean) 0 0 [.ref 60, vI d] h (Qi (fun z h' => ((z = 1 ∧ (hn = 1 ∨ (1 < hn ∧ d ≤ prK (ms (hf 1)) - prK (ms (hf 0))))) ∨ (z = 0 ∧ hn ≠ 1 ∧ (hn ≤ 1 ∨ prK (ms (hf 1)) - prK (ms (hf 0)) < d))) ∧ h' = h)) := by
  have hhn := hH.1
  subst h65
  refine AMet.of (by decide) (Nat.le_of_ble_eq_true rfl) (fun G hM => ?_)
  have hG := hM.cx
  refine A_hm0 (G := G) (L := [(0, .ref 60), (1, vI d)]) ?_
  refine A_aload_n hG 0 dX5_firstStandsOut_0 rfl rfl ?_
  refine M_getI (z := 7) (v := hn) hG dX5_firstStandsOut_1 fl_X5_37 (by decide) k60 rfl rfl h7 (fun ⟨ra_1, rb_1⟩ => ?_)
  refine A_iconst (n := 1) hG dX5_firstStandsOut_4 ?_
  refine A_icmp_eq hG 43 dX5_firstStandsOut_5 (by decide) (by constructor <;> omega) (by constructor <;> omega) (fun c_5 => ?_) (fun c_5 => ?_)
  ·
    refine A_iconst (n := 1) hG dX5_firstStandsOut_43 ?_
    refine A_goto hG 48 dX5_firstStandsOut_44 (by decide) ?_
    exact Ret_z hM dX5_firstStandsOut_48 (by omega) (⟨by omega, rfl⟩)
  ·
    refine A_aload_n hG 0 dX5_firstStandsOut_8 rfl rfl ?_
    refine M_getI (z := 7) (v := hn) hG dX5_firstStandsOut_9 fl_X5_37 (by decide) k60 rfl rfl h7 (fun ⟨ra_9, rb_9⟩ => ?_)
    refine A_iconst (n := 1) hG dX5_firstStandsOut_12 ?_
    refine A_icmp_le hG 47 dX5_firstStandsOut_13 (by decide) (by constructor <;> omega) (by constructor <;> omega) (fun c_13 => ?_) (fun c_13 => ?_)
    ·
      refine A_iconst (n := 0) hG dX5_firstStandsOut_47 ?_
      exact Ret_z hM dX5_firstStandsOut_48 (by omega) (⟨by omega, rfl⟩)
    ·
      have hfb := hpK_rng hH (i := 1) (by omega) (by omega)
      obtain ⟨nb, wb, hxb, hWb, hnb, hKb, hmsb⟩ := hX.2.2 (h.1 65 1) (by omega) (by omega)
      have hcb : prK (ms (h.1 65 1)) = h.1 62 (h.1 65 1) := by rw [hmsb]; exact (kK_dec (okD_W hOk hWb hnb)).1
      have hfa := hpK_rng hH (i := 0) (by omega) (by omega)
      obtain ⟨na, wa, hxa, hWa, hna, hKa, hmsa⟩ := hX.2.2 (h.1 65 0) (by omega) (by omega)
      have hca : prK (ms (h.1 65 0)) = h.1 62 (h.1 65 0) := by rw [hmsa]; exact (kK_dec (okD_W hOk hWa hna)).1
      refine A_aload_n hG 0 dX5_firstStandsOut_16 rfl rfl ?_
      refine A_getR (r := 62) hG dX5_firstStandsOut_17 fl_X5_17 (by decide) k60 (by decide) rfl ?_
      refine A_aload_n hG 0 dX5_firstStandsOut_20 rfl rfl ?_
      refine A_getR (r := 65) hG dX5_firstStandsOut_21 fl_X5_34 (by decide) k60 (by decide) rfl ?_
      refine A_iconst (n := 1) hG dX5_firstStandsOut_24 ?_
      refine M_iald (v := h.1 65 1) hG dX5_firstStandsOut_25 k65 n65 (by omega) rfl (fun ⟨ra_25, rb_25⟩ => ?_)
      refine M_iald (v := h.1 62 (h.1 65 1)) hG dX5_firstStandsOut_26 k62 n62 (by omega) rfl (fun ⟨ra_26, rb_26⟩ => ?_)
      refine A_aload_n hG 0 dX5_firstStandsOut_27 rfl rfl ?_
      refine A_getR (r := 62) hG dX5_firstStandsOut_28 fl_X5_17 (by decide) k60 (by decide) rfl ?_
      refine A_aload_n hG 0 dX5_firstStandsOut_31 rfl rfl ?_
      refine A_getR (r := 65) hG dX5_firstStandsOut_32 fl_X5_34 (by decide) k60 (by decide) rfl ?_
      refine A_iconst (n := 0) hG dX5_firstStandsOut_35 ?_
      refine M_iald (v := h.1 65 0) hG dX5_firstStandsOut_36 k65 n65 (by omega) rfl (fun ⟨ra_36, rb_36⟩ => ?_)
      refine M_iald (v := h.1 62 (h.1 65 0)) hG dX5_firstStandsOut_37 k62 n62 (by omega) rfl (fun ⟨ra_37, rb_37⟩ => ?_)
      refine A_isub hG dX5_firstStandsOut_38 ?_
      refine A_iload_n hG 1 dX5_firstStandsOut_39 rfl rfl ?_
      refine A_icmp_lt hG 47 dX5_firstStandsOut_40 (by decide) (by constructor <;> omega) (by constructor <;> omega) (fun c_40 => ?_) (fun c_40 => ?_)
      ·
        refine A_iconst (n := 0) hG dX5_firstStandsOut_47 ?_
        exact Ret_z hM dX5_firstStandsOut_48 (by omega) (⟨by omega, rfl⟩)
      ·
        refine A_iconst (n := 1) hG dX5_firstStandsOut_43 ?_
        refine A_goto hG 48 dX5_firstStandsOut_44 (by decide) ?_
        exact Ret_z hM dX5_firstStandsOut_48 (by omega) (⟨by omega, rfl⟩)

set_option maxHeartbeats 2000000 in
set_option maxRecDepth 20000 in
theorem x_greatestAt (h : AH) {gn : Nat} (hg : gn = 20 ∨ gn = 40) {g : Gm} (hgx : gX h gn = g) (hOk : okG g) {many hn : Int} {ms hf : Int → Int} (hX : mX h g many ms) (hm4 : 0 ≤ many ∧ many ≤ 40) (h7 : h.1 60 7 = hn) (h65 : h.1 65 = hf) (hH : hpK g many ms hn hf) {p : Int} (hp : 0 ≤ p ∧ p < 8) : AMet yX5_greatestAt cX5_greatestAt 6 (some .int) 1 23 [.ref 60, .ref gn, vI p] h (Qi (fun z h' => ∃ f : Int → Int, mostP (fun k => famK g (ms (hf k)) p) hn.toNat z ∧ h' = hm h [(66, f)] [] [])) := by
  have hhn := hH.1
  subst h65
  refine AMet.of (by decide) (Nat.le_of_ble_eq_true rfl) (fun G hM => ?_)
  have hG := hM.cx
  refine A_hm0 (G := G) (L := [(0, .ref 60), (1, .ref gn), (2, vI p)]) ?_
  refine A_aload_n hG 0 dX5_greatestAt_0 rfl rfl ?_
  refine A_getR (r := 66) hG dX5_greatestAt_1 fl_X5_40 (by decide) k60 (by decide) rfl ?_
  refine A_iconst (n := 0) hG dX5_greatestAt_4 ?_
  refine C_Sv (as := [.ref 66, vI 0]) (st := []) hG dX5_greatestAt_5 ml_X5_135 mf_J7_fill_53178 ms_J7_fill_53178 (j_fill66 (hm h [] [] []) (v := 0) (by constructor <;> omega)) (by decide) (by decide) rfl rfl (Nat.le_of_ble_eq_true rfl) (fun g5 hp_5 => ?_)
  have hq_5 : ∃ fx : Int → Int, (∀ j, 0 ≤ j → j < 17 → fx j = 0) ∧ g5 = hm (hm h [] [] []) [(66, fx)] [] [] := hp_5
  clear hp_5
  obtain ⟨f5, hf5, rfl⟩ := hq_5
  refine A_hm (la := [(66, f5)]) (lb := []) (lc := []) rfl rfl rfl ?_
  refine A_iconst (n := 0) hG dX5_greatestAt_8 ?_
  refine A_istore_n (L' := [(3, vI 0), (0, .ref 60), (1, .ref gn), (2, vI p)]) hG dX5_greatestAt_9 rfl (by decide) rfl ?_
  refine A_iconst (n := 0) hG dX5_greatestAt_10 ?_
  refine A_istore (L' := [(4, vI 0), (3, vI 0), (0, .ref 60), (1, .ref gn), (2, vI p)]) hG dX5_greatestAt_11 (by decide) rfl ?_
  have i_1 : ∀ fu : Nat, ∀ (gr : Int) (i : Nat) (f : Int → Int), (i ≤ hn.toNat) → (0 ≤ gr ∧ gr ≤ i) → (∀ c, 0 ≤ c → c ≤ 16 → f c = cntE (fun k => fam6 g (ms (h.1 65 k)) p) c i) → (∀ c, 0 ≤ c → c ≤ 16 → cntE (fun k => fam6 g (ms (h.1 65 k)) p) c i ≤ gr) → (mstD (fun k => fam6 g (ms (h.1 65 k)) p) i gr) → (41 - i) < fu → G 13 [(0, .ref 60), (1, .ref gn), (2, vI p), (3, vI gr), (4, vI (i : Int))] [] (hm h [(66, f)] [] []) := by
    intro fu
    induction fu with
    | zero => intro gr i f hi hgr hA hB hD hfu; exact absurd hfu (Nat.not_lt_zero _)
    | succ fu ih_i =>
      intro gr i f hi hgr hA hB hD hfu
      refine A_iload hG 4 dX5_greatestAt_13 rfl ?_
      refine A_aload_n hG 0 dX5_greatestAt_15 rfl rfl ?_
      refine M_getI (z := 7) (v := hn) hG dX5_greatestAt_16 fl_X5_37 (by decide) k60 rfl rfl h7 (fun ⟨ra_16, rb_16⟩ => ?_)
      refine A_icmp_ge hG 70 dX5_greatestAt_19 (by decide) (by constructor <;> omega) (by constructor <;> omega) (fun c_19 => ?_) (fun c_19 => ?_)
      ·
        refine A_iload_n hG 3 dX5_greatestAt_70 rfl rfl ?_
        exact Ret_i hM dX5_greatestAt_71 (by constructor <;> omega) (by
            have e : i = hn.toNat := by omega
            subst e
            refine ⟨f, mostP_inj (F := (fun k => fam6 g (ms (h.1 65 k)) p)) (fun a b a0 a1 b0 b1 => ?_) ⟨fun k k0 k1 => ?_, hgr.1, hD⟩, rfl⟩
            · have fa := hpK_rng hH (i := a) a0 (by omega)
              have fb := hpK_rng hH (i := b) b0 (by omega)
              obtain ⟨na, wa, xa, Wa, n1a, Ka, ma⟩ := hX.2.2 (h.1 65 a) (by omega) (by omega)
              obtain ⟨nb, wb, xb, Wb, n1b, Kb, mb⟩ := hX.2.2 (h.1 65 b) (by omega) (by omega)
              show fam6 g (ms (h.1 65 a)) p = fam6 g (ms (h.1 65 b)) p ↔ famK g (ms (h.1 65 a)) p = famK g (ms (h.1 65 b)) p
              rw [ma, mb]
              exact (fam6_eq hOk Wa Wb n1a n1b hp.1).symm
            · have fa := hpK_rng hH (i := k) k0 (by omega)
              obtain ⟨na, wa, xa, Wa, n1a, Ka, ma⟩ := hX.2.2 (h.1 65 k) (by omega) (by omega)
              have r0 := fam6_rng (c := h.1 62 (h.1 65 k)) hOk Wa n1a hp.1
              rw [← ma] at r0
              exact hB _ r0.1 r0.2)
      ·
        have hfi := hpK_rng hH (i := (i : Int)) (by omega) (by omega)
        obtain ⟨ni, wi, hxi, hWi, hni, hKi, hmsi⟩ := hX.2.2 (h.1 65 i) (by omega) (by omega)
        have hpi := hX.2.1.1 (h.1 65 i) (by omega) (by omega)
        obtain ⟨ρi, hρi⟩ : ∃ ρ : Nat, h.2.2 61 (h.1 65 i) = ρ := ⟨_, rfl⟩
        rw [hρi] at hxi hpi
        have hρri : 100 ≤ ρi ∧ ρi < 212 := by omega
        refine A_aload_n hG 0 dX5_greatestAt_22 rfl rfl ?_
        refine A_getR (r := 61) hG dX5_greatestAt_23 fl_X5_11 (by decide) k60 (by decide) rfl ?_
        refine A_aload_n hG 0 dX5_greatestAt_26 rfl rfl ?_
        refine A_getR (r := 65) hG dX5_greatestAt_27 fl_X5_34 (by decide) k60 (by decide) rfl ?_
        refine A_iload hG 4 dX5_greatestAt_30 rfl ?_
        refine M_iald (v := h.1 65 (i : Int)) hG dX5_greatestAt_32 k65 n65 (by omega) rfl (fun ⟨ra_32, rb_32⟩ => ?_)
        refine M_aald (r := ρi) hG dX5_greatestAt_33 (Or.inl k61) n61 (by omega) hρi ?_
        refine A_aload_n hG 1 dX5_greatestAt_34 rfl rfl ?_
        refine A_iload_n hG 2 dX5_greatestAt_35 rfl rfl ?_
        refine C_Vi (as := [.ref gn, vI p]) (st := []) (k := ρi) (c := 7) hG dX5_greatestAt_36 ml_X5_141 mf_X7_familyAt mi_X7_familyAt se_X7_familyAt rfl (by decide) (obk_row hρri) (x_familyAt (hm h [(66, f)] [] []) hρri hg (g := g) ((gX_li hg rfl).trans hgx) hOk (n := ni) (p := p) (w := wi) (rowX_eq (by simp (disch := omega) only [hm, alk, if_neg, if_pos, ite_true]) (by simp (disch := omega) only [hm, alk, if_neg, if_pos, ite_true]) hxi) hWi (by omega)) (by decide) (by decide) rfl rfl (Nat.le_of_ble_eq_true rfl) (fun z36 g36 ri_36 hp_36 => ?_)
        obtain ⟨ra_36, rb_36⟩ := ri_36
        obtain ⟨hz36, rfl⟩ := hp_36
        refine A_istore (L' := [(5, vI z36), (0, .ref 60), (1, .ref gn), (2, vI p), (3, vI gr), (4, vI (i : Int))]) hG dX5_greatestAt_39 (by decide) rfl ?_
        have hz36e : z36 = fam6 g (ms (h.1 65 i)) p := by rw [hmsi, fam6_kK (okD_W hOk hWi hni) hp.1]; exact hz36
        have hz36r := fam6_rng (c := h.1 62 (h.1 65 i)) hOk hWi hni hp.1
        rw [← hmsi, ← hz36e] at hz36r
        have hfz := hA z36 (by omega) (by omega)
        have hcz := cntE_le (fun k => fam6 g (ms (h.1 65 k)) p) z36 i
        refine A_aload_n hG 1 dX5_greatestAt_41 rfl rfl ?_
        refine A_getR (r := 66) hG dX5_greatestAt_42 fl_X5_40 (by decide) k60 (by decide) rfl ?_
        refine A_iload hG 0 dX5_greatestAt_45 rfl ?_
        refine A_dup2 hG dX5_greatestAt_47 rfl rfl ?_
        refine M_iald (v := f z36) hG dX5_greatestAt_48 k66 n66 (by omega) rfl (fun ⟨ra_48, rb_48⟩ => ?_)
        refine A_iconst (n := 1) hG dX5_greatestAt_49 ?_
        refine A_iadd hG dX5_greatestAt_50 ?_
        refine M_iast (li' := [(66, up f z36 ((f z36) + 1))]) hG dX5_greatestAt_51 k66 n66 (by omega) (by constructor <;> omega) rfl ?_
        refine A_iload_n hG 4 dX5_greatestAt_52 rfl rfl ?_
        refine A_aload_n hG 1 dX5_greatestAt_53 rfl rfl ?_
        refine A_getR (r := 66) hG dX5_greatestAt_54 fl_X5_40 (by decide) k60 (by decide) rfl ?_
        refine A_iload hG 0 dX5_greatestAt_57 rfl ?_
        refine M_iald (v := (f z36) + 1) hG dX5_greatestAt_59 k66 n66 (by omega) (up_eq f z36 ((f z36) + 1)) (fun ⟨ra_59, rb_59⟩ => ?_)
        refine A_mmax hG (x := gr) (y := (f z36) + 1) dX5_greatestAt_60 lw_X5_144 (by constructor <;> omega) (by constructor <;> omega) (by decide) (by decide) (Nat.le_of_ble_eq_true rfl) (fun z60 hz60 => ?_)
        refine A_istore_n (L' := [(3, vI z60), (5, vI z36), (0, .ref 60), (1, .ref gn), (2, vI p), (4, vI (i : Int))]) hG dX5_greatestAt_63 rfl (by decide) rfl ?_
        refine A_iinc (L' := [(4, vI ((i : Int) + 1)), (3, vI z60), (5, vI z36), (0, .ref 60), (1, .ref gn), (2, vI p)]) hG 5 dX5_greatestAt_64 rfl (by decide) rfl ?_
        refine A_goto hG 13 dX5_greatestAt_67 (by decide) ?_
        refine A_sub hG [3, 4, 5, 1, 0] rfl ?_
        exact ih_i z60 (i + 1) (up f z36 ((f z36) + 1)) (by omega) (by omega) (fun c c0 c1 => by
            simp only [cntE]
            by_cases e : c = z36
            · rw [e, up_eq, hA z36 (by omega) (by omega), if_pos (by omega)]
            · rw [up_ne _ _ e, hA c c0 c1, if_neg (by omega)]; omega) (fun c c0 c1 => by
            have a1 := hB c c0 c1
            simp only [cntE]
            by_cases e : c = z36
            · rw [if_pos (by omega), e]; have := hA z36 (by omega) (by omega); omega
            · rw [if_neg (by omega)]; omega) (by
            have a0 := hA z36 (by omega) (by omega)
            rcases (show z60 = f z36 + 1 ∨ (z60 = gr ∧ f z36 + 1 ≤ gr) by omega) with q | ⟨q, q2⟩
            · refine Or.inr ⟨i, by omega, by omega, ?_⟩
              show cntE _ (fam6 g (ms (h.1 65 i)) p) (i + 1) = z60
              simp only [cntE]
              rw [if_pos trivial, q, a0, ← hz36e]
            · rcases hD with d | ⟨k, k0, k1, k2⟩
              · exfalso; have := (cntE_le (fun k => fam6 g (ms (h.1 65 k)) p) z36 i).1; omega
              · refine Or.inr ⟨k, k0, by omega, ?_⟩
                have k2 : cntE (fun k => fam6 g (ms (h.1 65 k)) p) (fam6 g (ms (h.1 65 k)) p) i = gr := k2
                show cntE _ (fam6 g (ms (h.1 65 k)) p) (i + 1) = z60
                simp only [cntE]
                rw [k2, q, if_neg (fun e => ?_)]
                · omega
                · rw [← e, ← hz36e, ← a0] at k2; omega) (by omega)
  refine A_sub hG [2, 3, 4, 1, 0] rfl ?_
  exact i_1 _ 0 0 f5 (by omega) (by omega) (fun c c0 c1 => hf5 c c0 (by omega)) (fun c c0 c1 => Int.le_refl _) (Or.inl rfl) (Nat.lt_succ_self _)

set_option maxHeartbeats 2000000 in
set_option maxRecDepth 20000 in
theorem x_askedPlace (h : AH) {gn : Nat} (hg : gn = 20 ∨ gn = 40) {g : Gm} (hgx : gX h gn = g) (hOk : okG g) {many hn : Int} {ms hf : Int → Int} (hX : mX h g many ms) (hm4 : 0 ≤ many ∧ many ≤ 40) (h7 : h.1 60 7 = hn) (h65 : h.1 65 = hf) (hH : hpK g many ms hn hf) : AMet yX5_askedPlace cX5_askedPlace 4 (some .int) 2 48 [.ref 60, .ref gn] h (Qi (fun z h' => ∃ f : Int → Int, askP (fun p k => famK g (ms (hf k)) p) hn.toNat z ∧ h' = hm h [(66, f)] [] [])) := by
  obtain ⟨m, hmm⟩ : ∃ m : Int → Int, ∀ p, mostP (fun k => famK g (ms (hf k)) p) hn.toNat (m p) := ⟨fun p => Classical.choose (mostP_ex _ _), fun p => Classical.choose_spec (mostP_ex _ _)⟩
  refine AMet.of (by decide) (Nat.le_of_ble_eq_true rfl) (fun G hM => ?_)
  have hG := hM.cx
  refine A_hm0 (G := G) (L := [(0, .ref 60), (1, .ref gn)]) ?_
  refine A_iconst (n := 0) hG dX5_askedPlace_0 ?_
  refine A_istore_n (L' := [(2, vI 0), (0, .ref 60), (1, .ref gn)]) hG dX5_askedPlace_1 rfl (by decide) rfl ?_
  refine A_iconst (n := 1) hG dX5_askedPlace_2 ?_
  refine A_istore_n (L' := [(3, vI 1), (2, vI 0), (0, .ref 60), (1, .ref gn)]) hG dX5_askedPlace_3 rfl (by decide) rfl ?_
  refine A_insI 66 (li' := [(66, h.1 66)]) rfl ?_
  have p_0 : ∀ fu : Nat, ∀ (a : Int) (p : Int) (f : Int → Int), (0 ≤ a ∧ a < p ∧ p ≤ 8) → (∀ q, 0 ≤ q → q < a → m a < m q) → (∀ q, a ≤ q → q < p → m a ≤ m q) → ((9 - p).toNat) < fu → G 4 [(0, .ref 60), (1, .ref gn), (2, vI a), (3, vI p)] [] (hm h [(66, f)] [] []) := by
    intro fu
    induction fu with
    | zero => intro a p f ha hA hB hfu; exact absurd hfu (Nat.not_lt_zero _)
    | succ fu ih_p =>
      intro a p f ha hA hB hfu
      refine A_iload_n hG 3 dX5_askedPlace_4 rfl rfl ?_
      refine A_bipush (n := 8) hG dX5_askedPlace_5 (by decide) ?_
      refine A_icmp_ge hG 33 dX5_askedPlace_7 (by decide) (by constructor <;> omega) (by constructor <;> omega) (fun c_7 => ?_) (fun c_7 => ?_)
      ·
        refine A_iload_n hG 2 dX5_askedPlace_33 rfl rfl ?_
        exact Ret_i hM dX5_askedPlace_34 (by constructor <;> omega) (⟨f, ⟨by omega, m, fun q _ _ => hmm q, hA, fun q q0 q1 => hB q q0 (by omega)⟩, rfl⟩)
      ·
        refine A_aload_n hG 0 dX5_askedPlace_10 rfl rfl ?_
        refine A_aload_n hG 1 dX5_askedPlace_11 rfl rfl ?_
        refine A_iload_n hG 3 dX5_askedPlace_12 rfl rfl ?_
        refine C_Vi (as := [.ref gn, vI p]) (st := []) (k := 60) (c := 5) hG dX5_askedPlace_13 ml_X5_131 mf_X5_greatestAt mi_X5_greatestAt se_X5_greatestAt rfl (by decide) k60 (x_greatestAt (hm h [(66, f)] [] []) hg (g := g) ((gX_li hg rfl).trans hgx) hOk (many := many) (hn := hn) (ms := ms) (hf := hf) (mX_eq (h := h) hm4.2 rfl rfl rfl (fun k k1 k2 => ⟨(by simp (disch := omega) only [hm, alk, if_neg, if_pos, ite_true]), (by simp (disch := omega) only [hm, alk, if_neg, if_pos, ite_true])⟩) hX) hm4 h7 h65 hH (p := p) (by omega)) (by decide) (by decide) rfl rfl (Nat.le_of_ble_eq_true rfl) (fun z13 g13 ri_13 hp_13 => ?_)
        obtain ⟨ra_13, rb_13⟩ := ri_13
        have hq_13 : ∃ fx : Int → Int, mostP (fun k => famK g (ms (hf k)) p) hn.toNat z13 ∧ g13 = hm (hm h [(66, f)] [] []) [(66, fx)] [] [] := hp_13
        clear hp_13
        obtain ⟨f13, hz13, rfl⟩ := hq_13
        refine A_hm (la := [(66, f13)]) (lb := []) (lc := []) rfl rfl rfl ?_
        refine A_aload_n hG 0 dX5_askedPlace_16 rfl rfl ?_
        refine A_aload_n hG 1 dX5_askedPlace_17 rfl rfl ?_
        refine A_iload_n hG 2 dX5_askedPlace_18 rfl rfl ?_
        refine C_Vi (as := [.ref gn, vI a]) (st := [vI z13]) (k := 60) (c := 5) hG dX5_askedPlace_19 ml_X5_131 mf_X5_greatestAt mi_X5_greatestAt se_X5_greatestAt rfl (by decide) k60 (x_greatestAt (hm h [(66, f13)] [] []) hg (g := g) ((gX_li hg rfl).trans hgx) hOk (many := many) (hn := hn) (ms := ms) (hf := hf) (mX_eq (h := h) hm4.2 rfl rfl rfl (fun k k1 k2 => ⟨(by simp (disch := omega) only [hm, alk, if_neg, if_pos, ite_true]), (by simp (disch := omega) only [hm, alk, if_neg, if_pos, ite_true])⟩) hX) hm4 h7 h65 hH (p := a) (by omega)) (by decide) (by decide) rfl rfl (Nat.le_of_ble_eq_true rfl) (fun z19 g19 ri_19 hp_19 => ?_)
        obtain ⟨ra_19, rb_19⟩ := ri_19
        have hq_19 : ∃ fx : Int → Int, mostP (fun k => famK g (ms (hf k)) a) hn.toNat z19 ∧ g19 = hm (hm h [(66, f13)] [] []) [(66, fx)] [] [] := hp_19
        clear hp_19
        obtain ⟨f19, hz19, rfl⟩ := hq_19
        refine A_hm (la := [(66, f19)]) (lb := []) (lc := []) rfl rfl rfl ?_
        refine A_icmp_ge hG 27 dX5_askedPlace_22 (by decide) (by constructor <;> omega) (by constructor <;> omega) (fun c_22 => ?_) (fun c_22 => ?_)
        ·
          refine A_iinc (L' := [(3, vI (p + 1)), (0, .ref 60), (1, .ref gn), (2, vI a)]) hG 3 dX5_askedPlace_27 rfl (by decide) rfl ?_
          refine A_goto hG 4 dX5_askedPlace_30 (by decide) ?_
          refine A_sub hG [1, 2, 3, 0] rfl ?_
          exact ih_p a (p + 1) f19 (by omega) hA (fun q q0 q1 => by
              have e := mostP_one (hmm p) hz13; have e2 := mostP_one (hmm a) hz19
              by_cases d : q = p
              · rw [d]; omega
              · exact hB q q0 (by omega)) (by omega)
        ·
          refine A_iload_n hG 3 dX5_askedPlace_25 rfl rfl ?_
          refine A_istore_n (L' := [(2, vI p), (0, .ref 60), (1, .ref gn), (3, vI p)]) hG dX5_askedPlace_26 rfl (by decide) rfl ?_
          refine A_iinc (L' := [(3, vI (p + 1)), (2, vI p), (0, .ref 60), (1, .ref gn)]) hG 3 dX5_askedPlace_27 rfl (by decide) rfl ?_
          refine A_goto hG 4 dX5_askedPlace_30 (by decide) ?_
          refine A_sub hG [2, 3, 1, 0] rfl ?_
          exact ih_p p (p + 1) f19 (by omega) (fun q q0 q1 => by
              have e := mostP_one (hmm p) hz13; have e2 := mostP_one (hmm a) hz19
              by_cases d : q < a
              · have := hA q q0 d; omega
              · have := hB q (by omega) q1; omega) (fun q q0 q1 => by
              have d : q = p := by omega
              rw [d]; exact Int.le_refl _) (by omega)
  refine A_sub hG [2, 3, 1, 0] rfl ?_
  exact p_0 _ 0 1 (h.1 66) (by omega) (fun q q0 q1 => by omega) (fun q q0 q1 => by
      have d : q = 0 := by omega
      rw [d]; exact Int.le_refl _) (Nat.lt_succ_self _)

end
