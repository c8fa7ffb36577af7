/-! the class: the table of prices: how a run begins (printed by gen) -/
section
theorem lvs_mono {g : Gm} {pr u v : Int → Int} {q : Prop} {own : Int} (h : ∀ k, 0 ≤ k → k < 40 → v k ≤ u k) (hu : lvs g pr q own u) (hOk : okG g) : lvs g pr q own v := fun x x0 x1 => by
  have o := hOk.2.2.1 x x0 x1
  have e1 := h (4 * g 0 x + g 1 x) (by omega) (by omega)
  obtain ⟨l1, l2⟩ := hu x x0 x1
  refine ⟨fun e2 => Int.le_trans e1 (l1 e2), fun e2 e3 => ?_⟩
  obtain ⟨m1, m2, m3⟩ := l2 e2 e3
  exact ⟨fun e4 => Int.le_trans e1 (m1 e4), fun e4 => Int.le_trans e1 (m2 e4), fun e4 => Int.le_trans e1 (m3 e4)⟩
set_option maxHeartbeats 2000000 in
set_option maxRecDepth 20000 in
theorem x_putChanged (h : AH) {gn : Nat} (hg : gn = 20 ∨ gn = 40) {g : Gm} (hgx : gX h gn = g) {r : Nat} (hr : 100 ≤ r ∧ r < 212) (hOk : okG g) {n qd : Int} {w : Int → Int} (hwr : rowX h r n w) (hqd : h.1 r 2 = qd) (hW : okW g w n) {pr : Int → Int} (hpr : ∀ c, 0 ≤ c → c < 5 → h.1 9 c = pr c) (hpp : ∀ c, 0 ≤ c → c < 5 → 0 ≤ pr c ∧ pr c ≤ 99) {p : Int} {F : Int → Int} (hF : h.1 13 = F) (hp : 0 ≤ p ∧ p < n) (hV : ∀ i, 0 ≤ i → i < 3240 → 0 ≤ F i ∧ F i ≤ 100) (h100 : ∀ k, 0 ≤ k → k < 40 → F (40 * (9 * p + (p + 1)) + k) = 100) : AMet yX6_putChanged cX6_putChanged 8 none 2 45 [.ref 12, .ref gn, .ref r, .ref 9, vI p] h (Qv (fun h' => ∃ f : Int → Int, ((∀ i, (i < 40 * (9 * p + (p + 1)) ∨ 40 * (9 * p + (p + 1)) + 40 ≤ i) → f i = F i) ∧ (∀ i, 0 ≤ i → i < 3240 → 0 ≤ f i ∧ f i ≤ 100) ∧ lvs g pr (hasb qd p) (w p) (fun k => f (40 * (9 * p + (p + 1)) + k)) ∧ ∀ u : Int → Int, (∀ k, 0 ≤ k → k < 40 → u k ≤ 100) → lvs g pr (hasb qd p) (w p) u → ∀ k, 0 ≤ k → k < 40 → u k ≤ f (40 * (9 * p + (p + 1)) + k)) ∧ h' = hm h [(13, f)] [] [])) := by
  subst hF
  have hn := hW.1
  have hgw := hOk.1
  have hown := hW.2 p hp.1 hp.2
  have oo := hOk.2.2.1 (w p) hown.1 hown.2
  refine AMet.of (by decide) (Nat.le_of_ble_eq_true rfl) (fun G hM => ?_)
  have hG := hM.cx
  refine A_hm0 (G := G) (L := [(0, .ref 12), (1, .ref gn), (2, .ref r), (3, .ref 9), (4, vI p)]) ?_
  refine A_iload hG 4 dX6_putChanged_0 rfl ?_
  refine A_iload hG 4 dX6_putChanged_2 rfl ?_
  refine A_iconst (n := 1) hG dX6_putChanged_4 ?_
  refine A_iadd hG dX6_putChanged_5 ?_
  refine C_Si (as := [vI p, vI (p + 1)]) (st := []) hG dX6_putChanged_6 ml_X6_35 mf_X6_run ms_X6_run (x_run (hm h [] [] []) (a := p) (b := p + 1) (by omega) (by omega)) (by decide) (by decide) rfl rfl (Nat.le_of_ble_eq_true rfl) (fun z6 g6 ri_6 hp_6 => ?_)
  obtain ⟨ra_6, rb_6⟩ := ri_6
  obtain ⟨rfl, rfl⟩ := hp_6
  refine A_istore (L' := [(5, vI (40 * (9 * p + (p + 1)))), (0, .ref 12), (1, .ref gn), (2, .ref r), (3, .ref 9), (4, vI p)]) hG dX6_putChanged_9 (by decide) rfl ?_
  refine A_aload_n hG 3 dX6_putChanged_11 rfl rfl ?_
  refine A_getR (r := (r + 200)) hG dX6_putChanged_12 fl_X6_80 (by decide) (obk_row hr) (by decide) rfl ?_
  refine A_iload hG 5 dX6_putChanged_15 rfl ?_
  refine M_iald (v := w p) hG dX6_putChanged_17 (obk_rw hr) (obn_rw hr) (by omega) (hwr.2 p hp.1 hp.2) (fun ⟨ra_17, rb_17⟩ => ?_)
  refine A_istore (L' := [(6, vI (w p)), (5, vI (40 * (9 * p + (p + 1)))), (0, .ref 12), (1, .ref gn), (2, .ref r), (3, .ref 9), (4, vI p)]) hG dX6_putChanged_18 (by decide) rfl ?_
  refine A_aload_n hG 2 dX6_putChanged_20 rfl rfl ?_
  refine A_getR (r := 13) hG dX6_putChanged_21 fl_X6_11 (by decide) k12 (by decide) rfl ?_
  refine A_iload hG 1 dX6_putChanged_24 rfl ?_
  refine A_aload_n hG 3 dX6_putChanged_26 rfl rfl ?_
  refine A_iload hG 0 dX6_putChanged_27 rfl ?_
  refine C_Vi (as := [vI (w p)]) (st := [vI (40 * (9 * p + (p + 1))), .ref 13]) (k := gn) (c := 1) hG dX6_putChanged_29 ml_X6_52 mf_X1_stateOf mi_X1_stateOf se_X1_stateOf rfl (by decide) (kg0 hg) (x_stateOf (hm h [] [] []) hg (g := g) hgx hOk (v := w p) hown) (by decide) (by decide) rfl rfl (Nat.le_of_ble_eq_true rfl) (fun z29 g29 ri_29 hp_29 => ?_)
  obtain ⟨ra_29, rb_29⟩ := ri_29
  obtain ⟨rfl, rfl⟩ := hp_29
  refine A_iadd hG dX6_putChanged_32 ?_
  refine A_iconst (n := 0) hG dX6_putChanged_33 ?_
  refine M_iast (li' := [(13, up (h.1 13) ((40 * (9 * p + (p + 1))) + (4 * g 0 (w p) + g 1 (w p))) 0)]) hG dX6_putChanged_34 k13 n13 (by omega) (by constructor <;> omega) rfl ?_
  refine A_iconst (n := 0) hG dX6_putChanged_35 ?_
  refine A_istore (L' := [(7, vI 0), (6, vI (w p)), (5, vI (40 * (9 * p + (p + 1)))), (0, .ref 12), (1, .ref gn), (2, .ref r), (3, .ref 9), (4, vI p)]) hG dX6_putChanged_36 (by decide) rfl ?_
  have v_2 : ∀ fu : Nat, ∀ (v : Int) (f : Int → Int), (0 ≤ v ∧ v ≤ g 10 0) → (∀ i, (i < 40 * (9 * p + (p + 1)) ∨ 40 * (9 * p + (p + 1)) + 40 ≤ i) → f i = h.1 13 i) → (∀ i, 0 ≤ i → i < 3240 → 0 ≤ f i ∧ f i ≤ 100) → (f (40 * (9 * p + (p + 1)) + (4 * g 0 (w p) + g 1 (w p))) ≤ 0 ∧ ∀ x, 0 ≤ x → x < v → ¬ hasb qd p → f (40 * (9 * p + (p + 1)) + (4 * g 0 x + g 1 x)) ≤ swpP g pr (w p) x) → (∀ u : Int → Int, (∀ k, 0 ≤ k → k < 40 → u k ≤ 100) → lvs g pr (hasb qd p) (w p) u → ∀ k, 0 ≤ k → k < 40 → u k ≤ f (40 * (9 * p + (p + 1)) + k)) → ((17 - v).toNat) < fu → G 38 [(0, .ref 12), (1, .ref gn), (2, .ref r), (3, .ref 9), (4, vI p), (5, vI (40 * (9 * p + (p + 1)))), (6, vI (w p)), (7, vI v)] [] (hm h [(13, f)] [] []) := by
    intro fu
    induction fu with
    | zero => intro v f hvv hO hVf hA hB hfu; exact absurd hfu (Nat.not_lt_zero _)
    | succ fu ih_v =>
      intro v f hvv hO hVf hA hB hfu
      refine A_iload hG 7 dX6_putChanged_38 rfl ?_
      refine A_aload_n hG 1 dX6_putChanged_40 rfl rfl ?_
      refine M_getI (z := 4) (v := g 10 0) hG dX6_putChanged_41 fl_X6_47 (by decide) (kg0 hg) rfl rfl ((congrFun (show alk [(13, f)] gn (h.1 gn) = h.1 gn from (by simp (disch := omega) only [alk, if_neg, if_pos, ite_true])) 4).trans ((gx_n hgx).1)) (fun ⟨ra_41, rb_41⟩ => ?_)
      refine A_icmp_ge hG 88 dX6_putChanged_44 (by decide) (by constructor <;> omega) (by constructor <;> omega) (fun c_44 => ?_) (fun c_44 => ?_)
      ·
        have hqq : v = g 10 0 := by omega
        exact Ret_v hM dX6_putChanged_88 (⟨f, ⟨hO, hVf, fun x x0 x1 => swp_lfB (fun e => by subst e; exact hA.1) (fun hq => by first | exact absurd hqq hq | exact hA.2 x x0 (by omega) hq), hB⟩, rfl⟩)
      ·
        have ov := hOk.2.2.1 v (by omega) (by omega)
        refine A_aload_n hG 2 dX6_putChanged_47 rfl rfl ?_
        refine M_getI (z := 2) (v := qd) hG dX6_putChanged_48 fl_X6_69 (by decide) (obk_row hr) rfl rfl ((congrFun (show alk [(13, f)] r (h.1 r) = h.1 r from (by simp (disch := omega) only [alk, if_neg, if_pos, ite_true])) 2).trans (hqd)) (fun ⟨ra_48, rb_48⟩ => ?_)
        refine A_iload hG 4 dX6_putChanged_51 rfl ?_
        refine C_Si (as := [vI qd, vI p]) (st := []) hG dX6_putChanged_53 ml_X6_72 mf_X11_hasBit ms_X11_hasBit (x_hasBit (hm h [(13, f)] [] []) qd p) (by decide) (by decide) rfl rfl (Nat.le_of_ble_eq_true rfl) (fun z53 g53 ri_53 hp_53 => ?_)
        obtain ⟨ra_53, rb_53⟩ := ri_53
        obtain ⟨hz53, rfl⟩ := hp_53
        refine A_if_ne hG 88 dX6_putChanged_56 (by decide) (by constructor <;> omega) (fun c_56 => ?_) (fun c_56 => ?_)
        ·
          have hqq : hasb qd p := has_yes hz53 c_56
          exact Ret_v hM dX6_putChanged_88 (⟨f, ⟨hO, hVf, fun x x0 x1 => swp_lfB (fun e => by subst e; exact hA.1) (fun hq => by first | exact absurd hqq hq | exact hA.2 x x0 (by omega) hq), hB⟩, rfl⟩)
        ·
          have hnq : ¬ hasb qd p := has_no hz53 c_56
          have hsw := swpP_rng (g := g) (pr := pr) (hpp 0 (by omega) (by omega)) (hpp 1 (by omega) (by omega)) (hpp 2 (by omega) (by omega)) (u := w p) (v := v)
          refine A_aload_n hG 0 dX6_putChanged_59 rfl rfl ?_
          refine A_iload hG 5 dX6_putChanged_60 rfl ?_
          refine A_aload_n hG 1 dX6_putChanged_62 rfl rfl ?_
          refine A_iload hG 7 dX6_putChanged_63 rfl ?_
          refine C_Vi (as := [vI v]) (st := [vI (40 * (9 * p + (p + 1))), .ref 12]) (k := gn) (c := 1) hG dX6_putChanged_65 ml_X6_52 mf_X1_stateOf mi_X1_stateOf se_X1_stateOf rfl (by decide) (kg0 hg) (x_stateOf (hm h [(13, f)] [] []) hg (g := g) ((gX_li hg rfl).trans hgx) hOk (v := v) (by omega)) (by decide) (by decide) rfl rfl (Nat.le_of_ble_eq_true rfl) (fun z65 g65 ri_65 hp_65 => ?_)
          obtain ⟨ra_65, rb_65⟩ := ri_65
          obtain ⟨rfl, rfl⟩ := hp_65
          refine A_iadd hG dX6_putChanged_68 ?_
          refine A_aload_n hG 1 dX6_putChanged_69 rfl rfl ?_
          refine A_iload hG 6 dX6_putChanged_70 rfl ?_
          refine A_iload hG 7 dX6_putChanged_72 rfl ?_
          refine A_aload_n hG 3 dX6_putChanged_74 rfl rfl ?_
          refine C_Vi (as := [vI (w p), vI v, .ref 9]) (st := [vI ((40 * (9 * p + (p + 1))) + (4 * g 0 v + g 1 v)), .ref 12]) (k := gn) (c := 1) hG dX6_putChanged_75 ml_X6_82 mf_X1_swapPrice mi_X1_swapPrice se_X1_swapPrice rfl (by decide) (kg0 hg) (x_swapPrice (hm h [(13, f)] [] []) hg (g := g) ((gX_li hg rfl).trans hgx) hOk (u := (w p)) (v := v) hown (by omega) (pk := 9) k9 n9 (p := pr) hpr hpp) (by decide) (by decide) rfl rfl (Nat.le_of_ble_eq_true rfl) (fun z75 g75 ri_75 hp_75 => ?_)
          obtain ⟨ra_75, rb_75⟩ := ri_75
          obtain ⟨hz75, rfl⟩ := hp_75
          refine C_Vi (as := [vI ((40 * (9 * p + (p + 1))) + (4 * g 0 v + g 1 v)), vI z75]) (st := []) (k := 12) (c := 6) hG dX6_putChanged_78 ml_X6_86 mf_X6_lower mi_X6_lower se_X6_lower rfl (by decide) k12 (x_lower (hm h [(13, f)] [] []) (p := ((40 * (9 * p + (p + 1))) + (4 * g 0 v + g 1 v))) (v := z75) (F := f) rfl (by omega) (by constructor <;> omega)) (by decide) (by decide) rfl rfl (Nat.le_of_ble_eq_true rfl) (fun z78 g78 ri_78 hp_78 => ?_)
          obtain ⟨ra_78, rb_78⟩ := ri_78
          have hq_78 : ∃ fx : Int → Int, ((∀ i, i ≠ ((40 * (9 * p + (p + 1))) + (4 * g 0 v + g 1 v)) → fx i = f i) ∧ ((z78 = 0 ∧ f ((40 * (9 * p + (p + 1))) + (4 * g 0 v + g 1 v)) ≤ z75 ∧ fx ((40 * (9 * p + (p + 1))) + (4 * g 0 v + g 1 v)) = f ((40 * (9 * p + (p + 1))) + (4 * g 0 v + g 1 v))) ∨ (z78 = 1 ∧ z75 < f ((40 * (9 * p + (p + 1))) + (4 * g 0 v + g 1 v)) ∧ fx ((40 * (9 * p + (p + 1))) + (4 * g 0 v + g 1 v)) = z75))) ∧ g78 = hm (hm h [(13, f)] [] []) [(13, fx)] [] [] := hp_78
          clear hp_78
          obtain ⟨f78, ⟨hn78, hz78⟩, rfl⟩ := hq_78
          refine A_hm (la := [(13, f78)]) (lb := []) (lc := []) rfl rfl rfl ?_
          refine A_pop hG dX6_putChanged_81 rfl ?_
          refine A_iinc (L' := [(7, vI (v + 1)), (0, .ref 12), (1, .ref gn), (2, .ref r), (3, .ref 9), (4, vI p), (5, vI (40 * (9 * p + (p + 1)))), (6, vI (w p))]) hG 7 dX6_putChanged_82 rfl (by decide) rfl ?_
          refine A_goto hG 38 dX6_putChanged_85 (by decide) ?_
          refine A_sub hG [1, 2, 3, 4, 5, 6, 7, 0] rfl ?_
          exact ih_v (v + 1) f78 (by omega) (fun i hi => by rw [hn78 i (by omega)]; exact hO i hi) (fun i i0 i1 => by
              by_cases e : i = 40 * (9 * p + (p + 1)) + (4 * g 0 v + g 1 v)
              · rw [e]; have := hVf (40 * (9 * p + (p + 1)) + (4 * g 0 v + g 1 v)) (by omega) (by omega); omega
              · rw [hn78 i e]; exact hVf i i0 i1) (⟨by
              by_cases e : 40 * (9 * p + (p + 1)) + (4 * g 0 (w p) + g 1 (w p)) = 40 * (9 * p + (p + 1)) + (4 * g 0 v + g 1 v)
              · rw [e]; have := hA.1; rw [e] at this; omega
              · rw [hn78 _ e]; exact hA.1, fun x x0 x1 hq => by
              by_cases e : 40 * (9 * p + (p + 1)) + (4 * g 0 x + g 1 x) = 40 * (9 * p + (p + 1)) + (4 * g 0 v + g 1 v)
              · by_cases d : x = v
                · subst d; omega
                · have := hA.2 x x0 (by omega) hq; rw [e] at this ⊢; omega
              · rw [hn78 _ e]; refine hA.2 x x0 ?_ hq
                rcases (show x < v ∨ x = v by omega) with d | d
                · exact d
                · subst d; exact absurd rfl e⟩) (fun u h1 h2 k k0 k1 => by
              have h3 := hB u h1 h2 k k0 k1
              by_cases e : k = (4 * g 0 v + g 1 v)
              · have h4 := lfB_swp (h2 v (by omega) (by omega)) hnq (h1 _ (by omega) (by omega)) hpp
                rw [e] at h3 ⊢; omega
              · rw [hn78 _ (by omega)]; exact h3) (by omega)
  refine A_sub hG [3, 4, 5, 6, 7, 2, 1, 0] rfl ?_
  exact v_2 _ 0 (up (h.1 13) ((40 * (9 * p + (p + 1))) + (4 * g 0 (w p) + g 1 (w p))) 0) (by omega) (fun i hi => up_ne _ _ (by omega)) (fun i i0 i1 => by
      by_cases e : i = 40 * (9 * p + (p + 1)) + (4 * g 0 (w p) + g 1 (w p))
      · rw [e, up_eq]; omega
      · rw [up_ne _ _ e]; exact hV i i0 i1) (⟨by rw [up_eq]; exact Int.le_refl _, fun x x0 x1 => by omega⟩) (fun u h1 h2 k k0 k1 => by
      by_cases e : k = (4 * g 0 (w p) + g 1 (w p))
      · rw [e, up_eq]; exact (h2 (w p) hown.1 hown.2).1 rfl
      · rw [up_ne _ _ (by omega), h100 k k0 k1]; exact h1 k k0 k1) (Nat.lt_succ_self _)

set_option maxHeartbeats 2000000 in
set_option maxRecDepth 20000 in
theorem x_startRun (h : AH) {gn : Nat} (hg : gn = 20 ∨ gn = 40) {g : Gm} (hgx : gX h gn = g) {r : Nat} (hr : 100 ≤ r ∧ r < 212) (hOk : okG g) {n qd : Int} {w : Int → Int} (hwr : rowX h r n w) (hqd : h.1 r 2 = qd) (hW : okW g w n) {pr : Int → Int} (hpr : ∀ c, 0 ≤ c → c < 5 → h.1 9 c = pr c) (hpp : ∀ c, 0 ≤ c → c < 5 → 0 ≤ pr c ∧ pr c ≤ 99) {a b : Int} {F : Int → Int} (hF : h.1 13 = F) (hab : 0 ≤ a ∧ a < b ∧ b ≤ n) (hV : ∀ i, 0 ≤ i → i < 3240 → 0 ≤ F i ∧ F i ≤ 100) : AMet yX6_startRun cX6_startRun 7 none 3 72 [.ref 12, .ref gn, .ref r, .ref 9, vI a, vI b] h (Qv (fun h' => ∃ f : Int → Int, ((∀ i, (i < 40 * (9 * a + b) ∨ 40 * (9 * a + b) + 40 ≤ i) → f i = F i) ∧ (∀ i, 0 ≤ i → i < 3240 → 0 ≤ f i ∧ f i ≤ 100) ∧ stR g pr (hasb qd) w a b F (fun k => f (40 * (9 * a + b) + k)) ∧ ∀ u, stR g pr (hasb qd) w a b F u → ∀ k, 0 ≤ k → k < 40 → u k ≤ f (40 * (9 * a + b) + k)) ∧ h' = hm h [(13, f)] [] [])) := by
  subst hF
  have hn := hW.1
  have hp3 := hpp 3 (by omega) (by omega)
  refine AMet.of (by decide) (Nat.le_of_ble_eq_true rfl) (fun G hM => ?_)
  have hG := hM.cx
  refine A_hm0 (G := G) (L := [(0, .ref 12), (1, .ref gn), (2, .ref r), (3, .ref 9), (4, vI a), (5, vI b)]) ?_
  refine A_iload hG 4 dX6_startRun_0 rfl ?_
  refine A_iload hG 5 dX6_startRun_2 rfl ?_
  refine C_Si (as := [vI a, vI b]) (st := []) hG dX6_startRun_4 ml_X6_35 mf_X6_run ms_X6_run (x_run (hm h [] [] []) (a := a) (b := b) (by omega) (by omega)) (by decide) (by decide) rfl rfl (Nat.le_of_ble_eq_true rfl) (fun z4 g4 ri_4 hp_4 => ?_)
  obtain ⟨ra_4, rb_4⟩ := ri_4
  obtain ⟨rfl, rfl⟩ := hp_4
  refine A_istore (L' := [(6, vI (40 * (9 * a + b))), (0, .ref 12), (1, .ref gn), (2, .ref r), (3, .ref 9), (4, vI a), (5, vI b)]) hG dX6_startRun_7 (by decide) rfl ?_
  refine A_aload_n hG 1 dX6_startRun_9 rfl rfl ?_
  refine A_iload hG 0 dX6_startRun_10 rfl ?_
  refine C_Vv (as := [vI (40 * (9 * a + b))]) (st := []) (k := 12) (c := 6) hG dX6_startRun_12 ml_X6_43 mf_X6_forbidAll mi_X6_forbidAll se_X6_forbidAll rfl (by decide) k12 (x_forbidAll (hm h [] [] []) (c := (40 * (9 * a + b))) (F := h.1 13) rfl (by omega)) (by decide) (by decide) rfl rfl (Nat.le_of_ble_eq_true rfl) (fun g12 hp_12 => ?_)
  have hq_12 : ∃ fx : Int → Int, ((∀ i, (i < (40 * (9 * a + b)) ∨ (40 * (9 * a + b)) + 40 ≤ i) → fx i = h.1 13 i) ∧ ∀ k, 0 ≤ k → k < 40 → fx ((40 * (9 * a + b)) + k) = 100) ∧ g12 = hm (hm h [] [] []) [(13, fx)] [] [] := hp_12
  clear hp_12
  obtain ⟨f12, ⟨hO12, hI12⟩, rfl⟩ := hq_12
  refine A_hm (la := [(13, f12)]) (lb := []) (lc := []) rfl rfl rfl ?_
  have hVf : ∀ i, 0 ≤ i → i < 3240 → 0 ≤ f12 i ∧ f12 i ≤ 100 := fun i i0 i1 => by
      by_cases e : i < 40 * (9 * a + b) ∨ 40 * (9 * a + b) + 40 ≤ i
      · rw [hO12 i e]; exact hV i i0 i1
      · have := hI12 (i - 40 * (9 * a + b)) (by omega) (by omega)
        rw [show 40 * (9 * a + b) + (i - 40 * (9 * a + b)) = i by omega] at this; omega
  refine A_iload hG 6 dX6_startRun_15 rfl ?_
  have x_2 : ∀ (f : Int → Int), (∀ i, (i < 40 * (9 * a + b) ∨ 40 * (9 * a + b) + 40 ≤ i) → f i = h.1 13 i) → (∀ i, 0 ≤ i → i < 3240 → 0 ≤ f i ∧ f i ≤ 100) → (b = a + 1 → lvs g pr (hasb qd a) (w a) (fun k => f (40 * (9 * a + b) + k))) → (∀ u : Int → Int, (∀ k, 0 ≤ k → k < 40 → u k ≤ 100) → (b = a + 1 → lvs g pr (hasb qd a) (w a) u) → ∀ k, 0 ≤ k → k < 40 → u k ≤ f (40 * (9 * a + b) + k)) → G 33 [(0, .ref 12), (1, .ref gn), (2, .ref r), (3, .ref 9), (4, vI a), (5, vI b), (6, vI (40 * (9 * a + b)))] [] (hm h [(13, f)] [] []) := by
    intro f hO hVf hLv hS
    refine A_aload_n hG 2 dX6_startRun_33 rfl rfl ?_
    have y_3 : ∀ (f : Int → Int), (∀ i, (i < 40 * (9 * a + b) ∨ 40 * (9 * a + b) + 40 ≤ i) → f i = h.1 13 i) → (∀ i, 0 ≤ i → i < 3240 → 0 ≤ f i ∧ f i ≤ 100) → (b = a + 1 → lvs g pr (hasb qd a) (w a) (fun k => f (40 * (9 * a + b) + k))) → (¬ hasb qd a → ∀ k, 0 ≤ k → k < 40 → f (40 * (9 * a + b) + k) ≤ h.1 13 (40 * (9 * (a + 1) + b) + k) + pr 3) → (∀ u : Int → Int, (∀ k, 0 ≤ k → k < 40 → u k ≤ 100) → (b = a + 1 → lvs g pr (hasb qd a) (w a) u) → (¬ hasb qd a → ∀ k, 0 ≤ k → k < 40 → u k ≤ h.1 13 (40 * (9 * (a + 1) + b) + k) + pr 3) → ∀ k, 0 ≤ k → k < 40 → u k ≤ f (40 * (9 * a + b) + k)) → G 63 [(0, .ref 12), (1, .ref gn), (2, .ref r), (3, .ref 9), (4, vI a), (5, vI b), (6, vI (40 * (9 * a + b)))] [] (hm h [(13, f)] [] []) := by
      intro f hO hVf hLv hQ hS
      refine A_aload_n hG 2 dX6_startRun_63 rfl rfl ?_
      refine M_getI (z := 2) (v := qd) hG dX6_startRun_64 fl_X6_69 (by decide) (obk_row hr) rfl rfl ((congrFun (show alk [(13, f)] r (h.1 r) = h.1 r from (by simp (disch := omega) only [alk, if_neg, if_pos, ite_true])) 2).trans (hqd)) (fun ⟨ra_64, rb_64⟩ => ?_)
      refine A_iload hG 5 dX6_startRun_67 rfl ?_
      refine A_iconst (n := 1) hG dX6_startRun_69 ?_
      refine A_isub hG dX6_startRun_70 ?_
      refine C_Si (as := [vI qd, vI (b - 1)]) (st := []) hG dX6_startRun_71 ml_X6_72 mf_X11_hasBit ms_X11_hasBit (x_hasBit (hm h [(13, f)] [] []) qd (b - 1)) (by decide) (by decide) rfl rfl (Nat.le_of_ble_eq_true rfl) (fun z71 g71 ri_71 hp_71 => ?_)
      obtain ⟨ra_71, rb_71⟩ := ri_71
      obtain ⟨hz71, rfl⟩ := hp_71
      refine A_if_ne hG 95 dX6_startRun_74 (by decide) (by constructor <;> omega) (fun c_74 => ?_) (fun c_74 => ?_)
      ·
        have hVr : ∀ i, 0 ≤ i → i < 3240 → 0 ≤ f i ∧ f i ≤ 100 := hVf
        exact Ret_v hM dX6_startRun_95 (⟨_, ⟨hO, hVr, ⟨fun k k0 k1 => (hVr _ (by omega) (by omega)).2, hLv, hQ, fun q => absurd (has_yes hz71 c_74) q⟩, fun u hu => hS u hu.1 hu.2.1 hu.2.2.1⟩, rfl⟩)
      ·
        refine A_aload_n hG 0 dX6_startRun_77 rfl rfl ?_
        refine A_iload hG 6 dX6_startRun_78 rfl ?_
        refine A_iload hG 4 dX6_startRun_80 rfl ?_
        refine A_iload hG 5 dX6_startRun_82 rfl ?_
        refine A_iconst (n := 1) hG dX6_startRun_84 ?_
        refine A_isub hG dX6_startRun_85 ?_
        refine C_Si (as := [vI a, vI (b - 1)]) (st := [vI (40 * (9 * a + b)), .ref 12]) hG dX6_startRun_86 ml_X6_35 mf_X6_run ms_X6_run (x_run (hm h [(13, f)] [] []) (a := a) (b := b - 1) (by omega) (by omega)) (by decide) (by decide) rfl rfl (Nat.le_of_ble_eq_true rfl) (fun z86 g86 ri_86 hp_86 => ?_)
        obtain ⟨ra_86, rb_86⟩ := ri_86
        obtain ⟨rfl, rfl⟩ := hp_86
        refine A_aload_n hG 3 dX6_startRun_89 rfl rfl ?_
        refine A_iconst (n := 3) hG dX6_startRun_90 ?_
        refine M_iald (v := pr 3) hG dX6_startRun_91 k9 n9 (by omega) (hpr 3 (by omega) (by omega)) (fun ⟨ra_91, rb_91⟩ => ?_)
        refine C_Vv (as := [vI (40 * (9 * a + b)), vI (40 * (9 * a + (b - 1))), vI (pr 3)]) (st := []) (k := 12) (c := 6) hG dX6_startRun_92 ml_X6_76 mf_X6_lowerAll mi_X6_lowerAll se_X6_lowerAll rfl (by decide) k12 (x_lowerAll (hm h [(13, f)] [] []) (c := (40 * (9 * a + b))) (s := (40 * (9 * a + (b - 1)))) (a := (pr 3)) (F := f) rfl (by omega) (by omega) (by omega) (by omega) hVf) (by decide) (by decide) rfl rfl (Nat.le_of_ble_eq_true rfl) (fun g92 hp_92 => ?_)
        have hq_92 : ∃ fx : Int → Int, (lowd (40 * (9 * a + b)) f fx ∧ (∀ k, 0 ≤ k → k < 40 → fx ((40 * (9 * a + b)) + k) ≤ f ((40 * (9 * a + (b - 1))) + k) + (pr 3)) ∧ ∀ k x, 0 ≤ k → k < 40 → x ≤ f ((40 * (9 * a + b)) + k) → x ≤ f ((40 * (9 * a + (b - 1))) + k) + (pr 3) → x ≤ fx ((40 * (9 * a + b)) + k)) ∧ g92 = hm (hm h [(13, f)] [] []) [(13, fx)] [] [] := hp_92
        clear hp_92
        obtain ⟨f92, ⟨hL92, hI92, hB92⟩, rfl⟩ := hq_92
        refine A_hm (la := [(13, f92)]) (lb := []) (lc := []) rfl rfl rfl ?_
        have hVr : ∀ i, 0 ≤ i → i < 3240 → 0 ≤ f92 i ∧ f92 i ≤ 100 := fun i i0 i1 => ⟨hL92.2.2 i i0 i1, Int.le_trans (hL92.1 i) (hVf i i0 i1).2⟩
        exact Ret_v hM dX6_startRun_95 (⟨_, ⟨(fun i hi => (hL92.2.1 i hi).trans (hO i hi)), hVr, ⟨fun k k0 k1 => (hVr _ (by omega) (by omega)).2, (fun e => lvs_mono (fun k _ _ => hL92.1 _) (hLv e) hOk), fun q k k0 k1 => Int.le_trans (hL92.1 _) (hQ q k k0 k1), fun _ k k0 k1 => by show f92 _ ≤ _; rw [← hO (40 * (9 * a + (b - 1)) + k) (by omega)]; exact hI92 k k0 k1⟩, fun u hu k k0 k1 => hB92 k (u k) k0 k1 (hS u hu.1 hu.2.1 hu.2.2.1 k k0 k1) (by rw [hO (40 * (9 * a + (b - 1)) + k) (by omega)]; exact hu.2.2.2 (has_no hz71 c_74) k k0 k1)⟩, rfl⟩)
    refine M_getI (z := 2) (v := qd) hG dX6_startRun_34 fl_X6_69 (by decide) (obk_row hr) rfl rfl ((congrFun (show alk [(13, f)] r (h.1 r) = h.1 r from (by simp (disch := omega) only [alk, if_neg, if_pos, ite_true])) 2).trans (hqd)) (fun ⟨ra_34, rb_34⟩ => ?_)
    refine A_iload hG 4 dX6_startRun_37 rfl ?_
    refine C_Si (as := [vI qd, vI a]) (st := []) hG dX6_startRun_39 ml_X6_72 mf_X11_hasBit ms_X11_hasBit (x_hasBit (hm h [(13, f)] [] []) qd a) (by decide) (by decide) rfl rfl (Nat.le_of_ble_eq_true rfl) (fun z39 g39 ri_39 hp_39 => ?_)
    obtain ⟨ra_39, rb_39⟩ := ri_39
    obtain ⟨hz39, rfl⟩ := hp_39
    refine A_if_ne hG 63 dX6_startRun_42 (by decide) (by constructor <;> omega) (fun c_42 => ?_) (fun c_42 => ?_)
    ·
      refine A_sub hG [0, 1, 2, 3, 4, 5, 6] rfl ?_
      exact y_3 f hO hVf hLv (fun q => absurd (has_yes hz39 c_42) q) (fun u h1 h2 _ => hS u h1 h2)
    ·
      refine A_aload_n hG 0 dX6_startRun_45 rfl rfl ?_
      refine A_iload hG 6 dX6_startRun_46 rfl ?_
      refine A_iload hG 4 dX6_startRun_48 rfl ?_
      refine A_iconst (n := 1) hG dX6_startRun_50 ?_
      refine A_iadd hG dX6_startRun_51 ?_
      refine A_iload hG 5 dX6_startRun_52 rfl ?_
      refine C_Si (as := [vI (a + 1), vI b]) (st := [vI (40 * (9 * a + b)), .ref 12]) hG dX6_startRun_54 ml_X6_35 mf_X6_run ms_X6_run (x_run (hm h [(13, f)] [] []) (a := a + 1) (b := b) (by omega) (by omega)) (by decide) (by decide) rfl rfl (Nat.le_of_ble_eq_true rfl) (fun z54 g54 ri_54 hp_54 => ?_)
      obtain ⟨ra_54, rb_54⟩ := ri_54
      obtain ⟨rfl, rfl⟩ := hp_54
      refine A_aload_n hG 3 dX6_startRun_57 rfl rfl ?_
      refine A_iconst (n := 3) hG dX6_startRun_58 ?_
      refine M_iald (v := pr 3) hG dX6_startRun_59 k9 n9 (by omega) (hpr 3 (by omega) (by omega)) (fun ⟨ra_59, rb_59⟩ => ?_)
      refine C_Vv (as := [vI (40 * (9 * a + b)), vI (40 * (9 * (a + 1) + b)), vI (pr 3)]) (st := []) (k := 12) (c := 6) hG dX6_startRun_60 ml_X6_76 mf_X6_lowerAll mi_X6_lowerAll se_X6_lowerAll rfl (by decide) k12 (x_lowerAll (hm h [(13, f)] [] []) (c := (40 * (9 * a + b))) (s := (40 * (9 * (a + 1) + b))) (a := (pr 3)) (F := f) rfl (by omega) (by omega) (by omega) (by omega) hVf) (by decide) (by decide) rfl rfl (Nat.le_of_ble_eq_true rfl) (fun g60 hp_60 => ?_)
      have hq_60 : ∃ fx : Int → Int, (lowd (40 * (9 * a + b)) f fx ∧ (∀ k, 0 ≤ k → k < 40 → fx ((40 * (9 * a + b)) + k) ≤ f ((40 * (9 * (a + 1) + b)) + k) + (pr 3)) ∧ ∀ k x, 0 ≤ k → k < 40 → x ≤ f ((40 * (9 * a + b)) + k) → x ≤ f ((40 * (9 * (a + 1) + b)) + k) + (pr 3) → x ≤ fx ((40 * (9 * a + b)) + k)) ∧ g60 = hm (hm h [(13, f)] [] []) [(13, fx)] [] [] := hp_60
      clear hp_60
      obtain ⟨f60, ⟨hL60, hI60, hB60⟩, rfl⟩ := hq_60
      refine A_hm (la := [(13, f60)]) (lb := []) (lc := []) rfl rfl rfl ?_
      refine A_sub hG [0, 1, 2, 3, 4, 5, 6] rfl ?_
      exact y_3 f60 (fun i hi => (hL60.2.1 i hi).trans (hO i hi)) (fun i i0 i1 => ⟨hL60.2.2 i i0 i1, Int.le_trans (hL60.1 i) (hVf i i0 i1).2⟩) (fun e => lvs_mono (fun k _ _ => hL60.1 _) (hLv e) hOk) (fun _ k k0 k1 => by rw [← hO (40 * (9 * (a + 1) + b) + k) (by omega)]; exact hI60 k k0 k1) (fun u h1 h2 h3 k k0 k1 => hB60 k (u k) k0 k1 (hS u h1 h2 k k0 k1) (by rw [hO (40 * (9 * (a + 1) + b) + k) (by omega)]; exact h3 (has_no hz39 c_42) k k0 k1))
  refine A_iload hG 5 dX6_startRun_17 rfl ?_
  refine A_iconst (n := 1) hG dX6_startRun_19 ?_
  refine A_iadd hG dX6_startRun_20 ?_
  refine A_icmp_ne hG 33 dX6_startRun_21 (by decide) (by constructor <;> omega) (by constructor <;> omega) (fun c_21 => ?_) (fun c_21 => ?_)
  ·
    refine A_sub hG [1, 2, 3, 4, 5, 6, 0] rfl ?_
    exact x_2 f12 hO12 hVf (fun e => by omega) (fun u h1 _ k k0 k1 => by rw [hI12 k k0 k1]; exact h1 k k0 k1)
  ·
    have hb1 : b = a + 1 := by omega
    have h100 : ∀ k, 0 ≤ k → k < 40 → f12 (40 * (9 * a + (a + 1)) + k) = 100 := fun k k0 k1 => by rw [← hb1]; exact hI12 k k0 k1
    refine A_aload_n hG 1 dX6_startRun_24 rfl rfl ?_
    refine A_aload_n hG 2 dX6_startRun_25 rfl rfl ?_
    refine A_aload_n hG 3 dX6_startRun_26 rfl rfl ?_
    refine A_aload_n hG 4 dX6_startRun_27 rfl rfl ?_
    refine A_iload hG 5 dX6_startRun_28 rfl ?_
    refine C_Vv (as := [.ref gn, .ref r, .ref 9, vI a]) (st := []) (k := 12) (c := 6) hG dX6_startRun_30 ml_X6_65 mf_X6_putChanged mi_X6_putChanged se_X6_putChanged rfl (by decide) k12 (x_putChanged (hm h [(13, f12)] [] []) hg (g := g) ((gX_li hg rfl).trans hgx) hr hOk (n := n) (qd := qd) (w := w) (rowX_eq (by simp (disch := omega) only [hm, alk, if_neg, if_pos, ite_true]) (by simp (disch := omega) only [hm, alk, if_neg, if_pos, ite_true]) hwr) ((congrFun (by simp (disch := omega) only [hm, alk, if_neg, if_pos, ite_true]) 2).trans hqd) hW (pr := pr) hpr hpp (p := a) (F := f12) rfl (by omega) hVf h100) (by decide) (by decide) rfl rfl (Nat.le_of_ble_eq_true rfl) (fun g30 hp_30 => ?_)
    have hq_30 : ∃ fx : Int → Int, ((∀ i, (i < (40 * (9 * a + (a + 1))) ∨ (40 * (9 * a + (a + 1))) + 40 ≤ i) → fx i = f12 i) ∧ (∀ i, 0 ≤ i → i < 3240 → 0 ≤ fx i ∧ fx i ≤ 100) ∧ lvs g pr (hasb qd a) (w a) (fun k => fx ((40 * (9 * a + (a + 1))) + k)) ∧ ∀ u : Int → Int, (∀ k, 0 ≤ k → k < 40 → u k ≤ 100) → lvs g pr (hasb qd a) (w a) u → ∀ k, 0 ≤ k → k < 40 → u k ≤ fx ((40 * (9 * a + (a + 1))) + k)) ∧ g30 = hm (hm h [(13, f12)] [] []) [(13, fx)] [] [] := hp_30
    clear hp_30
    obtain ⟨f30, ⟨hO30, hV30, hA30, hB30⟩, rfl⟩ := hq_30
    refine A_hm (la := [(13, f30)]) (lb := []) (lc := []) rfl rfl rfl ?_
    refine A_sub hG [1, 2, 3, 4, 5, 6, 0] rfl ?_
    exact x_2 f30 (fun i hi => (hO30 i (by omega)).trans (hO12 i hi)) hV30 (fun _ => by rw [hb1]; exact hA30) (fun u h1 h2 k k0 k1 => by rw [hb1]; exact hB30 u h1 (h2 hb1) k k0 k1)

end
