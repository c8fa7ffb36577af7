/-! the class: the least sum (printed by gen) -/
section
section
variable {g : Gm} {pr : Int → Int} {qs : Int → Prop} {w : Int → Int}
/-- the cells that are done: the shorter ones, and those of this length ahead of fr -/
def lsI (g : Gm) (pr : Int → Int) (qs : Int → Prop) (w : Int → Int) (N : Int) (f : Int → Int) (len fr : Int) : Prop := ∀ a b, 0 ≤ a → a ≤ b → b ≤ N → (b - a < len ∨ (b - a = len ∧ a < fr)) → cell g pr qs w 100 (tX f) a b ∧ ∀ U, clsd g pr qs w N 100 U → ∀ k, 0 ≤ k → k < 40 → U a b k ≤ tX f a b k
theorem ls_next {N len fr : Int} {f0 f3 : Int → Int} (hOk : okG g) (hfr : 0 ≤ fr) (hl : 1 ≤ len) (hN : N ≤ 8) (hb : fr + len ≤ N) (hI : lsI g pr qs w N f0 len fr)
    (h : (∀ i, (i < 40 * (9 * fr + (fr + len)) ∨ 40 * (9 * fr + (fr + len)) + 40 ≤ i) → f3 i = f0 i) ∧ cell g pr qs w 100 (tX f3) fr (fr + len) ∧ ∀ U, clsd g pr qs w N 100 U → (∀ x y k, fr ≤ x → x ≤ y → y ≤ fr + len → ¬ (x = fr ∧ y = fr + len) → 0 ≤ k → k < 40 → U x y k ≤ tX f0 x y k) → ∀ k, 0 ≤ k → k < 40 → U fr (fr + len) k ≤ tX f3 fr (fr + len) k) : lsI g pr qs w N f3 len (fr + 1) := by
  intro a b a0 ab bN hd
  by_cases e : a = fr ∧ b = fr + len
  · obtain ⟨rfl, rfl⟩ := e
    exact ⟨h.2.1, fun U hU => h.2.2 U hU (fun x y k x0 xy y1 hne k0 k1 => (hI x y (by omega) xy (by omega) (by omega)).2 U hU k k0 k1)⟩
  · have hd2 : b - a < len ∨ (b - a = len ∧ a < fr) := by omega
    obtain ⟨c1, c2⟩ := hI a b a0 ab bN hd2
    have eq : ∀ x y k, a ≤ x → x ≤ y → y ≤ b → 0 ≤ k → k < 40 → tX f3 x y k = tX f0 x y k := fun x y k x0 xy y1 k0 k1 => h.1 _ (by omega)
    exact ⟨cell_congr hOk eq ab c1, fun U hU k k0 k1 => by rw [eq a b k (by omega) ab (by omega) k0 k1]; exact c2 U hU k k0 k1⟩
theorem ls_row {N len fr : Int} {f : Int → Int} (hI : lsI g pr qs w N f len fr) (h : N < fr + len) : lsI g pr qs w N f (len + 1) 0 := fun a b a0 ab bN hd => hI a b a0 ab bN (by omega)
theorem ls_0 {N : Int} {f e : Int → Int} (hOk : okG g) (hN : 0 ≤ N) (hD : ∀ a k, 0 ≤ a → a ≤ N → 0 ≤ k → k < 40 → f (40 * (9 * a + a) + k) = e k)
    (h1 : ∀ k, 0 ≤ k → k < 40 → 0 ≤ e k ∧ e k ≤ 100) (h2 : ∀ v, 0 ≤ v → v < g 10 0 → e (4 * g 0 v + g 1 v) ≤ pr 4) (h3 : clo (ofQ g) e) (h4 : ∀ U : Int → Int, (∀ k, 0 ≤ k → k < 40 → U k ≤ 100) → (∀ v, 0 ≤ v → v < g 10 0 → U (4 * g 0 v + g 1 v) ≤ pr 4) → clo (ofQ g) U → le40 U e) : lsI g pr qs w N f 1 0 := by
  intro a b a0 ab bN hd
  have e1 : b = a := by omega
  subst e1
  have eq : ∀ k, 0 ≤ k → k < 40 → tX f b b k = e k := fun k k0 k1 => hD b k a0 bN k0 k1
  refine ⟨⟨fun k k0 k1 => by rw [eq k k0 k1]; exact (h1 k k0 k1).2, fun _ v v0 v1 => ?_, fun q => by omega, fun q => by omega, fun m m0 m1 r r0 r1 y z y0 y1 z0 z1 hv => ?_⟩, fun U hU => ?_⟩
  · have o := hOk.2.2.1 v v0 v1
    rw [eq _ (by omega) (by omega)]; exact h2 v v0 v1
  · have e2 : m = b := by omega
    subst e2
    have hvl : vld g r y z := ⟨⟨r0, r1⟩, ⟨y0, y1⟩, ⟨z0, z1⟩, hv⟩
    have ht := tgt_rng hOk hvl
    show tX f m m (tgt g r y z) ≤ _
    rw [eq _ ht.1.1 ht.1.2, eq _ ht.2.1.1 ht.2.1.2, eq _ ht.2.2.1 ht.2.2.2]
    exact h3 _ _ ht.1.1 ht.1.2 ⟨r, y, z, hvl, rfl, rfl⟩
  · obtain ⟨c1, c2, c3, c4, c5⟩ := hU b b a0 (by omega) bN
    intro k k0 k1
    rw [eq k k0 k1]
    refine h4 (fun k => U b b k) c1 (fun v v0 v1 => c2 rfl v v0 v1) ?_ k k0 k1
    rintro t x t0 t1 ⟨r, y, z, hv, rfl, rfl⟩
    exact c5 b (by omega) (by omega) r hv.1.1 hv.1.2 y z hv.2.1.1 hv.2.1.2 hv.2.2.1.1 hv.2.2.1.2 hv.2.2.2
theorem ls_end {N len : Int} {f : Int → Int} (hI : lsI g pr qs w N f len 0) (h : N < len) : best g pr qs w N 100 (tX f) :=
  ⟨fun a b a0 ab bN => (hI a b a0 ab bN (by omega)).1, fun U hU a b k a0 ab bN k0 k1 => (hI a b a0 ab bN (by omega)).2 U hU k k0 k1⟩
end
set_option maxHeartbeats 2000000 in
set_option maxRecDepth 20000 in
theorem x_leastSum (h : AH) {gn : Nat} (hg : gn = 20 ∨ gn = 40) {g : Gm} (hgx : gX h gn = g) {r : Nat} (hr : 100 ≤ r ∧ r < 212) (hOk : okG g) {n qd : Int} {w : Int → Int} (hwr : rowX h r n w) (hqd : h.1 r 2 = qd) (hW : okW g w n) {pr : Int → Int} (hpr : ∀ c, 0 ≤ c → c < 5 → h.1 9 c = pr c) (hpp : ∀ c, 0 ≤ c → c < 5 → 0 ≤ pr c ∧ pr c ≤ 99) {F : Int → Int} (hF : h.1 13 = F) (hV : ∀ i, 0 ≤ i → i < 3240 → 0 ≤ F i ∧ F i ≤ 100) : AMet yX6_leastSum cX6_leastSum 7 (some .int) 5 128 [.ref 12, .ref gn, .ref r, .ref 9] h (Qi (fun z h' => ∃ f : Int → Int, ((∀ i, 0 ≤ i → i < 3240 → 0 ≤ f i ∧ f i ≤ 100) ∧ best g pr (hasb qd) w n 100 (tX f) ∧ (∃ q, 0 ≤ q ∧ q < 4 ∧ z = tX f 0 n q) ∧ ∀ q, 0 ≤ q → q < 4 → z ≤ tX f 0 n q) ∧ h' = hm h [(13, f)] [] [])) := by
  subst hF
  have hn := hW.1
  have hp4 := hpp 4 (by omega) (by omega)
  refine AMet.of (by decide) (Nat.le_of_ble_eq_true rfl) (fun G hM => ?_)
  have hG := hM.cx
  refine A_hm0 (G := G) (L := [(0, .ref 12), (1, .ref gn), (2, .ref r), (3, .ref 9)]) ?_
  refine A_aload_n hG 2 dX6_leastSum_0 rfl rfl ?_
  refine M_getI (z := 1) (v := n) hG dX6_leastSum_1 fl_X6_15 (by decide) (obk_row hr) rfl rfl hwr.1 (fun ⟨ra_1, rb_1⟩ => ?_)
  refine A_istore (L' := [(4, vI n), (0, .ref 12), (1, .ref gn), (2, .ref r), (3, .ref 9)]) hG dX6_leastSum_4 (by decide) rfl ?_
  refine A_aload_n hG 1 dX6_leastSum_6 rfl rfl ?_
  refine A_aload_n hG 2 dX6_leastSum_7 rfl rfl ?_
  refine A_aload_n hG 4 dX6_leastSum_8 rfl rfl ?_
  refine A_iconst (n := 4) hG dX6_leastSum_9 ?_
  refine M_iald (v := pr 4) hG dX6_leastSum_10 k9 n9 (by omega) (hpr 4 (by omega) (by omega)) (fun ⟨ra_10, rb_10⟩ => ?_)
  refine A_iload hG 0 dX6_leastSum_11 rfl ?_
  refine C_Vv (as := [.ref gn, vI (pr 4), vI n]) (st := []) (k := 12) (c := 6) hG dX6_leastSum_13 ml_X6_21 mf_X6_fillEmptyRuns mi_X6_fillEmptyRuns se_X6_fillEmptyRuns rfl (by decide) k12 (x_fillEmptyRuns (hm h [] [] []) hg (g := g) hgx hOk (ip := (pr 4)) (n := n) (F := h.1 13) rfl (by omega) (by omega) hV) (by decide) (by decide) rfl rfl (Nat.le_of_ble_eq_true rfl) (fun g13 hp_13 => ?_)
  have hq_13 : ∃ ex fx : Int → Int, ((∀ i, 0 ≤ i → i < 3240 → 0 ≤ fx i ∧ fx i ≤ 100) ∧ (∀ a k, 0 ≤ a → a ≤ n → 0 ≤ k → k < 40 → fx (40 * (9 * a + a) + k) = ex k) ∧ (∀ k, 0 ≤ k → k < 40 → 0 ≤ ex k ∧ ex k ≤ 100) ∧ (∀ v, 0 ≤ v → v < g 10 0 → ex (4 * g 0 v + g 1 v) ≤ (pr 4)) ∧ clo (ofQ g) ex ∧ ∀ U : Int → Int, (∀ k, 0 ≤ k → k < 40 → U k ≤ 100) → (∀ v, 0 ≤ v → v < g 10 0 → U (4 * g 0 v + g 1 v) ≤ (pr 4)) → clo (ofQ g) U → le40 U ex) ∧ g13 = hm (hm h [] [] []) [(13, fx)] [] [] := hp_13
  clear hp_13
  obtain ⟨e13, f13, ⟨hV13, hD13, hE13⟩, rfl⟩ := hq_13
  refine A_hm (la := [(13, f13)]) (lb := []) (lc := []) rfl rfl rfl ?_
  refine A_iconst (n := 1) hG dX6_leastSum_16 ?_
  refine A_istore (L' := [(5, vI 1), (4, vI n), (0, .ref 12), (1, .ref gn), (2, .ref r), (3, .ref 9)]) hG dX6_leastSum_17 (by decide) rfl ?_
  have o_1 : ∀ fu : Nat, ∀ (len : Int) (f : Int → Int), (1 ≤ len ∧ len ≤ n + 1) → (∀ i, 0 ≤ i → i < 3240 → 0 ≤ f i ∧ f i ≤ 100) → (lsI g pr (hasb qd) w n f len 0) → ((10 - len).toNat) < fu → G 19 [(0, .ref 12), (1, .ref gn), (2, .ref r), (3, .ref 9), (4, vI n), (5, vI len)] [] (hm h [(13, f)] [] []) := by
    intro fu
    induction fu with
    | zero => intro len f hln hVf hI hfu; exact absurd hfu (Nat.not_lt_zero _)
    | succ fu ih_o =>
      intro len f hln hVf hI hfu
      refine A_iload hG 5 dX6_leastSum_19 rfl ?_
      refine A_iload hG 4 dX6_leastSum_21 rfl ?_
      refine A_icmp_gt hG 89 dX6_leastSum_23 (by decide) (by constructor <;> omega) (by constructor <;> omega) (fun c_23 => ?_) (fun c_23 => ?_)
      ·
        refine A_aload_n hG 0 dX6_leastSum_89 rfl rfl ?_
        refine A_iconst (n := 0) hG dX6_leastSum_90 ?_
        refine A_iload hG 4 dX6_leastSum_91 rfl ?_
        refine C_Si (as := [vI 0, vI n]) (st := [.ref 12]) hG dX6_leastSum_93 ml_X6_35 mf_X6_run ms_X6_run (x_run (hm h [(13, f)] [] []) (a := 0) (b := n) (by omega) (by omega)) (by decide) (by decide) rfl rfl (Nat.le_of_ble_eq_true rfl) (fun z93 g93 ri_93 hp_93 => ?_)
        obtain ⟨ra_93, rb_93⟩ := ri_93
        obtain ⟨rfl, rfl⟩ := hp_93
        refine C_Vi (as := [vI (40 * (9 * 0 + n))]) (st := []) (k := 12) (c := 6) hG dX6_leastSum_96 ml_X6_39 mf_X6_cheapestAt mi_X6_cheapestAt se_X6_cheapestAt rfl (by decide) k12 (x_cheapestAt (hm h [(13, f)] [] []) (p := (40 * (9 * 0 + n))) (F := f) rfl (by omega)) (by decide) (by decide) rfl rfl (Nat.le_of_ble_eq_true rfl) (fun z96 g96 ri_96 hp_96 => ?_)
        obtain ⟨ra_96, rb_96⟩ := ri_96
        have hq_96 : ((∃ q, 0 ≤ q ∧ q < 4 ∧ z96 = f ((40 * (9 * 0 + n)) + q)) ∧ ∀ q, 0 ≤ q → q < 4 → z96 ≤ f ((40 * (9 * 0 + n)) + q)) ∧ g96 = hm h [(13, f)] [] [] := hp_96
        clear hp_96
        obtain ⟨⟨hm96, hz96⟩, rfl⟩ := hq_96
        exact Ret_i hM dX6_leastSum_99 (by constructor <;> omega) (⟨f, ⟨hVf, ls_end hI (by omega), hm96, hz96⟩, rfl⟩)
      ·
        refine A_iconst (n := 0) hG dX6_leastSum_26 ?_
        refine A_istore (L' := [(6, vI 0), (0, .ref 12), (1, .ref gn), (2, .ref r), (3, .ref 9), (4, vI n), (5, vI len)]) hG dX6_leastSum_27 (by decide) rfl ?_
        have i_4 : ∀ fu : Nat, ∀ (fr : Int) (f : Int → Int), (0 ≤ fr ∧ fr ≤ n + 1 - len) → (∀ i, 0 ≤ i → i < 3240 → 0 ≤ f i ∧ f i ≤ 100) → (lsI g pr (hasb qd) w n f len fr) → ((10 - fr).toNat) < fu → G 29 [(0, .ref 12), (1, .ref gn), (2, .ref r), (3, .ref 9), (4, vI n), (5, vI len), (6, vI fr)] [] (hm h [(13, f)] [] []) := by
          intro fu
          induction fu with
          | zero => intro fr f hfr hVf hI hfu; exact absurd hfu (Nat.not_lt_zero _)
          | succ fu ih_i =>
            intro fr f hfr hVf hI hfu
            refine A_iload hG 6 dX6_leastSum_29 rfl ?_
            refine A_iload hG 5 dX6_leastSum_31 rfl ?_
            refine A_iadd hG dX6_leastSum_33 ?_
            refine A_iload hG 4 dX6_leastSum_34 rfl ?_
            refine A_icmp_gt hG 83 dX6_leastSum_36 (by decide) (by constructor <;> omega) (by constructor <;> omega) (fun c_36 => ?_) (fun c_36 => ?_)
            ·
              refine A_iinc (L' := [(5, vI (len + 1)), (0, .ref 12), (1, .ref gn), (2, .ref r), (3, .ref 9), (4, vI n), (6, vI fr)]) hG 5 dX6_leastSum_83 rfl (by decide) rfl ?_
              refine A_goto hG 19 dX6_leastSum_86 (by decide) ?_
              refine A_sub hG [1, 2, 3, 4, 5, 0] rfl ?_
              exact ih_o (len + 1) f (by omega) hVf (ls_row hI (by omega)) (by omega)
            ·
              refine A_aload_n hG 0 dX6_leastSum_39 rfl rfl ?_
              refine A_aload_n hG 1 dX6_leastSum_40 rfl rfl ?_
              refine A_aload_n hG 2 dX6_leastSum_41 rfl rfl ?_
              refine A_aload_n hG 3 dX6_leastSum_42 rfl rfl ?_
              refine A_iload hG 6 dX6_leastSum_43 rfl ?_
              refine A_iload hG 6 dX6_leastSum_45 rfl ?_
              refine A_iload hG 5 dX6_leastSum_47 rfl ?_
              refine A_iadd hG dX6_leastSum_49 ?_
              refine C_Vv (as := [.ref gn, .ref r, .ref 9, vI fr, vI (fr + len)]) (st := []) (k := 12) (c := 6) hG dX6_leastSum_50 ml_X6_25 mf_X6_startRun mi_X6_startRun se_X6_startRun rfl (by decide) k12 (x_startRun (hm h [(13, f)] [] []) hg (g := g) ((gX_li hg rfl).trans hgx) hr hOk (n := n) (qd := qd) (w := w) (rowX_eq (by simp (disch := omega) only [hm, alk, if_neg, if_pos, ite_true]) (by simp (disch := omega) only [hm, alk, if_neg, if_pos, ite_true]) hwr) ((congrFun (by simp (disch := omega) only [hm, alk, if_neg, if_pos, ite_true]) 2).trans hqd) hW (pr := pr) hpr hpp (a := fr) (b := (fr + len)) (F := f) rfl (by omega) hVf) (by decide) (by decide) rfl rfl (Nat.le_of_ble_eq_true rfl) (fun g50 hp_50 => ?_)
              have hq_50 : ∃ fx : Int → Int, ((∀ i, (i < (40 * (9 * fr + (fr + len))) ∨ (40 * (9 * fr + (fr + len))) + 40 ≤ i) → fx i = f i) ∧ (∀ i, 0 ≤ i → i < 3240 → 0 ≤ fx i ∧ fx i ≤ 100) ∧ stR g pr (hasb qd) w fr (fr + len) f (fun k => fx ((40 * (9 * fr + (fr + len))) + k)) ∧ ∀ u, stR g pr (hasb qd) w fr (fr + len) f u → ∀ k, 0 ≤ k → k < 40 → u k ≤ fx ((40 * (9 * fr + (fr + len))) + k)) ∧ g50 = hm (hm h [(13, f)] [] []) [(13, fx)] [] [] := hp_50
              clear hp_50
              obtain ⟨f50, ⟨hO50, hV50, hA50, hB50⟩, rfl⟩ := hq_50
              refine A_hm (la := [(13, f50)]) (lb := []) (lc := []) rfl rfl rfl ?_
              refine A_aload_n hG 0 dX6_leastSum_53 rfl rfl ?_
              refine A_aload_n hG 1 dX6_leastSum_54 rfl rfl ?_
              refine A_iload hG 6 dX6_leastSum_55 rfl ?_
              refine A_iload hG 6 dX6_leastSum_57 rfl ?_
              refine A_iload hG 5 dX6_leastSum_59 rfl ?_
              refine A_iadd hG dX6_leastSum_61 ?_
              refine C_Vv (as := [.ref gn, vI fr, vI (fr + len)]) (st := []) (k := 12) (c := 6) hG dX6_leastSum_62 ml_X6_29 mf_X6_joinInside mi_X6_joinInside se_X6_joinInside rfl (by decide) k12 (x_joinInside (hm h [(13, f50)] [] []) hg (g := g) ((gX_li hg rfl).trans hgx) hOk (a := fr) (b := (fr + len)) (F := f50) rfl (by omega) hV50) (by decide) (by decide) rfl rfl (Nat.le_of_ble_eq_true rfl) (fun g62 hp_62 => ?_)
              have hq_62 : ∃ fx : Int → Int, (lowd (40 * (9 * fr + (fr + len))) f50 fx ∧ (∀ m, fr < m → m < (fr + len) → jO g (40 * (9 * fr + m)) (40 * (9 * m + (fr + len))) (40 * (9 * fr + (fr + len))) f50 fx) ∧ ∀ LB : Int → Int, (∀ i, LB i ≤ f50 i) → (∀ m, fr < m → m < (fr + len) → jL g (40 * (9 * fr + m)) (40 * (9 * m + (fr + len))) (40 * (9 * fr + (fr + len))) LB) → ∀ i, LB i ≤ fx i) ∧ g62 = hm (hm h [(13, f50)] [] []) [(13, fx)] [] [] := hp_62
              clear hp_62
              obtain ⟨f62, ⟨hL62, hO62, hS62⟩, rfl⟩ := hq_62
              refine A_hm (la := [(13, f62)]) (lb := []) (lc := []) rfl rfl rfl ?_
              have hV62 : ∀ i, 0 ≤ i → i < 3240 → 0 ≤ f62 i ∧ f62 i ≤ 100 := fun i i0 i1 => ⟨hL62.2.2 i i0 i1, Int.le_trans (hL62.1 i) (hV50 i i0 i1).2⟩
              refine A_aload_n hG 0 dX6_leastSum_65 rfl rfl ?_
              refine A_aload_n hG 1 dX6_leastSum_66 rfl rfl ?_
              refine A_iload hG 6 dX6_leastSum_67 rfl ?_
              refine A_iload hG 6 dX6_leastSum_69 rfl ?_
              refine A_iload hG 5 dX6_leastSum_71 rfl ?_
              refine A_iadd hG dX6_leastSum_73 ?_
              refine C_Vv (as := [.ref gn, vI fr, vI (fr + len)]) (st := []) (k := 12) (c := 6) hG dX6_leastSum_74 ml_X6_32 mf_X6_joinWithPutIn mi_X6_joinWithPutIn se_X6_joinWithPutIn rfl (by decide) k12 (x_joinWithPutIn (hm h [(13, f62)] [] []) hg (g := g) ((gX_li hg rfl).trans hgx) hOk (a := fr) (b := (fr + len)) (F := f62) rfl (by omega) hV62) (by decide) (by decide) rfl rfl (Nat.le_of_ble_eq_true rfl) (fun g74 hp_74 => ?_)
              have hq_74 : ∃ fx : Int → Int, (lowd (40 * (9 * fr + (fr + len))) f62 fx ∧ clo (ofL g (fun s => f62 (40 * (9 * fr + fr) + s)) (fun s => f62 (40 * (9 * (fr + len) + (fr + len)) + s))) (fun s => fx ((40 * (9 * fr + (fr + len))) + s)) ∧ ∀ U, le40 U (fun s => f62 ((40 * (9 * fr + (fr + len))) + s)) → clo (ofL g (fun s => f62 (40 * (9 * fr + fr) + s)) (fun s => f62 (40 * (9 * (fr + len) + (fr + len)) + s))) U → le40 U (fun s => fx ((40 * (9 * fr + (fr + len))) + s))) ∧ g74 = hm (hm h [(13, f62)] [] []) [(13, fx)] [] [] := hp_74
              clear hp_74
              obtain ⟨f74, ⟨hL74, hC74, hS74⟩, rfl⟩ := hq_74
              refine A_hm (la := [(13, f74)]) (lb := []) (lc := []) rfl rfl rfl ?_
              refine A_iinc (L' := [(6, vI (fr + 1)), (0, .ref 12), (1, .ref gn), (2, .ref r), (3, .ref 9), (4, vI n), (5, vI len)]) hG 6 dX6_leastSum_77 rfl (by decide) rfl ?_
              refine A_goto hG 29 dX6_leastSum_80 (by decide) ?_
              refine A_sub hG [1, 2, 3, 4, 5, 6, 0] rfl ?_
              exact ih_i (fr + 1) f74 (by omega) (fun i i0 i1 => ⟨hL74.2.2 i i0 i1, Int.le_trans (hL74.1 i) (hV62 i i0 i1).2⟩) (ls_next hOk (by omega) (by omega) (by omega) (by omega) hI (ls_step hOk (by omega) (by omega) hO50 hA50 hB50 hL62 hO62 hS62 hL74 hC74 hS74)) (by omega)
        refine A_sub hG [1, 2, 3, 4, 5, 6, 0] rfl ?_
        exact i_4 _ 0 f (by omega) hVf hI (Nat.lt_succ_self _)
  refine A_sub hG [2, 3, 4, 5, 1, 0] rfl ?_
  exact o_1 _ 1 f13 (by omega) hV13 (ls_0 hOk (by omega) hD13 hE13.1 hE13.2.1 hE13.2.2.1 hE13.2.2.2) (Nat.lt_succ_self _)

end
