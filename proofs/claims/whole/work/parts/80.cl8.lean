/-! the class: the table of prices: what is put in, joins inside (printed by gen) -/
section
theorem clo_eq {Of : OfT} (hM : ofM Of) {u v : Int → Int} (e : ∀ s, 0 ≤ s → s < 40 → v s = u s) (h : clo Of u) : clo Of v := fun t c t0 t1 ho => by
  obtain ⟨c', d1, d2⟩ := hM u v t c (fun s s0 s1 => Int.le_of_eq (e s s0 s1).symm) ho
  rw [e t t0 t1]
  exact Int.le_trans (h t c' t0 t1 d1) d2
set_option maxHeartbeats 2000000 in
set_option maxRecDepth 20000 in
theorem x_joinWithPutIn (h : AH) {gn : Nat} (hg : gn = 20 ∨ gn = 40) {g : Gm} (hgx : gX h gn = g) (hOk : okG g) {a b : Int} {F : Int → Int} (hF : h.1 13 = F) (hab : 0 ≤ a ∧ a < b ∧ b ≤ 8) (hV : ∀ i, 0 ≤ i → i < 3240 → 0 ≤ F i ∧ F i ≤ 100) : AMet yX6_joinWithPutIn cX6_joinWithPutIn 9 none 4 100 [.ref 12, .ref gn, vI a, vI b] h (Qv (fun h' => ∃ f : Int → Int, (lowd (40 * (9 * a + b)) F f ∧ clo (ofL g (fun s => F (40 * (9 * a + a) + s)) (fun s => F (40 * (9 * b + b) + s))) (fun s => f (40 * (9 * a + b) + s)) ∧ ∀ U, le40 U (fun s => F (40 * (9 * a + b) + s)) → clo (ofL g (fun s => F (40 * (9 * a + a) + s)) (fun s => F (40 * (9 * b + b) + s))) U → le40 U (fun s => f (40 * (9 * a + b) + s))) ∧ h' = hm h [(13, f)] [] [])) := by
  subst hF
  obtain ⟨u, hb⟩ := best_ex (Of := (ofL g (fun s => h.1 13 (40 * (9 * a + a) + s)) (fun s => h.1 13 (40 * (9 * b + b) + s)))) (ofL_M hOk) (ofL_N hOk (fun s s0 s1 => (hV _ (by omega) (by omega)).1) (fun s s0 s1 => (hV _ (by omega) (by omega)).1)) 4000 (fun s => h.1 13 (40 * (9 * a + b) + s)) (fun s s0 s1 => (hV _ (by omega) (by omega)).1) (by
      have := (sumN_le (f := fun s => h.1 13 (40 * (9 * a + b) + s)) (b := 100) (n := 40) (fun s s0 s1 => hV _ (by omega) (by omega))).2
      omega)
  refine AMet.of (by decide) (Nat.le_of_ble_eq_true rfl) (fun G hM => ?_)
  have hG := hM.cx
  refine A_hm0 (G := G) (L := [(0, .ref 12), (1, .ref gn), (2, vI a), (3, vI b)]) ?_
  refine A_iload_n hG 2 dX6_joinWithPutIn_0 rfl rfl ?_
  refine A_iload_n hG 3 dX6_joinWithPutIn_1 rfl rfl ?_
  refine C_Si (as := [vI a, vI b]) (st := []) hG dX6_joinWithPutIn_2 ml_X6_35 mf_X6_run ms_X6_run (x_run (hm h [] [] []) (a := a) (b := b) (by omega) (by omega)) (by decide) (by decide) rfl rfl (Nat.le_of_ble_eq_true rfl) (fun z2 g2 ri_2 hp_2 => ?_)
  obtain ⟨ra_2, rb_2⟩ := ri_2
  obtain ⟨rfl, rfl⟩ := hp_2
  refine A_istore (L' := [(4, vI (40 * (9 * a + b))), (0, .ref 12), (1, .ref gn), (2, vI a), (3, vI b)]) hG dX6_joinWithPutIn_5 (by decide) rfl ?_
  refine A_iconst (n := 1) hG dX6_joinWithPutIn_7 ?_
  refine A_istore (L' := [(5, vI 1), (4, vI (40 * (9 * a + b))), (0, .ref 12), (1, .ref gn), (2, vI a), (3, vI b)]) hG dX6_joinWithPutIn_8 (by decide) rfl ?_
  refine A_iconst (n := 0) hG dX6_joinWithPutIn_10 ?_
  refine A_istore (L' := [(6, vI 0), (5, vI 1), (4, vI (40 * (9 * a + b))), (0, .ref 12), (1, .ref gn), (2, vI a), (3, vI b)]) hG dX6_joinWithPutIn_11 (by decide) rfl ?_
  refine A_insI 13 (li' := [(13, h.1 13)]) rfl ?_
  have i_1 : ∀ fu : Nat, ∀ (mv : Int) (i : Int) (f : Int → Int), (0 ≤ i ∧ i ≤ 41) → (mv = 0 ∨ mv = 1) → (lowd (40 * (9 * a + b)) (h.1 13) f) → (le40 u (fun s => f (40 * (9 * a + b) + s))) → (stl u (fun s => f (40 * (9 * a + b) + s)) i) → (mv = 0 → clo (ofL g (fun s => h.1 13 (40 * (9 * a + a) + s)) (fun s => h.1 13 (40 * (9 * b + b) + s))) (fun s => f (40 * (9 * a + b) + s))) → ((41 - i).toNat) < fu → G 13 [(0, .ref 12), (1, .ref gn), (2, vI a), (3, vI b), (4, vI (40 * (9 * a + b))), (5, vI mv), (6, vI i)] [] (hm h [(13, f)] [] []) := by
    intro fu
    induction fu with
    | zero => intro mv i f hi hmv hL hu hst hcl hfu; exact absurd hfu (Nat.not_lt_zero _)
    | succ fu ih_i =>
      intro mv i f hi hmv hL hu hst hcl hfu
      have hVf : ∀ i, 0 ≤ i → i < 3240 → 0 ≤ f i ∧ f i ≤ 100 := fun i i0 i1 => ⟨hL.2.2 i i0 i1, Int.le_trans (hL.1 i) (hV i i0 i1).2⟩
      refine A_iload hG 6 dX6_joinWithPutIn_13 rfl ?_
      refine A_bipush (n := 40) hG dX6_joinWithPutIn_15 (by decide) ?_
      refine A_icmp_gt hG 80 dX6_joinWithPutIn_17 (by decide) (by constructor <;> omega) (by constructor <;> omega) (fun c_17 => ?_) (fun c_17 => ?_)
      ·
        exact Ret_v hM dX6_joinWithPutIn_80 (⟨f, ⟨hL, by
            have e : ∀ s, 0 ≤ s → s < 40 → f (40 * (9 * a + b) + s) = u s := stl_end (i := i) (mv := mv) hb hu (fun s _ _ => hL.1 _) hst hcl (by omega)
            exact clo_eq (ofL_M hOk) e hb.2.1, fun U h1 h2 s s0 s1 => by
            have e : f (40 * (9 * a + b) + s) = u s := stl_end (i := i) (mv := mv) hb hu (fun s _ _ => hL.1 _) hst hcl (by omega) s s0 s1
            show U s ≤ f _
            rw [e]; exact hb.2.2.2 U h1 h2 s s0 s1⟩, rfl⟩)
      ·
        refine A_iload hG 5 dX6_joinWithPutIn_20 rfl ?_
        refine A_if_eq hG 80 dX6_joinWithPutIn_22 (by decide) (by constructor <;> omega) (fun c_22 => ?_) (fun c_22 => ?_)
        ·
          exact Ret_v hM dX6_joinWithPutIn_80 (⟨f, ⟨hL, by
              have e : ∀ s, 0 ≤ s → s < 40 → f (40 * (9 * a + b) + s) = u s := stl_end (i := i) (mv := mv) hb hu (fun s _ _ => hL.1 _) hst hcl (by omega)
              exact clo_eq (ofL_M hOk) e hb.2.1, fun U h1 h2 s s0 s1 => by
              have e : f (40 * (9 * a + b) + s) = u s := stl_end (i := i) (mv := mv) hb hu (fun s _ _ => hL.1 _) hst hcl (by omega) s s0 s1
              show U s ≤ f _
              rw [e]; exact hb.2.2.2 U h1 h2 s s0 s1⟩, rfl⟩)
        ·
          refine A_aload_n hG 0 dX6_joinWithPutIn_25 rfl rfl ?_
          refine A_aload_n hG 1 dX6_joinWithPutIn_26 rfl rfl ?_
          refine A_iload_n hG 2 dX6_joinWithPutIn_27 rfl rfl ?_
          refine A_iload_n hG 2 dX6_joinWithPutIn_28 rfl rfl ?_
          refine C_Si (as := [vI a, vI a]) (st := [.ref gn, .ref 12]) hG dX6_joinWithPutIn_29 ml_X6_35 mf_X6_run ms_X6_run (x_run (hm h [(13, f)] [] []) (a := a) (b := a) (by omega) (by omega)) (by decide) (by decide) rfl rfl (Nat.le_of_ble_eq_true rfl) (fun z29 g29 ri_29 hp_29 => ?_)
          obtain ⟨ra_29, rb_29⟩ := ri_29
          obtain ⟨rfl, rfl⟩ := hp_29
          refine A_iload hG 4 dX6_joinWithPutIn_32 rfl ?_
          refine A_iload hG 4 dX6_joinWithPutIn_34 rfl ?_
          refine C_Vi (as := [.ref gn, vI (40 * (9 * a + a)), vI (40 * (9 * a + b)), vI (40 * (9 * a + b))]) (st := []) (k := 12) (c := 6) hG dX6_joinWithPutIn_36 ml_X6_55 mf_X6_joinCells mi_X6_joinCells se_X6_joinCells rfl (by decide) k12 (x_joinCells (hm h [(13, f)] [] []) hg (g := g) ((gX_li hg rfl).trans hgx) hOk (l := (40 * (9 * a + a))) (r := (40 * (9 * a + b))) (c := (40 * (9 * a + b))) (F := f) rfl (by omega) (by omega) (by omega) hVf) (by decide) (by decide) rfl rfl (Nat.le_of_ble_eq_true rfl) (fun z36 g36 ri_36 hp_36 => ?_)
          obtain ⟨ra_36, rb_36⟩ := ri_36
          have hq_36 : ∃ fx : Int → Int, jC g (40 * (9 * a + a)) (40 * (9 * a + b)) (40 * (9 * a + b)) f fx z36 ∧ g36 = hm (hm h [(13, f)] [] []) [(13, fx)] [] [] := hp_36
          clear hp_36
          obtain ⟨f36, hj36, rfl⟩ := hq_36
          have hb36 := hj36.1
          refine A_hm (la := [(13, f36)]) (lb := []) (lc := []) rfl rfl rfl ?_
          refine A_istore (L' := [(7, vI z36), (0, .ref 12), (1, .ref gn), (2, vI a), (3, vI b), (4, vI (40 * (9 * a + b))), (5, vI mv), (6, vI i)]) hG dX6_joinWithPutIn_39 (by decide) rfl ?_
          have hV36 : ∀ i, 0 ≤ i → i < 3240 → 0 ≤ f36 i ∧ f36 i ≤ 100 := fun i i0 i1 => ⟨hj36.2.1.2.2 i i0 i1, Int.le_trans (hj36.2.1.1 i) (hVf i i0 i1).2⟩
          refine A_aload_n hG 1 dX6_joinWithPutIn_41 rfl rfl ?_
          refine A_aload_n hG 2 dX6_joinWithPutIn_42 rfl rfl ?_
          refine A_iload hG 5 dX6_joinWithPutIn_43 rfl ?_
          refine A_iload_n hG 4 dX6_joinWithPutIn_45 rfl rfl ?_
          refine A_iload_n hG 4 dX6_joinWithPutIn_46 rfl rfl ?_
          refine C_Si (as := [vI b, vI b]) (st := [vI (40 * (9 * a + b)), .ref gn, .ref 12]) hG dX6_joinWithPutIn_47 ml_X6_35 mf_X6_run ms_X6_run (x_run (hm h [(13, f36)] [] []) (a := b) (b := b) (by omega) (by omega)) (by decide) (by decide) rfl rfl (Nat.le_of_ble_eq_true rfl) (fun z47 g47 ri_47 hp_47 => ?_)
          obtain ⟨ra_47, rb_47⟩ := ri_47
          obtain ⟨rfl, rfl⟩ := hp_47
          refine A_iload hG 5 dX6_joinWithPutIn_50 rfl ?_
          refine C_Vi (as := [.ref gn, vI (40 * (9 * a + b)), vI (40 * (9 * b + b)), vI (40 * (9 * a + b))]) (st := []) (k := 12) (c := 6) hG dX6_joinWithPutIn_52 ml_X6_55 mf_X6_joinCells mi_X6_joinCells se_X6_joinCells rfl (by decide) k12 (x_joinCells (hm h [(13, f36)] [] []) hg (g := g) ((gX_li hg rfl).trans hgx) hOk (l := (40 * (9 * a + b))) (r := (40 * (9 * b + b))) (c := (40 * (9 * a + b))) (F := f36) rfl (by omega) (by omega) (by omega) hV36) (by decide) (by decide) rfl rfl (Nat.le_of_ble_eq_true rfl) (fun z52 g52 ri_52 hp_52 => ?_)
          obtain ⟨ra_52, rb_52⟩ := ri_52
          have hq_52 : ∃ fx : Int → Int, jC g (40 * (9 * a + b)) (40 * (9 * b + b)) (40 * (9 * a + b)) f36 fx z52 ∧ g52 = hm (hm h [(13, f36)] [] []) [(13, fx)] [] [] := hp_52
          clear hp_52
          obtain ⟨f52, hj52, rfl⟩ := hq_52
          have hb52 := hj52.1
          refine A_hm (la := [(13, f52)]) (lb := []) (lc := []) rfl rfl rfl ?_
          refine A_istore (L' := [(8, vI z52), (7, vI z36), (0, .ref 12), (1, .ref gn), (2, vI a), (3, vI b), (4, vI (40 * (9 * a + b))), (5, vI mv), (6, vI i)]) hG dX6_joinWithPutIn_55 (by decide) rfl ?_
          have n_6 : ∀ (yy : Int), ((yy = 0 ∧ z36 = 0 ∧ z52 = 0) ∨ yy = 1) → G 72 [(0, .ref 12), (1, .ref gn), (2, vI a), (3, vI b), (4, vI (40 * (9 * a + b))), (6, vI i)] [vI yy] (hm h [(13, f52)] [] []) := by
            intro yy hyy
            refine A_istore (L' := [(5, vI yy), (0, .ref 12), (1, .ref gn), (2, vI a), (3, vI b), (4, vI (40 * (9 * a + b))), (6, vI i)]) hG dX6_joinWithPutIn_72 (by decide) rfl ?_
            refine A_iinc (L' := [(6, vI (i + 1)), (5, vI yy), (0, .ref 12), (1, .ref gn), (2, vI a), (3, vI b), (4, vI (40 * (9 * a + b)))]) hG 6 dX6_joinWithPutIn_74 rfl (by decide) rfl ?_
            refine A_goto hG 13 dX6_joinWithPutIn_77 (by decide) ?_
            refine A_sub hG [2, 3, 4, 5, 6, 1, 0] rfl ?_
            exact ih_i yy (i + 1) f52 (by omega) (by omega) ((pi_step hOk (by omega) (by omega) hL hb.2.1 hu hj36 hj52).1) ((pi_step hOk (by omega) (by omega) hL hb.2.1 hu hj36 hj52).2.1) (stl_s (ofL_S hOk) hb hu (fun s _ _ => hL.1 _) (pi_step hOk (by omega) (by omega) hL hb.2.1 hu hj36 hj52).2.1 (pi_step hOk (by omega) (by omega) hL hb.2.1 hu hj36 hj52).2.2.1 (pi_step hOk (by omega) (by omega) hL hb.2.1 hu hj36 hj52).2.2.2.1 hst) (fun e => (pi_step hOk (by omega) (by omega) hL hb.2.1 hu hj36 hj52).2.2.2.2 (by omega)) (by omega)
          refine A_iload hG 1 dX6_joinWithPutIn_57 rfl ?_
          refine A_if_ne hG 67 dX6_joinWithPutIn_59 (by decide) (by constructor <;> omega) (fun c_59 => ?_) (fun c_59 => ?_)
          ·
            refine A_iconst (n := 1) hG dX6_joinWithPutIn_67 ?_
            refine A_goto hG 72 dX6_joinWithPutIn_68 (by decide) ?_
            refine A_sub hG [2, 3, 4, 5, 6, 8] rfl ?_
            exact n_6 1 (by omega)
          ·
            refine A_iload hG 0 dX6_joinWithPutIn_62 rfl ?_
            refine A_if_eq hG 71 dX6_joinWithPutIn_64 (by decide) (by constructor <;> omega) (fun c_64 => ?_) (fun c_64 => ?_)
            ·
              refine A_iconst (n := 0) hG dX6_joinWithPutIn_71 ?_
              refine A_sub hG [2, 3, 4, 5, 6, 8] rfl ?_
              exact n_6 0 (by omega)
            ·
              refine A_iconst (n := 1) hG dX6_joinWithPutIn_67 ?_
              refine A_goto hG 72 dX6_joinWithPutIn_68 (by decide) ?_
              refine A_sub hG [2, 3, 4, 5, 6, 8] rfl ?_
              exact n_6 1 (by omega)
  refine A_sub hG [3, 4, 5, 6, 2, 1, 0] rfl ?_
  exact i_1 _ 1 0 (h.1 13) (by omega) (by omega) (⟨fun _ => Int.le_refl _, fun _ _ => rfl, fun i i0 i1 => (hV i i0 i1).1⟩) hb.1 (Or.inr (nF_0 _ _)) (fun e => by omega) (Nat.lt_succ_self _)

set_option maxHeartbeats 2000000 in
set_option maxRecDepth 20000 in
theorem x_joinInside (h : AH) {gn : Nat} (hg : gn = 20 ∨ gn = 40) {g : Gm} (hgx : gX h gn = g) (hOk : okG g) {a b : Int} {F : Int → Int} (hF : h.1 13 = F) (hab : 0 ≤ a ∧ a < b ∧ b ≤ 8) (hV : ∀ i, 0 ≤ i → i < 3240 → 0 ≤ F i ∧ F i ≤ 100) : AMet yX6_joinInside cX6_joinInside 5 none 4 100 [.ref 12, .ref gn, vI a, vI b] h (Qv (fun h' => ∃ f : Int → Int, (lowd (40 * (9 * a + b)) F f ∧ (∀ m, a < m → m < b → jO g (40 * (9 * a + m)) (40 * (9 * m + b)) (40 * (9 * a + b)) F f) ∧ ∀ LB : Int → Int, (∀ i, LB i ≤ F i) → (∀ m, a < m → m < b → jL g (40 * (9 * a + m)) (40 * (9 * m + b)) (40 * (9 * a + b)) LB) → ∀ i, LB i ≤ f i) ∧ h' = hm h [(13, f)] [] [])) := by
  subst hF
  refine AMet.of (by decide) (Nat.le_of_ble_eq_true rfl) (fun G hM => ?_)
  have hG := hM.cx
  refine A_hm0 (G := G) (L := [(0, .ref 12), (1, .ref gn), (2, vI a), (3, vI b)]) ?_
  refine A_iload_n hG 2 dX6_joinInside_0 rfl rfl ?_
  refine A_iconst (n := 1) hG dX6_joinInside_1 ?_
  refine A_iadd hG dX6_joinInside_2 ?_
  refine A_istore (L' := [(4, vI (a + 1)), (0, .ref 12), (1, .ref gn), (2, vI a), (3, vI b)]) hG dX6_joinInside_3 (by decide) rfl ?_
  refine A_insI 13 (li' := [(13, h.1 13)]) rfl ?_
  have m_0 : ∀ fu : Nat, ∀ (m : Int) (f : Int → Int), (a < m ∧ m ≤ b) → (lowd (40 * (9 * a + b)) (h.1 13) f) → (∀ m', a < m' → m' < m → jO g (40 * (9 * a + m')) (40 * (9 * m' + b)) (40 * (9 * a + b)) (h.1 13) f) → (∀ LB : Int → Int, (∀ i, LB i ≤ h.1 13 i) → (∀ m', a < m' → m' < b → jL g (40 * (9 * a + m')) (40 * (9 * m' + b)) (40 * (9 * a + b)) LB) → ∀ i, LB i ≤ f i) → ((9 - m).toNat) < fu → G 5 [(0, .ref 12), (1, .ref gn), (2, vI a), (3, vI b), (4, vI m)] [] (hm h [(13, f)] [] []) := by
    intro fu
    induction fu with
    | zero => intro m f hmm hL hP hS hfu; exact absurd hfu (Nat.not_lt_zero _)
    | succ fu ih_m =>
      intro m f hmm hL hP hS hfu
      have hVf : ∀ i, 0 ≤ i → i < 3240 → 0 ≤ f i ∧ f i ≤ 100 := fun i i0 i1 => ⟨hL.2.2 i i0 i1, Int.le_trans (hL.1 i) (hV i i0 i1).2⟩
      refine A_iload hG 4 dX6_joinInside_5 rfl ?_
      refine A_iload_n hG 3 dX6_joinInside_7 rfl rfl ?_
      refine A_icmp_ge hG 40 dX6_joinInside_8 (by decide) (by constructor <;> omega) (by constructor <;> omega) (fun c_8 => ?_) (fun c_8 => ?_)
      ·
        exact Ret_v hM dX6_joinInside_40 (⟨f, ⟨hL, fun m' q1 q2 => hP m' q1 (by omega), hS⟩, rfl⟩)
      ·
        refine A_aload_n hG 0 dX6_joinInside_11 rfl rfl ?_
        refine A_aload_n hG 1 dX6_joinInside_12 rfl rfl ?_
        refine A_iload_n hG 2 dX6_joinInside_13 rfl rfl ?_
        refine A_iload hG 4 dX6_joinInside_14 rfl ?_
        refine C_Si (as := [vI a, vI m]) (st := [.ref gn, .ref 12]) hG dX6_joinInside_16 ml_X6_35 mf_X6_run ms_X6_run (x_run (hm h [(13, f)] [] []) (a := a) (b := m) (by omega) (by omega)) (by decide) (by decide) rfl rfl (Nat.le_of_ble_eq_true rfl) (fun z16 g16 ri_16 hp_16 => ?_)
        obtain ⟨ra_16, rb_16⟩ := ri_16
        obtain ⟨rfl, rfl⟩ := hp_16
        refine A_iload hG 4 dX6_joinInside_19 rfl ?_
        refine A_iload_n hG 3 dX6_joinInside_21 rfl rfl ?_
        refine C_Si (as := [vI m, vI b]) (st := [vI (40 * (9 * a + m)), .ref gn, .ref 12]) hG dX6_joinInside_22 ml_X6_35 mf_X6_run ms_X6_run (x_run (hm h [(13, f)] [] []) (a := m) (b := b) (by omega) (by omega)) (by decide) (by decide) rfl rfl (Nat.le_of_ble_eq_true rfl) (fun z22 g22 ri_22 hp_22 => ?_)
        obtain ⟨ra_22, rb_22⟩ := ri_22
        obtain ⟨rfl, rfl⟩ := hp_22
        refine A_iload_n hG 2 dX6_joinInside_25 rfl rfl ?_
        refine A_iload_n hG 3 dX6_joinInside_26 rfl rfl ?_
        refine C_Si (as := [vI a, vI b]) (st := [vI (40 * (9 * m + b)), vI (40 * (9 * a + m)), .ref gn, .ref 12]) hG dX6_joinInside_27 ml_X6_35 mf_X6_run ms_X6_run (x_run (hm h [(13, f)] [] []) (a := a) (b := b) (by omega) (by omega)) (by decide) (by decide) rfl rfl (Nat.le_of_ble_eq_true rfl) (fun z27 g27 ri_27 hp_27 => ?_)
        obtain ⟨ra_27, rb_27⟩ := ri_27
        obtain ⟨rfl, rfl⟩ := hp_27
        refine C_Vi (as := [.ref gn, vI (40 * (9 * a + m)), vI (40 * (9 * m + b)), vI (40 * (9 * a + b))]) (st := []) (k := 12) (c := 6) hG dX6_joinInside_30 ml_X6_55 mf_X6_joinCells mi_X6_joinCells se_X6_joinCells rfl (by decide) k12 (x_joinCells (hm h [(13, f)] [] []) hg (g := g) ((gX_li hg rfl).trans hgx) hOk (l := (40 * (9 * a + m))) (r := (40 * (9 * m + b))) (c := (40 * (9 * a + b))) (F := f) rfl (by omega) (by omega) (by omega) hVf) (by decide) (by decide) rfl rfl (Nat.le_of_ble_eq_true rfl) (fun z30 g30 ri_30 hp_30 => ?_)
        obtain ⟨ra_30, rb_30⟩ := ri_30
        have hq_30 : ∃ fx : Int → Int, jC g (40 * (9 * a + m)) (40 * (9 * m + b)) (40 * (9 * a + b)) f fx z30 ∧ g30 = hm (hm h [(13, f)] [] []) [(13, fx)] [] [] := hp_30
        clear hp_30
        obtain ⟨f30, hj30, rfl⟩ := hq_30
        have hb30 := hj30.1
        refine A_hm (la := [(13, f30)]) (lb := []) (lc := []) rfl rfl rfl ?_
        refine A_pop hG dX6_joinInside_33 rfl ?_
        refine A_iinc (L' := [(4, vI (m + 1)), (0, .ref 12), (1, .ref gn), (2, vI a), (3, vI b)]) hG 4 dX6_joinInside_34 rfl (by decide) rfl ?_
        refine A_goto hG 5 dX6_joinInside_37 (by decide) ?_
        refine A_sub hG [1, 2, 3, 4, 0] rfl ?_
        exact ih_m (m + 1) f30 (by omega) (lowd_tr hL hj30.2.1) (fun m' q1 q2 q y z hv => by
            by_cases e : m' = m
            · subst e
              have a1 := hj30.2.2.2.1 q y z hv
              have a2 := hL.1 (40 * (9 * a + m') + (4 * g 5 q + y)); have a3 := hL.1 (40 * (9 * m' + b) + (4 * g 6 q + z))
              omega
            · exact Int.le_trans (hj30.2.1.1 _) (hP m' q1 (by omega) q y z hv)) (fun LB h1 h2 => hj30.2.2.2.2 LB (hS LB h1 h2) (h2 m (by omega) (by omega))) (by omega)
  refine A_sub hG [1, 2, 3, 4, 0] rfl ?_
  exact m_0 _ (a + 1) (h.1 13) (by omega) (⟨fun _ => Int.le_refl _, fun _ _ => rfl, fun i i0 i1 => (hV i i0 i1).1⟩) (fun m' q1 q2 => by omega) (fun LB h1 _ => h1) (Nat.lt_succ_self _)

set_option maxHeartbeats 2000000 in
set_option maxRecDepth 20000 in
theorem x_fillEmptyRuns (h : AH) {gn : Nat} (hg : gn = 20 ∨ gn = 40) {g : Gm} (hgx : gX h gn = g) (hOk : okG g) {ip n : Int} {F : Int → Int} (hF : h.1 13 = F) (hip : 0 ≤ ip ∧ ip ≤ 99) (hn : 0 ≤ n ∧ n ≤ 8) (hV : ∀ i, 0 ≤ i → i < 3240 → 0 ≤ F i ∧ F i ≤ 100) : AMet yX6_fillEmptyRuns cX6_fillEmptyRuns 7 none 4 100 [.ref 12, .ref gn, vI ip, vI n] h (Qv (fun h' => ∃ e f : Int → Int, ((∀ i, 0 ≤ i → i < 3240 → 0 ≤ f i ∧ f i ≤ 100) ∧ (∀ a k, 0 ≤ a → a ≤ n → 0 ≤ k → k < 40 → f (40 * (9 * a + a) + k) = e k) ∧ (∀ k, 0 ≤ k → k < 40 → 0 ≤ e k ∧ e k ≤ 100) ∧ (∀ v, 0 ≤ v → v < g 10 0 → e (4 * g 0 v + g 1 v) ≤ ip) ∧ clo (ofQ g) e ∧ ∀ U : Int → Int, (∀ k, 0 ≤ k → k < 40 → U k ≤ 100) → (∀ v, 0 ≤ v → v < g 10 0 → U (4 * g 0 v + g 1 v) ≤ ip) → clo (ofQ g) U → le40 U e) ∧ h' = hm h [(13, f)] [] [])) := by
  subst hF
  have hW := hOk.1
  refine AMet.of (by decide) (Nat.le_of_ble_eq_true rfl) (fun G hM => ?_)
  have hG := hM.cx
  refine A_hm0 (G := G) (L := [(0, .ref 12), (1, .ref gn), (2, vI ip), (3, vI n)]) ?_
  refine A_iconst (n := 0) hG dX6_fillEmptyRuns_0 ?_
  refine A_iconst (n := 0) hG dX6_fillEmptyRuns_1 ?_
  refine C_Si (as := [vI 0, vI 0]) (st := []) hG dX6_fillEmptyRuns_2 ml_X6_35 mf_X6_run ms_X6_run (x_run (hm h [] [] []) (a := 0) (b := 0) (by omega) (by omega)) (by decide) (by decide) rfl rfl (Nat.le_of_ble_eq_true rfl) (fun z2 g2 ri_2 hp_2 => ?_)
  obtain ⟨ra_2, rb_2⟩ := ri_2
  obtain ⟨rfl, rfl⟩ := hp_2
  refine A_istore (L' := [(4, vI (40 * (9 * 0 + 0))), (0, .ref 12), (1, .ref gn), (2, vI ip), (3, vI n)]) hG dX6_fillEmptyRuns_5 (by decide) rfl ?_
  refine A_aload_n hG 1 dX6_fillEmptyRuns_7 rfl rfl ?_
  refine A_iload hG 0 dX6_fillEmptyRuns_8 rfl ?_
  refine C_Vv (as := [vI (40 * (9 * 0 + 0))]) (st := []) (k := 12) (c := 6) hG dX6_fillEmptyRuns_10 ml_X6_43 mf_X6_forbidAll mi_X6_forbidAll se_X6_forbidAll rfl (by decide) k12 (x_forbidAll (hm h [] [] []) (c := (40 * (9 * 0 + 0))) (F := h.1 13) rfl (by omega)) (by decide) (by decide) rfl rfl (Nat.le_of_ble_eq_true rfl) (fun g10 hp_10 => ?_)
  have hq_10 : ∃ fx : Int → Int, ((∀ i, (i < (40 * (9 * 0 + 0)) ∨ (40 * (9 * 0 + 0)) + 40 ≤ i) → fx i = h.1 13 i) ∧ ∀ k, 0 ≤ k → k < 40 → fx ((40 * (9 * 0 + 0)) + k) = 100) ∧ g10 = hm (hm h [] [] []) [(13, fx)] [] [] := hp_10
  clear hp_10
  obtain ⟨f10, ⟨hO10, hI10⟩, rfl⟩ := hq_10
  refine A_hm (la := [(13, f10)]) (lb := []) (lc := []) rfl rfl rfl ?_
  refine A_iconst (n := 0) hG dX6_fillEmptyRuns_13 ?_
  refine A_istore (L' := [(5, vI 0), (4, vI (40 * (9 * 0 + 0))), (0, .ref 12), (1, .ref gn), (2, vI ip), (3, vI n)]) hG dX6_fillEmptyRuns_14 (by decide) rfl ?_
  have w_2 : ∀ fu : Nat, ∀ (v : Int) (f : Int → Int), (0 ≤ v ∧ v ≤ g 10 0) → (∀ i, 0 ≤ i → i < 3240 → 0 ≤ f i ∧ f i ≤ 100) → (∀ x, 0 ≤ x → x < v → f (40 * (9 * 0 + 0) + (4 * g 0 x + g 1 x)) ≤ ip) → (∀ U : Int → Int, (∀ k, 0 ≤ k → k < 40 → U k ≤ 100) → (∀ x, 0 ≤ x → x < g 10 0 → U (4 * g 0 x + g 1 x) ≤ ip) → ∀ k, 0 ≤ k → k < 40 → U k ≤ f (40 * (9 * 0 + 0) + k)) → ((17 - v).toNat) < fu → G 16 [(0, .ref 12), (1, .ref gn), (2, vI ip), (3, vI n), (4, vI (40 * (9 * 0 + 0))), (5, vI v)] [] (hm h [(13, f)] [] []) := by
    intro fu
    induction fu with
    | zero => intro v f hvv hVf hA hB hfu; exact absurd hfu (Nat.not_lt_zero _)
    | succ fu ih_w =>
      intro v f hvv hVf hA hB hfu
      refine A_iload hG 5 dX6_fillEmptyRuns_16 rfl ?_
      refine A_aload_n hG 1 dX6_fillEmptyRuns_18 rfl rfl ?_
      refine M_getI (z := 4) (v := g 10 0) hG dX6_fillEmptyRuns_19 fl_X6_47 (by decide) (kg0 hg) rfl rfl ((congrFun (show alk [(13, f)] gn (h.1 gn) = h.1 gn from (by simp (disch := omega) only [alk, if_neg, if_pos, ite_true])) 4).trans ((gx_n hgx).1)) (fun ⟨ra_19, rb_19⟩ => ?_)
      refine A_icmp_ge hG 46 dX6_fillEmptyRuns_22 (by decide) (by constructor <;> omega) (by constructor <;> omega) (fun c_22 => ?_) (fun c_22 => ?_)
      ·
        have hgv : v = g 10 0 := by omega
        obtain ⟨u, hb⟩ := best_ex (Of := ofQ g) (ofQ_M hOk) (ofQ_N hOk) 4000 (fun s => f (40 * (9 * 0 + 0) + s)) (fun s s0 s1 => (hVf _ (by omega) (by omega)).1) (by
            have := (sumN_le (f := fun s => f (40 * (9 * 0 + 0) + s)) (b := 100) (n := 40) (fun s s0 s1 => hVf _ (by omega) (by omega))).2
            omega)
        have z_3 : ∀ (e : Int → Int) (f2 : Int → Int), (∀ i, 0 ≤ i → i < 3240 → 0 ≤ f2 i ∧ f2 i ≤ 100) → (∀ k, 0 ≤ k → k < 40 → f2 (40 * (9 * 0 + 0) + k) = e k) → ((∀ k, 0 ≤ k → k < 40 → 0 ≤ e k ∧ e k ≤ 100) ∧ (∀ v, 0 ≤ v → v < g 10 0 → e (4 * g 0 v + g 1 v) ≤ ip) ∧ clo (ofQ g) e ∧ ∀ U : Int → Int, (∀ k, 0 ≤ k → k < 40 → U k ≤ 100) → (∀ v, 0 ≤ v → v < g 10 0 → U (4 * g 0 v + g 1 v) ≤ ip) → clo (ofQ g) U → le40 U e) → G 83 [(0, .ref 12), (1, .ref gn), (2, vI ip), (3, vI n), (4, vI (40 * (9 * 0 + 0)))] [] (hm h [(13, f2)] [] []) := by
          intro e f2 hVf2 hE hEM
          refine A_iconst (n := 1) hG dX6_fillEmptyRuns_83 ?_
          refine A_istore (L' := [(6, vI 1), (0, .ref 12), (1, .ref gn), (2, vI ip), (3, vI n), (4, vI (40 * (9 * 0 + 0)))]) hG dX6_fillEmptyRuns_84 (by decide) rfl ?_
          have c_4 : ∀ fu : Nat, ∀ (x : Int) (f : Int → Int), (1 ≤ x ∧ x ≤ 9) → (∀ i, 0 ≤ i → i < 3240 → 0 ≤ f i ∧ f i ≤ 100) → (∀ a k, 0 ≤ a → a < x → 0 ≤ k → k < 40 → f (40 * (9 * a + a) + k) = e k) → ((10 - x).toNat) < fu → G 86 [(0, .ref 12), (1, .ref gn), (2, vI ip), (3, vI n), (4, vI (40 * (9 * 0 + 0))), (6, vI x)] [] (hm h [(13, f)] [] []) := by
            intro fu
            induction fu with
            | zero => intro x f hxx hVf hD hfu; exact absurd hfu (Nat.not_lt_zero _)
            | succ fu ih_c =>
              intro x f hxx hVf hD hfu
              refine A_iload hG 5 dX6_fillEmptyRuns_86 rfl ?_
              refine A_iload_n hG 3 dX6_fillEmptyRuns_88 rfl rfl ?_
              refine A_icmp_gt hG 120 dX6_fillEmptyRuns_89 (by decide) (by constructor <;> omega) (by constructor <;> omega) (fun c_89 => ?_) (fun c_89 => ?_)
              ·
                exact Ret_v hM dX6_fillEmptyRuns_120 (⟨e, f, ⟨hVf, fun a k a0 a1 k0 k1 => hD a k a0 (by omega) k0 k1, hEM⟩, rfl⟩)
              ·
                refine A_aload_n hG 0 dX6_fillEmptyRuns_92 rfl rfl ?_
                refine A_getR (r := 13) hG dX6_fillEmptyRuns_93 fl_X6_11 (by decide) k12 (by decide) rfl ?_
                refine A_iload hG 4 dX6_fillEmptyRuns_96 rfl ?_
                refine A_aload_n hG 0 dX6_fillEmptyRuns_98 rfl rfl ?_
                refine A_getR (r := 13) hG dX6_fillEmptyRuns_99 fl_X6_11 (by decide) k12 (by decide) rfl ?_
                refine A_iload hG 5 dX6_fillEmptyRuns_102 rfl ?_
                refine A_iload hG 5 dX6_fillEmptyRuns_104 rfl ?_
                refine C_Si (as := [vI x, vI x]) (st := [.ref 13, vI (40 * (9 * 0 + 0)), .ref 13]) hG dX6_fillEmptyRuns_106 ml_X6_35 mf_X6_run ms_X6_run (x_run (hm h [(13, f)] [] []) (a := x) (b := x) (by omega) (by omega)) (by decide) (by decide) rfl rfl (Nat.le_of_ble_eq_true rfl) (fun z106 g106 ri_106 hp_106 => ?_)
                obtain ⟨ra_106, rb_106⟩ := ri_106
                obtain ⟨rfl, rfl⟩ := hp_106
                refine A_bipush (n := 40) hG dX6_fillEmptyRuns_109 (by decide) ?_
                refine M_copy (f := f) (li' := [(13, cpI f f (40 * (9 * 0 + 0)) (40 * (9 * x + x)) 40)]) hG dX6_fillEmptyRuns_111 lw_X6_59 (Or.inl ⟨k13, rfl⟩) k13 n13 n13 (by omega) (by omega) (by omega) (fun q => absurd q (by rw [k13]; decide)) (by decide) (by decide) (Nat.le_of_ble_eq_true rfl) rfl ?_
                refine A_iinc (L' := [(6, vI (x + 1)), (0, .ref 12), (1, .ref gn), (2, vI ip), (3, vI n), (4, vI (40 * (9 * 0 + 0)))]) hG 5 dX6_fillEmptyRuns_114 rfl (by decide) rfl ?_
                refine A_goto hG 86 dX6_fillEmptyRuns_117 (by decide) ?_
                refine A_sub hG [1, 2, 3, 4, 5, 0] rfl ?_
                exact ih_c (x + 1) (cpI f f (40 * (9 * 0 + 0)) (40 * (9 * x + x)) 40) (by omega) (fun i i0 i1 => by
                    unfold cpI
                    split
                    · exact hVf _ (by omega) (by omega)
                    · exact hVf i i0 i1) (fun a k a0 a1 k0 k1 => by
                    unfold cpI
                    by_cases d : a = x
                    · subst d
                      rw [if_pos (by omega)]
                      have := hD 0 k (by omega) (by omega) k0 k1
                      rw [← this]; exact congrArg f (by omega)
                    · rw [if_neg (by omega)]; exact hD a k a0 (by omega) k0 k1) (by omega)
          refine A_sub hG [1, 2, 3, 4, 5, 0] rfl ?_
          exact c_4 _ 1 f2 (by omega) hVf2 (fun a k a0 a1 k0 k1 => by
              have d : a = 0 := by omega
              subst d; exact hE k k0 k1) (Nat.lt_succ_self _)
        refine A_iconst (n := 1) hG dX6_fillEmptyRuns_46 ?_
        refine A_istore (L' := [(5, vI 1), (0, .ref 12), (1, .ref gn), (2, vI ip), (3, vI n), (4, vI (40 * (9 * 0 + 0)))]) hG dX6_fillEmptyRuns_47 (by decide) rfl ?_
        refine A_iconst (n := 0) hG dX6_fillEmptyRuns_49 ?_
        refine A_istore (L' := [(6, vI 0), (5, vI 1), (0, .ref 12), (1, .ref gn), (2, vI ip), (3, vI n), (4, vI (40 * (9 * 0 + 0)))]) hG dX6_fillEmptyRuns_50 (by decide) rfl ?_
        have i_6 : ∀ fu : Nat, ∀ (mv : Int) (i : Int) (f2 : Int → Int), (0 ≤ i ∧ i ≤ 41) → (mv = 0 ∨ mv = 1) → (lowd (40 * (9 * 0 + 0)) f f2) → (le40 u (fun s => f2 (40 * (9 * 0 + 0) + s))) → (stl u (fun s => f2 (40 * (9 * 0 + 0) + s)) i) → (mv = 0 → clo (ofQ g) (fun s => f2 (40 * (9 * 0 + 0) + s))) → ((41 - i).toNat) < fu → G 52 [(0, .ref 12), (1, .ref gn), (2, vI ip), (3, vI n), (4, vI (40 * (9 * 0 + 0))), (5, vI mv), (6, vI i)] [] (hm h [(13, f2)] [] []) := by
          intro fu
          induction fu with
          | zero => intro mv i f2 hi hmv hL hu hst hcl hfu; exact absurd hfu (Nat.not_lt_zero _)
          | succ fu ih_i =>
            intro mv i f2 hi hmv hL hu hst hcl hfu
            have hVf2 : ∀ i, 0 ≤ i → i < 3240 → 0 ≤ f2 i ∧ f2 i ≤ 100 := fun i i0 i1 => ⟨hL.2.2 i i0 i1, Int.le_trans (hL.1 i) (hVf i i0 i1).2⟩
            refine A_iload hG 6 dX6_fillEmptyRuns_52 rfl ?_
            refine A_bipush (n := 40) hG dX6_fillEmptyRuns_54 (by decide) ?_
            refine A_icmp_gt hG 83 dX6_fillEmptyRuns_56 (by decide) (by constructor <;> omega) (by constructor <;> omega) (fun c_56 => ?_) (fun c_56 => ?_)
            ·
              refine A_sub hG [0, 1, 2, 3, 4] rfl ?_
              exact z_3 (fun s => f2 (40 * (9 * 0 + 0) + s)) f2 hVf2 (fun _ _ _ => rfl) (⟨fun k k0 k1 => hVf2 _ (by omega) (by omega), fun x x0 x1 => by have := hL.1 (40 * (9 * 0 + 0) + (4 * g 0 x + g 1 x)); have := hA x x0 (by omega); show f2 _ ≤ ip; omega, clo_eq (ofQ_M hOk) (stl_end (i := i) (mv := mv) hb hu (fun s _ _ => hL.1 _) hst hcl (by omega)) hb.2.1, fun U h1 h2 h3 s s0 s1 => by
                  have d : f2 (40 * (9 * 0 + 0) + s) = u s := stl_end (i := i) (mv := mv) hb hu (fun s _ _ => hL.1 _) hst hcl (by omega) s s0 s1
                  show U s ≤ f2 _
                  rw [d]; exact hb.2.2.2 U (hB U h1 h2) h3 s s0 s1⟩)
            ·
              refine A_iload hG 5 dX6_fillEmptyRuns_59 rfl ?_
              refine A_if_eq hG 83 dX6_fillEmptyRuns_61 (by decide) (by constructor <;> omega) (fun c_61 => ?_) (fun c_61 => ?_)
              ·
                refine A_sub hG [0, 1, 2, 3, 4] rfl ?_
                exact z_3 (fun s => f2 (40 * (9 * 0 + 0) + s)) f2 hVf2 (fun _ _ _ => rfl) (⟨fun k k0 k1 => hVf2 _ (by omega) (by omega), fun x x0 x1 => by have := hL.1 (40 * (9 * 0 + 0) + (4 * g 0 x + g 1 x)); have := hA x x0 (by omega); show f2 _ ≤ ip; omega, clo_eq (ofQ_M hOk) (stl_end (i := i) (mv := mv) hb hu (fun s _ _ => hL.1 _) hst hcl (by omega)) hb.2.1, fun U h1 h2 h3 s s0 s1 => by
                    have d : f2 (40 * (9 * 0 + 0) + s) = u s := stl_end (i := i) (mv := mv) hb hu (fun s _ _ => hL.1 _) hst hcl (by omega) s s0 s1
                    show U s ≤ f2 _
                    rw [d]; exact hb.2.2.2 U (hB U h1 h2) h3 s s0 s1⟩)
              ·
                refine A_aload_n hG 0 dX6_fillEmptyRuns_64 rfl rfl ?_
                refine A_aload_n hG 1 dX6_fillEmptyRuns_65 rfl rfl ?_
                refine A_iload hG 4 dX6_fillEmptyRuns_66 rfl ?_
                refine A_iload hG 4 dX6_fillEmptyRuns_68 rfl ?_
                refine A_iload hG 4 dX6_fillEmptyRuns_70 rfl ?_
                refine C_Vi (as := [.ref gn, vI (40 * (9 * 0 + 0)), vI (40 * (9 * 0 + 0)), vI (40 * (9 * 0 + 0))]) (st := []) (k := 12) (c := 6) hG dX6_fillEmptyRuns_72 ml_X6_55 mf_X6_joinCells mi_X6_joinCells se_X6_joinCells rfl (by decide) k12 (x_joinCells (hm h [(13, f2)] [] []) hg (g := g) ((gX_li hg rfl).trans hgx) hOk (l := (40 * (9 * 0 + 0))) (r := (40 * (9 * 0 + 0))) (c := (40 * (9 * 0 + 0))) (F := f2) rfl (by omega) (by omega) (by omega) hVf2) (by decide) (by decide) rfl rfl (Nat.le_of_ble_eq_true rfl) (fun z72 g72 ri_72 hp_72 => ?_)
                obtain ⟨ra_72, rb_72⟩ := ri_72
                have hq_72 : ∃ fx : Int → Int, jC g (40 * (9 * 0 + 0)) (40 * (9 * 0 + 0)) (40 * (9 * 0 + 0)) f2 fx z72 ∧ g72 = hm (hm h [(13, f2)] [] []) [(13, fx)] [] [] := hp_72
                clear hp_72
                obtain ⟨f72, hj72, rfl⟩ := hq_72
                have hb72 := hj72.1
                refine A_hm (la := [(13, f72)]) (lb := []) (lc := []) rfl rfl rfl ?_
                refine A_istore (L' := [(5, vI z72), (0, .ref 12), (1, .ref gn), (2, vI ip), (3, vI n), (4, vI (40 * (9 * 0 + 0))), (6, vI i)]) hG dX6_fillEmptyRuns_75 (by decide) rfl ?_
                refine A_iinc (L' := [(6, vI (i + 1)), (5, vI z72), (0, .ref 12), (1, .ref gn), (2, vI ip), (3, vI n), (4, vI (40 * (9 * 0 + 0)))]) hG 6 dX6_fillEmptyRuns_77 rfl (by decide) rfl ?_
                refine A_goto hG 52 dX6_fillEmptyRuns_80 (by decide) ?_
                refine A_sub hG [2, 3, 4, 5, 6, 1, 0] rfl ?_
                exact ih_i z72 (i + 1) f72 (by omega) (by omega) ((pq_step (c := 40 * (9 * 0 + 0)) hOk hL hb.2.1 hu hj72).1) ((pq_step (c := 40 * (9 * 0 + 0)) hOk hL hb.2.1 hu hj72).2.1) (stl_s (ofQ_S hOk) hb hu (fun s _ _ => hL.1 _) (pq_step (c := 40 * (9 * 0 + 0)) hOk hL hb.2.1 hu hj72).2.1 (pq_step (c := 40 * (9 * 0 + 0)) hOk hL hb.2.1 hu hj72).2.2.1 (pq_step (c := 40 * (9 * 0 + 0)) hOk hL hb.2.1 hu hj72).2.2.2.1 hst) (fun e => (pq_step (c := 40 * (9 * 0 + 0)) hOk hL hb.2.1 hu hj72).2.2.2.2 e) (by omega)
        refine A_sub hG [2, 3, 4, 5, 6, 1, 0] rfl ?_
        exact i_6 _ 1 0 f (by omega) (by omega) (⟨fun _ => Int.le_refl _, fun _ _ => rfl, fun i i0 i1 => (hVf i i0 i1).1⟩) hb.1 (Or.inr (nF_0 _ _)) (fun e => by omega) (Nat.lt_succ_self _)
      ·
        have o := hOk.2.2.1 v (by omega) (by omega)
        refine A_aload_n hG 0 dX6_fillEmptyRuns_25 rfl rfl ?_
        refine A_getR (r := 13) hG dX6_fillEmptyRuns_26 fl_X6_11 (by decide) k12 (by decide) rfl ?_
        refine A_iload hG 4 dX6_fillEmptyRuns_29 rfl ?_
        refine A_aload_n hG 1 dX6_fillEmptyRuns_31 rfl rfl ?_
        refine A_iload hG 5 dX6_fillEmptyRuns_32 rfl ?_
        refine C_Vi (as := [vI v]) (st := [vI (40 * (9 * 0 + 0)), .ref 13]) (k := gn) (c := 1) hG dX6_fillEmptyRuns_34 ml_X6_52 mf_X1_stateOf mi_X1_stateOf se_X1_stateOf rfl (by decide) (kg0 hg) (x_stateOf (hm h [(13, f)] [] []) hg (g := g) ((gX_li hg rfl).trans hgx) hOk (v := v) (by omega)) (by decide) (by decide) rfl rfl (Nat.le_of_ble_eq_true rfl) (fun z34 g34 ri_34 hp_34 => ?_)
        obtain ⟨ra_34, rb_34⟩ := ri_34
        obtain ⟨rfl, rfl⟩ := hp_34
        refine A_iadd hG dX6_fillEmptyRuns_37 ?_
        refine A_iload_n hG 2 dX6_fillEmptyRuns_38 rfl rfl ?_
        refine M_iast (li' := [(13, up f ((40 * (9 * 0 + 0)) + (4 * g 0 v + g 1 v)) ip)]) hG dX6_fillEmptyRuns_39 k13 n13 (by omega) (by constructor <;> omega) rfl ?_
        refine A_iinc (L' := [(5, vI (v + 1)), (0, .ref 12), (1, .ref gn), (2, vI ip), (3, vI n), (4, vI (40 * (9 * 0 + 0)))]) hG 5 dX6_fillEmptyRuns_40 rfl (by decide) rfl ?_
        refine A_goto hG 16 dX6_fillEmptyRuns_43 (by decide) ?_
        refine A_sub hG [1, 2, 3, 4, 5, 0] rfl ?_
        exact ih_w (v + 1) (up f ((40 * (9 * 0 + 0)) + (4 * g 0 v + g 1 v)) ip) (by omega) (fun i i0 i1 => by
            by_cases e : i = 40 * (9 * 0 + 0) + (4 * g 0 v + g 1 v)
            · rw [e, up_eq]; omega
            · rw [up_ne _ _ e]; exact hVf i i0 i1) (fun x x0 x1 => by
            by_cases e : 40 * (9 * 0 + 0) + (4 * g 0 x + g 1 x) = 40 * (9 * 0 + 0) + (4 * g 0 v + g 1 v)
            · rw [e, up_eq]; exact Int.le_refl _
            · rw [up_ne _ _ e]; refine hA x x0 ?_
              rcases (show x < v ∨ x = v by omega) with d | d
              · exact d
              · subst d; exact absurd rfl e) (fun U h1 h2 k k0 k1 => by
            by_cases e : k = 4 * g 0 v + g 1 v
            · rw [e, up_eq]; exact h2 v (by omega) (by omega)
            · rw [up_ne _ _ (by omega)]; exact hB U h1 h2 k k0 k1) (by omega)
  refine A_sub hG [2, 3, 4, 5, 1, 0] rfl ?_
  exact w_2 _ 0 f10 (by omega) (fun i i0 i1 => by
      by_cases e : i < 40
      · have := hI10 i i0 e
        rw [show (40 * (9 * 0 + 0) : Int) + i = i by omega] at this
        omega
      · rw [hO10 i (by omega)]; exact hV i i0 i1) (fun x x0 x1 => by omega) (fun U h1 _ k k0 k1 => by rw [hI10 k k0 k1]; exact h1 k k0 k1) (Nat.lt_succ_self _)

end
