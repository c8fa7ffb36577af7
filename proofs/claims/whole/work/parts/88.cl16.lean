/-! the class: bars (printed by gen) -/
section
set_option maxHeartbeats 2000000 in
set_option maxRecDepth 20000 in
theorem x_agreeingRules (h : AH) {gn : Nat} (hg : gn = 20 ∨ gn = 40) {g : Gm} (hgx : gX h gn = g) (hOk : okG g) : AMet yX0_agreeingRules cX0_agreeingRules 3 (some .int) 0 0 [.ref gn] h (Qi (fun z h' => agB g z ∧ h' = h)) := by
  have hR := hOk.2.1
  refine AMet.of (by decide) (Nat.le_of_ble_eq_true rfl) (fun G hM => ?_)
  have hG := hM.cx
  refine A_hm0 (G := G) (L := [(0, .ref gn)]) ?_
  refine A_iconst (n := 0) hG dX0_agreeingRules_0 ?_
  refine A_istore_n (L' := [(1, vI 0), (0, .ref gn)]) hG dX0_agreeingRules_1 rfl (by decide) rfl ?_
  refine A_iconst (n := 0) hG dX0_agreeingRules_2 ?_
  refine A_istore_n (L' := [(2, vI 0), (1, vI 0), (0, .ref gn)]) hG dX0_agreeingRules_3 rfl (by decide) rfl ?_
  have j_0 : ∀ fu : Nat, ∀ (x : Int) (j : Int), (0 ≤ j ∧ j ≤ g 10 1) → (ir x) → (∀ i, 0 ≤ i → i < 32 → (hasb x i ↔ i < j ∧ g 7 i = 1)) → ((25 - j).toNat) < fu → G 4 [(0, .ref gn), (1, vI x), (2, vI j)] [] (hm h [] [] []) := by
    intro fu
    induction fu with
    | zero => intro x j hj hxr hI hfu; exact absurd hfu (Nat.not_lt_zero _)
    | succ fu ih_j =>
      intro x j hj hxr hI hfu
      refine A_iload_n hG 2 dX0_agreeingRules_4 rfl rfl ?_
      refine A_aload_n hG 0 dX0_agreeingRules_5 rfl rfl ?_
      refine M_getI (z := 10) (v := g 10 1) hG dX0_agreeingRules_6 fl_X0_27 (by decide) (kg0 hg) rfl rfl ((gx_n hgx).2) (fun ⟨ra_6, rb_6⟩ => ?_)
      refine A_icmp_ge hG 33 dX0_agreeingRules_9 (by decide) (by constructor <;> omega) (by constructor <;> omega) (fun c_9 => ?_) (fun c_9 => ?_)
      ·
        refine A_iload_n hG 1 dX0_agreeingRules_33 rfl rfl ?_
        exact Ret_i hM dX0_agreeingRules_34 hxr (⟨agB_end hxr (by omega) (fun i i0 i1 => by rw [hI i i0 i1, show j = g 10 1 by omega]), rfl⟩)
      ·
        have hx := gx_r hgx (r := j) (by omega)
        have o := hOk.2.2.2.1 j (by omega) (by omega)
        refine A_aload_n hG 0 dX0_agreeingRules_12 rfl rfl ?_
        refine A_getR (r := (gn + 8)) hG dX0_agreeingRules_13 fl_X0_40 (by decide) (kg0 hg) (by decide) rfl ?_
        refine A_iload_n hG 2 dX0_agreeingRules_16 rfl rfl ?_
        refine M_zald (v := (g 7 j)) hG dX0_agreeingRules_17 (kg8 hg) (ng8 hg) (by omega) hx.2.2.2.1 (fun ⟨ra_17, rb_17⟩ => ?_)
        refine A_if_eq hG 27 dX0_agreeingRules_18 (by decide) (by constructor <;> omega) (fun c_18 => ?_) (fun c_18 => ?_)
        ·
          refine A_iinc (L' := [(2, vI (j + 1)), (0, .ref gn), (1, vI x)]) hG 2 dX0_agreeingRules_27 rfl (by decide) rfl ?_
          refine A_goto hG 4 dX0_agreeingRules_30 (by decide) ?_
          refine A_sub hG [1, 2, 0] rfl ?_
          exact ih_j x (j + 1) (by omega) hxr (fun i i0 i1 => by
              rw [hI i i0 i1]
              by_cases e : i = j
              · subst e; omega
              · omega) (by omega)
        ·
          refine A_iload_n hG 1 dX0_agreeingRules_21 rfl rfl ?_
          refine A_iconst (n := 1) hG dX0_agreeingRules_22 ?_
          refine A_iload_n hG 2 dX0_agreeingRules_23 rfl rfl ?_
          refine A_ishl hG dX0_agreeingRules_24 ?_
          refine A_ior hG dX0_agreeingRules_25 ?_
          refine A_istore_n (L' := [(1, vI (ior x (ishl 1 j))), (0, .ref gn), (2, vI j)]) hG dX0_agreeingRules_26 rfl (by decide) rfl ?_
          refine A_iinc (L' := [(2, vI (j + 1)), (1, vI (ior x (ishl 1 j))), (0, .ref gn)]) hG 2 dX0_agreeingRules_27 rfl (by decide) rfl ?_
          refine A_goto hG 4 dX0_agreeingRules_30 (by decide) ?_
          refine A_sub hG [2, 1, 0] rfl ?_
          exact ih_j (ior x (ishl 1 j)) (j + 1) (by omega) (irT _) (fun i i0 i1 => by
              rw [hasb_or ⟨i0, i1⟩, hI i i0 i1, hasb_one (by omega) ⟨i0, i1⟩]
              by_cases e : i = j
              · subst e; omega
              · omega) (by omega)
  refine A_sub hG [2, 1, 0] rfl ?_
  exact j_0 _ 0 0 (by omega) (by constructor <;> omega) (fun i i0 i1 => ⟨fun q => absurd q (hasb_0' ⟨i0, i1⟩), fun q => by omega⟩) (Nat.lt_succ_self _)

set_option maxHeartbeats 2000000 in
set_option maxRecDepth 20000 in
theorem x_addSet (h : AH) {v k : Int} {e st : Int → Int} (he : h.1 17 = e) (hst : h.1 18 = st) (hk : e 1 = k) (hn : 0 ≤ k ∧ k < 64) (hv : ir v) : AMet yX0_addSet cX0_addSet 2 none 0 0 [.ref 17, vI v] h (Qv (fun h' => h' = hm h [(18, up st k v), (17, up e 1 (k + 1))] [] [])) := by
  subst he
  subst hst
  subst hk
  refine AMet.of (by decide) (Nat.le_of_ble_eq_true rfl) (fun G hM => ?_)
  have hG := hM.cx
  refine A_hm0 (G := G) (L := [(0, .ref 17), (1, vI v)]) ?_
  refine A_aload_n hG 0 dX0_addSet_0 rfl rfl ?_
  refine M_getI (z := 1) (v := h.1 17 1) hG dX0_addSet_1 fl_X0_15 (by decide) k17 rfl rfl rfl (fun ⟨ra_1, rb_1⟩ => ?_)
  refine A_bipush (n := 64) hG dX0_addSet_4 (by decide) ?_
  refine A_icmp_ge hG 29 dX0_addSet_6 (by decide) (by constructor <;> omega) (by constructor <;> omega) (fun c_6 => ?_) (fun c_6 => ?_)
  ·
    exfalso; omega
  ·
    refine A_aload_n hG 0 dX0_addSet_9 rfl rfl ?_
    refine A_getR (r := 18) hG dX0_addSet_10 fl_X0_9 (by decide) k17 (by decide) rfl ?_
    refine A_aload_n hG 0 dX0_addSet_13 rfl rfl ?_
    refine M_getI (z := 1) (v := h.1 17 1) hG dX0_addSet_14 fl_X0_15 (by decide) k17 rfl rfl rfl (fun ⟨ra_14, rb_14⟩ => ?_)
    refine A_iload_n hG 1 dX0_addSet_17 rfl rfl ?_
    refine M_iast (li' := [(18, up (h.1 18) (h.1 17 1) v)]) hG dX0_addSet_18 k18 n18 (by omega) hv rfl ?_
    refine A_aload_n hG 0 dX0_addSet_19 rfl rfl ?_
    refine A_dup hG dX0_addSet_20 rfl ?_
    refine M_getI (z := 1) (v := h.1 17 1) hG dX0_addSet_21 fl_X0_15 (by decide) k17 rfl rfl rfl (fun ⟨ra_21, rb_21⟩ => ?_)
    refine A_iconst (n := 1) hG dX0_addSet_24 ?_
    refine A_iadd hG dX0_addSet_25 ?_
    refine M_putI (z := 1) (li' := [(18, up (h.1 18) (h.1 17 1) v), (17, up (h.1 17) 1 ((h.1 17 1) + 1))]) hG dX0_addSet_26 fl_X0_15 (by decide) k17 nf_0_1 rfl rfl (by constructor <;> omega) (Or.inl rfl) rfl ?_
    exact Ret_v hM dX0_addSet_29 rfl

set_option maxHeartbeats 2000000 in
set_option maxRecDepth 20000 in
theorem x_nextSet (h : AH) (x : Int) : AMet yX0_nextSet cX0_nextSet 3 (some .int) 1 20 [vI x] h (Qi (fun z h' => z = nxS x ∧ h' = h)) := by
  refine AMet.of (by decide) (Nat.le_of_ble_eq_true rfl) (fun G hM => ?_)
  have hG := hM.cx
  refine A_hm0 (G := G) (L := [(0, vI x)]) ?_
  refine A_iload_n hG 0 dX0_nextSet_0 rfl rfl ?_
  refine A_iload_n hG 0 dX0_nextSet_1 rfl rfl ?_
  refine A_ineg hG dX0_nextSet_2 ?_
  refine A_iand hG dX0_nextSet_3 ?_
  refine A_istore_n (L' := [(1, vI (iand x (-x))), (0, vI x)]) hG dX0_nextSet_4 rfl (by decide) rfl ?_
  refine A_iload_n hG 1 dX0_nextSet_5 rfl rfl ?_
  refine A_iload_n hG 0 dX0_nextSet_6 rfl rfl ?_
  refine A_iadd hG dX0_nextSet_7 ?_
  refine A_istore_n (L' := [(2, vI (x + (iand x (-x)))), (1, vI (iand x (-x))), (0, vI x)]) hG dX0_nextSet_8 rfl (by decide) rfl ?_
  refine A_iload_n hG 0 dX0_nextSet_9 rfl rfl ?_
  refine A_iload_n hG 2 dX0_nextSet_10 rfl rfl ?_
  refine A_iload_n hG 0 dX0_nextSet_11 rfl rfl ?_
  refine A_ixor hG dX0_nextSet_12 ?_
  refine A_iconst (n := 2) hG dX0_nextSet_13 ?_
  refine A_iload_n hG 1 dX0_nextSet_14 rfl rfl ?_
  refine A_iconst (n := 1) hG dX0_nextSet_15 ?_
  refine A_isub hG dX0_nextSet_16 ?_
  refine C_Si (as := [vI ((iand x (-x)) - 1)]) (st := [vI 2, vI (ixor x (x + (iand x (-x)))), vI (x + (iand x (-x)))]) hG dX0_nextSet_17 ml_X0_54 mf_J6_bitCount_0f7a4 ms_J6_bitCount_0f7a4 (j_bitI (hm h [] [] []) ((iand x (-x)) - 1)) (by decide) (by decide) rfl rfl (Nat.le_of_ble_eq_true rfl) (fun z17 g17 ri_17 hp_17 => ?_)
  obtain ⟨ra_17, rb_17⟩ := ri_17
  obtain ⟨hz17, rfl⟩ := hp_17
  refine A_iadd hG dX0_nextSet_20 ?_
  refine A_iushr hG dX0_nextSet_21 ?_
  refine A_ior hG dX0_nextSet_22 ?_
  exact Ret_i hM dX0_nextSet_23 (irT _) (⟨by unfold nxS low; rw [hz17], rfl⟩)

set_option maxHeartbeats 2000000 in
set_option maxRecDepth 20000 in
theorem x_freeingLanes (h : AH) {gn : Nat} (hg : gn = 20 ∨ gn = 40) {g : Gm} (hgx : gX h gn = g) {r : Nat} (hr : 100 ≤ r ∧ r < 212) (hOk : okG g) {n cnt : Int} {w st : Int → Int} (hwr : rowX h r n w) (hW : okW g w n) (hn1 : 1 ≤ n) (hcnt : h.1 17 1 = cnt) (hcn : 0 ≤ cnt ∧ cnt ≤ 64) (hst : h.1 18 = st) : AMet yX0_freeingLanes cX0_freeingLanes 6 (some .long) 3 85 [.ref 17, .ref gn, .ref r, .ref 14] h (Ql (fun z h' => ∃ f e : Int → Int64, (∀ x, 0 ≤ x → x < cnt → (bitL z x ↔ READ g (hasb (st x)) w n)) ∧ h' = hm h [] [(16, e), (15, f)] [])) := by
  subst hst
  have hR24 := hOk.2.1
  have hn8 := hW.1
  refine AMet.of (by decide) (Nat.le_of_ble_eq_true rfl) (fun G hM => ?_)
  have hG := hM.cx
  refine A_hm0 (G := G) (L := [(0, .ref 17), (1, .ref gn), (2, .ref r), (3, .ref 14)]) ?_
  refine A_aload_n hG 3 dX0_freeingLanes_0 rfl rfl ?_
  refine C_Vv (as := []) (st := []) (k := 14) (c := 4) hG dX0_freeingLanes_1 ml_X0_58 mf_X4_restart mi_X4_restart se_X4_restart rfl (by decide) k14 (x_lrestart (hm h [] [] [])) (by decide) (by decide) rfl rfl (Nat.le_of_ble_eq_true rfl) (fun g1 hp_1 => ?_)
  have hq_1 : ∃ fx fy : Int → Int64, ((∀ j, 0 ≤ j → j < 2560 → fx j = i2l 0) ∧ ∀ j, 0 ≤ j → j < 24 → fy j = i2l 0) ∧ g1 = hm (hm h [] [] []) [] [(15, fx), (16, fy)] [] := hp_1
  clear hp_1
  obtain ⟨f1, e1, ⟨hf1, he1⟩, rfl⟩ := hq_1
  refine A_hm (la := []) (lb := [(16, e1), (15, f1)]) (lc := []) rfl rfl rfl ?_
  refine A_iconst (n := 0) hG dX0_freeingLanes_4 ?_
  refine A_istore (L' := [(4, vI 0), (0, .ref 17), (1, .ref gn), (2, .ref r), (3, .ref 14)]) hG dX0_freeingLanes_5 (by decide) rfl ?_
  have l_1 : ∀ fu : Nat, ∀ (l : Int) (f : Int → Int64) (e : Int → Int64), (0 ≤ l ∧ l ≤ cnt) → (∀ n' f', 1 ≤ n' → 0 ≤ f' → f' + n' ≤ 8 → ∀ k m, 0 ≤ k → k ≤ 9 → 0 ≤ m → m < 4 → ∀ x, 0 ≤ x → x < 64 → (bitL (f (40 * (8 * f' + n' - 1) + (4 * k + m))) x ↔ n' = 1 ∧ x < l ∧ f' < n ∧ g 0 (w f') = k ∧ g 1 (w f') = m)) → (∀ q x, 0 ≤ q → q < 24 → 0 ≤ x → x < 64 → (bitL (e q) x ↔ q < g 10 1 ∧ x < l ∧ hasb (h.1 18 x) q)) → ((65 - l).toNat) < fu → G 7 [(0, .ref 17), (1, .ref gn), (2, .ref r), (3, .ref 14), (4, vI l)] [] (hm h [] [(16, e), (15, f)] []) := by
    intro fu
    induction fu with
    | zero => intro l f e hl hI hE hfu; exact absurd hfu (Nat.not_lt_zero _)
    | succ fu ih_l =>
      intro l f e hl hI hE hfu
      refine A_iload hG 4 dX0_freeingLanes_7 rfl ?_
      refine A_aload_n hG 0 dX0_freeingLanes_9 rfl rfl ?_
      refine M_getI (z := 1) (v := cnt) hG dX0_freeingLanes_10 fl_X0_15 (by decide) k17 rfl rfl hcnt (fun ⟨ra_10, rb_10⟩ => ?_)
      refine A_icmp_ge hG 75 dX0_freeingLanes_13 (by decide) (by constructor <;> omega) (by constructor <;> omega) (fun c_13 => ?_) (fun c_13 => ?_)
      ·
        refine A_aload_n hG 3 dX0_freeingLanes_75 rfl rfl ?_
        refine A_aload_n hG 1 dX0_freeingLanes_76 rfl rfl ?_
        refine A_aload_n hG 2 dX0_freeingLanes_77 rfl rfl ?_
        refine M_getI (z := 1) (v := n) hG dX0_freeingLanes_78 fl_X0_75 (by decide) (obk_row hr) rfl rfl hwr.1 (fun ⟨ra_78, rb_78⟩ => ?_)
        refine C_Uv (as := [.ref gn, vI n]) (st := []) (k := 14) (c := 4) (owner := RX8) (x := ⟨RX4, yX8_joinAll.name, yX8_joinAll.desc⟩) (y := yX8_joinAll) hG dX0_freeingLanes_81 lw_X0_78 sm_X4_X8_joinAll de_X8_joinAll (by decide) rfl mf_X8_joinAll mi_X8_joinAll su_X4_X8_joinAll rfl (by decide) k14 (x_joinAll14 (hm h [] [(16, e), (15, f)] []) hg (g := g) hgx hOk (N := n) (W := (fun _ => w)) (Ls := (fun x => x < cnt)) (by omega) (fun x x0 x1 hx n' f' h1 h2 h3 k m k0 k1 m0 m1 => by
            have hx : x < cnt := hx
            refine (hI n' f' h1 h2 (by omega) k m k0 k1 m0 m1 x x0 x1).trans ?_
            constructor
            · rintro ⟨rfl, a2, a3, a4, a5⟩
              exact ⟨rfl, (rd_1 _ _ _).mpr ⟨a4, a5⟩⟩
            · rintro ⟨rfl, q⟩
              have := (rd_1 _ _ _).mp q
              exact ⟨rfl, by omega, by omega, this.1, this.2⟩)) (by decide) (by decide) rfl rfl (Nat.le_of_ble_eq_true rfl) (fun g81 hp_81 => ?_)
        have hq_81 : ∃ fx : Int → Int64, (∀ x, 0 ≤ x → x < 64 → (fun x => x < cnt) x → ∀ n' f', 1 ≤ n' → 0 ≤ f' → f' + n' ≤ n → ∀ k m, 0 ≤ k → k ≤ 9 → 0 ≤ m → m < 4 → (bitL (fx (40 * (8 * f' + n' - 1) + (4 * k + m))) x ↔ rd g (fun q => bitL (e q) x) ((fun _ => w) x) n' f' k m)) ∧ g81 = hm (hm h [] [(16, e), (15, f)] []) [] [(15, fx)] [] := hp_81
        clear hp_81
        obtain ⟨f81, hf81, rfl⟩ := hq_81
        refine A_hm (la := []) (lb := [(16, e), (15, f81)]) (lc := []) rfl rfl rfl ?_
        refine A_aload_n hG 3 dX0_freeingLanes_84 rfl rfl ?_
        refine A_aload_n hG 2 dX0_freeingLanes_85 rfl rfl ?_
        refine M_getI (z := 1) (v := n) hG dX0_freeingLanes_86 fl_X0_75 (by decide) (obk_row hr) rfl rfl hwr.1 (fun ⟨ra_86, rb_86⟩ => ?_)
        refine C_Vl (as := [vI n]) (st := []) (k := 14) (c := 4) hG dX0_freeingLanes_89 ml_X0_82 mf_X4_readLanes mi_X4_readLanes se_X4_readLanes rfl (by decide) k14 (x_readLanes (hm h [] [(16, e), (15, f81)] []) (n := n) (by omega)) (by decide) (by decide) rfl rfl (Nat.le_of_ble_eq_true rfl) (fun z89 g89 hp_89 => ?_)
        have hq_89 : (∀ x, bitL z89 x ↔ ∃ q, 0 ≤ q ∧ q < 4 ∧ bitL (f81 (40 * (n - 1) + q)) x) ∧ g89 = hm h [] [(16, e), (15, f81)] [] := hp_89
        clear hp_89
        obtain ⟨hz89, rfl⟩ := hq_89
        exact Ret_l hM dX0_freeingLanes_92 (⟨f81, e, fun x x0 x1 => by
            rw [hz89 x]
            have ee : READ g (hasb (h.1 18 x)) w n ↔ READ g (fun q => bitL (e q) x) w n := READ_congr (fun r r0 r1 => by rw [hE r x r0 (by omega) x0 (by omega)]; exact ⟨fun q => ⟨r1, by omega, q⟩, fun q => q.2.2⟩) (by omega) (fun _ _ _ => rfl)
            rw [ee]
            unfold READ
            constructor
            · rintro ⟨q, q0, q1, q2⟩
              refine ⟨q, q0, q1, (hf81 x x0 (by omega) x1 n 0 (by omega) (by omega) (by omega) 0 q (by omega) (by omega) q0 q1).mp ?_⟩
              rw [show 40 * (8 * 0 + n - 1) + (4 * 0 + q) = 40 * (n - 1) + q by omega]; exact q2
            · rintro ⟨q, q0, q1, q2⟩
              refine ⟨q, q0, q1, ?_⟩
              have := (hf81 x x0 (by omega) x1 n 0 (by omega) (by omega) (by omega) 0 q (by omega) (by omega) q0 q1).mpr q2
              rw [show 40 * (8 * 0 + n - 1) + (4 * 0 + q) = 40 * (n - 1) + q by omega] at this; exact this, rfl⟩)
      ·
        refine A_aload_n hG 3 dX0_freeingLanes_16 rfl rfl ?_
        refine A_aload_n hG 1 dX0_freeingLanes_17 rfl rfl ?_
        refine A_aload_n hG 2 dX0_freeingLanes_18 rfl rfl ?_
        refine A_lconst (v := i2l 1) hG dX0_freeingLanes_19 (by decide) ?_
        refine A_iload hG 4 dX0_freeingLanes_20 rfl ?_
        refine A_lshl hG dX0_freeingLanes_22 ?_
        refine C_Vv (as := [.ref gn, .ref r, .long (lshl (i2l 1) l)]) (st := []) (k := 14) (c := 4) hG dX0_freeingLanes_23 ml_X0_63 mf_X4_putRow mi_X4_putRow se_X4_putRow rfl (by decide) k14 (x_putRow (hm h [] [(16, e), (15, f)] []) hg (g := g) hgx hr hOk (n := n) (w := w) hwr hW (lshl (i2l 1) l)) (by decide) (by decide) rfl rfl (Nat.le_of_ble_eq_true rfl) (fun g23 hp_23 => ?_)
        have hq_23 : ∃ fx : Int → Int64, (∀ n' f', 1 ≤ n' → 0 ≤ f' → f' + n' ≤ 8 → ∀ k m, 0 ≤ k → k ≤ 9 → 0 ≤ m → m < 4 → ∀ x, 0 ≤ x → x < 64 → (bitL (fx (40 * (8 * f' + n' - 1) + (4 * k + m))) x ↔ bitL (f (40 * (8 * f' + n' - 1) + (4 * k + m))) x ∨ (n' = 1 ∧ f' < n ∧ g 0 (w f') = k ∧ g 1 (w f') = m ∧ bitL (lshl (i2l 1) l) x))) ∧ g23 = hm (hm h [] [(16, e), (15, f)] []) [] [(15, fx)] [] := hp_23
        clear hp_23
        obtain ⟨f23, hf23, rfl⟩ := hq_23
        refine A_hm (la := []) (lb := [(16, e), (15, f23)]) (lc := []) rfl rfl rfl ?_
        refine A_iconst (n := 0) hG dX0_freeingLanes_26 ?_
        refine A_istore (L' := [(5, vI 0), (0, .ref 17), (1, .ref gn), (2, .ref r), (3, .ref 14), (4, vI l)]) hG dX0_freeingLanes_27 (by decide) rfl ?_
        have j_5 : ∀ fu : Nat, ∀ (j : Int) (e : Int → Int64), (0 ≤ j ∧ j ≤ g 10 1) → (∀ q x, 0 ≤ q → q < 24 → 0 ≤ x → x < 64 → (bitL (e q) x ↔ (q < g 10 1 ∧ x < l ∧ hasb (h.1 18 x) q) ∨ (q < j ∧ x = l ∧ hasb (h.1 18 l) q))) → ((25 - j).toNat) < fu → G 29 [(0, .ref 17), (1, .ref gn), (2, .ref r), (3, .ref 14), (4, vI l), (5, vI j)] [] (hm h [] [(16, e), (15, f23)] []) := by
          intro fu
          induction fu with
          | zero => intro j e hj hE hfu; exact absurd hfu (Nat.not_lt_zero _)
          | succ fu ih_j =>
            intro j e hj hE hfu
            refine A_iload hG 5 dX0_freeingLanes_29 rfl ?_
            refine A_aload_n hG 1 dX0_freeingLanes_31 rfl rfl ?_
            refine M_getI (z := 10) (v := g 10 1) hG dX0_freeingLanes_32 fl_X0_27 (by decide) (kg0 hg) rfl rfl ((gx_n hgx).2) (fun ⟨ra_32, rb_32⟩ => ?_)
            refine A_icmp_ge hG 69 dX0_freeingLanes_35 (by decide) (by constructor <;> omega) (by constructor <;> omega) (fun c_35 => ?_) (fun c_35 => ?_)
            ·
              refine A_iinc (L' := [(4, vI (l + 1)), (0, .ref 17), (1, .ref gn), (2, .ref r), (3, .ref 14), (5, vI j)]) hG 4 dX0_freeingLanes_69 rfl (by decide) rfl ?_
              refine A_goto hG 7 dX0_freeingLanes_72 (by decide) ?_
              refine A_sub hG [1, 2, 3, 4, 0] rfl ?_
              exact ih_l (l + 1) f23 e (by omega) (fun n' f' h1 h2 h3 k m k0 k1 m0 m1 x x0 x1 => by
                  rw [hf23 n' f' h1 h2 h3 k m k0 k1 m0 m1 x x0 x1, hI n' f' h1 h2 h3 k m k0 k1 m0 m1 x x0 x1, bitL_one (by omega) ⟨x0, x1⟩]
                  constructor
                  · rintro (⟨a1, a2, a3, a4, a5⟩ | ⟨a1, a2, a3, a4, rfl⟩)
                    · exact ⟨a1, by omega, a3, a4, a5⟩
                    · exact ⟨a1, by omega, a2, a3, a4⟩
                  · rintro ⟨a1, a2, a3, a4, a5⟩
                    by_cases e : x = l
                    · subst e; exact Or.inr ⟨a1, a3, a4, a5, rfl⟩
                    · exact Or.inl ⟨a1, by omega, a3, a4, a5⟩) (fun q x q0 q1 x0 x1 => by
                  rw [hE q x q0 q1 x0 x1]
                  constructor
                  · rintro (⟨a1, a2, a3⟩ | ⟨a1, rfl, a3⟩)
                    · exact ⟨a1, by omega, a3⟩
                    · exact ⟨by omega, by omega, a3⟩
                  · rintro ⟨a1, a2, a3⟩
                    by_cases d : x = l
                    · subst d; exact Or.inr ⟨by omega, rfl, a3⟩
                    · exact Or.inl ⟨a1, by omega, a3⟩) (by omega)
            ·
              refine A_aload_n hG 0 dX0_freeingLanes_38 rfl rfl ?_
              refine A_getR (r := 18) hG dX0_freeingLanes_39 fl_X0_9 (by decide) k17 (by decide) rfl ?_
              refine A_iload hG 4 dX0_freeingLanes_42 rfl ?_
              refine M_iald (v := h.1 18 l) hG dX0_freeingLanes_44 k18 n18 (by omega) rfl (fun ⟨ra_44, rb_44⟩ => ?_)
              refine A_iload hG 5 dX0_freeingLanes_45 rfl ?_
              refine C_Si (as := [vI (h.1 18 l), vI j]) (st := []) hG dX0_freeingLanes_47 ml_X0_67 mf_X11_hasBit ms_X11_hasBit (x_hasBit (hm h [] [(16, e), (15, f23)] []) (h.1 18 l) j) (by decide) (by decide) rfl rfl (Nat.le_of_ble_eq_true rfl) (fun z47 g47 ri_47 hp_47 => ?_)
              obtain ⟨ra_47, rb_47⟩ := ri_47
              obtain ⟨hz47, rfl⟩ := hp_47
              refine A_if_eq hG 63 dX0_freeingLanes_50 (by decide) (by constructor <;> omega) (fun c_50 => ?_) (fun c_50 => ?_)
              ·
                refine A_iinc (L' := [(5, vI (j + 1)), (0, .ref 17), (1, .ref gn), (2, .ref r), (3, .ref 14), (4, vI l)]) hG 5 dX0_freeingLanes_63 rfl (by decide) rfl ?_
                refine A_goto hG 29 dX0_freeingLanes_66 (by decide) ?_
                refine A_sub hG [1, 2, 3, 4, 5, 0] rfl ?_
                exact ih_j (j + 1) e (by omega) (fun q x q0 q1 x0 x1 => by
                    rw [hE q x q0 q1 x0 x1]
                    refine or_congr Iff.rfl ⟨fun d => ⟨by omega, d.2⟩, fun d => ⟨?_, d.2⟩⟩
                    by_cases dd : q = j
                    · subst dd; exact absurd d.2.2 (has_no hz47 c_50)
                    · omega) (by omega)
              ·
                refine A_aload_n hG 3 dX0_freeingLanes_53 rfl rfl ?_
                refine A_iload hG 5 dX0_freeingLanes_54 rfl ?_
                refine A_lconst (v := i2l 1) hG dX0_freeingLanes_56 (by decide) ?_
                refine A_iload hG 4 dX0_freeingLanes_57 rfl ?_
                refine A_lshl hG dX0_freeingLanes_59 ?_
                refine C_Vv (as := [vI j, .long (lshl (i2l 1) l)]) (st := []) (k := 14) (c := 4) hG dX0_freeingLanes_60 ml_X0_71 mf_X4_freeRule mi_X4_freeRule se_X4_freeRule rfl (by decide) k14 (x_freeRule (hm h [] [(16, e), (15, f23)] []) (r := j) (lshl (i2l 1) l) (by omega)) (by decide) (by decide) rfl rfl (Nat.le_of_ble_eq_true rfl) (fun g60 hp_60 => ?_)
                have hq_60 : g60 = hm (hm h [] [(16, e), (15, f23)] []) [] [(16, up e j (e j ||| (lshl (i2l 1) l)))] [] := hp_60
                clear hp_60
                subst hq_60
                refine A_hm (la := []) (lb := [(16, up e j (e j ||| (lshl (i2l 1) l))), (15, f23)]) (lc := []) rfl rfl rfl ?_
                refine A_iinc (L' := [(5, vI (j + 1)), (0, .ref 17), (1, .ref gn), (2, .ref r), (3, .ref 14), (4, vI l)]) hG 5 dX0_freeingLanes_63 rfl (by decide) rfl ?_
                refine A_goto hG 29 dX0_freeingLanes_66 (by decide) ?_
                refine A_sub hG [1, 2, 3, 4, 5, 0] rfl ?_
                exact ih_j (j + 1) (up e j (e j ||| (lshl (i2l 1) l))) (by omega) (fun q x q0 q1 x0 x1 => by
                    by_cases dd : q = j
                    · subst dd
                      rw [up_eq, bitL_or, hE q x q0 q1 x0 x1, bitL_one (by omega) ⟨x0, x1⟩]
                      constructor
                      · rintro ((a | a) | rfl)
                        · exact Or.inl a
                        · omega
                        · exact Or.inr ⟨by omega, rfl, has_yes hz47 c_50⟩
                      · rintro (a | a)
                        · exact Or.inl (Or.inl a)
                        · exact Or.inr a.2.1
                    · rw [up_ne _ _ dd, hE q x q0 q1 x0 x1]
                      exact or_congr Iff.rfl ⟨fun d => ⟨by omega, d.2⟩, fun d => ⟨by omega, d.2⟩⟩) (by omega)
        refine A_sub hG [1, 2, 3, 4, 5, 0] rfl ?_
        exact j_5 _ 0 e (by omega) (fun q x q0 q1 x0 x1 => by
            rw [hE q x q0 q1 x0 x1]
            exact ⟨Or.inl, fun q => q.elim id (fun q => by omega)⟩) (Nat.lt_succ_self _)
  refine A_sub hG [1, 2, 3, 4, 0] rfl ?_
  exact l_1 _ 0 f1 e1 (by omega) (fun n' f' h1 h2 h3 k m k0 k1 m0 m1 x x0 x1 => by
      rw [hf1 _ (by omega) (by omega)]
      exact ⟨fun q => absurd q (bitL_0 x), fun q => by omega⟩) (fun q x q0 q1 x0 x1 => by
      rw [he1 q q0 q1]
      exact ⟨fun q => absurd q (bitL_0 x), fun q => by omega⟩) (Nat.lt_succ_self _)

theorem l2i_hasb (x : Int64) {q : Int} (hq : 0 ≤ q ∧ q < 32) : hasb (l2i x) q ↔ bitL x q := by
  rw [hasb_bv hq]
  unfold l2i bitL
  rw [Int32.ofInt_toInt]
  show (BitVec.signExtend 32 x.toBitVec).getLsbD q.toNat = true ↔ _
  rw [BitVec.getLsbD_signExtend]
  have h1 : q.toNat < 32 := by omega
  have h2 : q.toNat < 64 := by omega
  simp [h1, h2]
set_option maxHeartbeats 2000000 in
set_option maxRecDepth 20000 in
theorem x_singleRules (h : AH) {gn : Nat} (hg : gn = 20 ∨ gn = 40) {g : Gm} (hgx : gX h gn = g) {r : Nat} (hr : 100 ≤ r ∧ r < 212) (hOk : okG g) {n : Int} {w : Int → Int} (hwr : rowX h r n w) (hW : okW g w n) (hn1 : 1 ≤ n) : AMet yX0_singleRules cX0_singleRules 5 (some .int) 4 110 [.ref 17, .ref gn, .ref r, .ref 14] h (Qi (fun z h' => ∃ (e st : Int → Int) (f f' : Int → Int64), (∀ q, 0 ≤ q → q < g 10 1 → (hasb z q ↔ READ g (hasb (ishl 1 q)) w n)) ∧ h' = hm h [(17, e), (18, st)] [(15, f), (16, f')] [])) := by
  have hR24 := hOk.2.1
  refine AMet.of (by decide) (Nat.le_of_ble_eq_true rfl) (fun G hM => ?_)
  have hG := hM.cx
  refine A_hm0 (G := G) (L := [(0, .ref 17), (1, .ref gn), (2, .ref r), (3, .ref 14)]) ?_
  refine A_aload_n hG 0 dX0_singleRules_0 rfl rfl ?_
  refine A_iconst (n := 0) hG dX0_singleRules_1 ?_
  refine M_putI (z := 1) (li' := [(17, up (h.1 17) 1 0)]) hG dX0_singleRules_2 fl_X0_15 (by decide) k17 nf_0_1 rfl rfl (by constructor <;> omega) (Or.inl rfl) rfl ?_
  refine A_iconst (n := 0) hG dX0_singleRules_5 ?_
  refine A_istore (L' := [(4, vI 0), (0, .ref 17), (1, .ref gn), (2, .ref r), (3, .ref 14)]) hG dX0_singleRules_6 (by decide) rfl ?_
  refine A_insI 18 (li' := [(17, up (h.1 17) 1 0), (18, h.1 18)]) rfl ?_
  have j_0 : ∀ fu : Nat, ∀ (j : Int) (e : Int → Int) (st : Int → Int), (0 ≤ j ∧ j ≤ g 10 1) → (e 1 = j) → (∀ i, 0 ≤ i → i < j → st i = ishl 1 i) → ((25 - j).toNat) < fu → G 8 [(0, .ref 17), (1, .ref gn), (2, .ref r), (3, .ref 14), (4, vI j)] [] (hm h [(17, e), (18, st)] [] []) := by
    intro fu
    induction fu with
    | zero => intro j e st hj hk hs hfu; exact absurd hfu (Nat.not_lt_zero _)
    | succ fu ih_j =>
      intro j e st hj hk hs hfu
      refine A_iload hG 4 dX0_singleRules_8 rfl ?_
      refine A_aload_n hG 1 dX0_singleRules_10 rfl rfl ?_
      refine M_getI (z := 10) (v := g 10 1) hG dX0_singleRules_11 fl_X0_27 (by decide) (kg0 hg) rfl rfl ((congrFun (show alk [(17, e), (18, st)] gn (h.1 gn) = h.1 gn from (by simp (disch := omega) only [alk, if_neg, if_pos, ite_true])) 10).trans ((gx_n hgx).2)) (fun ⟨ra_11, rb_11⟩ => ?_)
      refine A_icmp_ge hG 31 dX0_singleRules_14 (by decide) (by constructor <;> omega) (by constructor <;> omega) (fun c_14 => ?_) (fun c_14 => ?_)
      ·
        refine A_aload_n hG 0 dX0_singleRules_31 rfl rfl ?_
        refine A_aload_n hG 1 dX0_singleRules_32 rfl rfl ?_
        refine A_aload_n hG 2 dX0_singleRules_33 rfl rfl ?_
        refine A_aload_n hG 3 dX0_singleRules_34 rfl rfl ?_
        refine C_Vl (as := [.ref gn, .ref r, .ref 14]) (st := []) (k := 17) (c := 0) hG dX0_singleRules_35 ml_X0_36 mf_X0_freeingLanes mi_X0_freeingLanes se_X0_freeingLanes rfl (by decide) k17 (x_freeingLanes (hm h [(17, e), (18, st)] [] []) hg (g := g) ((gX_li hg rfl).trans hgx) hr hOk (n := n) (cnt := j) (w := w) (st := st) (rowX_eq (by simp (disch := omega) only [hm, alk, if_neg, if_pos, ite_true]) (by simp (disch := omega) only [hm, alk, if_neg, if_pos, ite_true]) hwr) hW hn1 hk (by omega) rfl) (by decide) (by decide) rfl rfl (Nat.le_of_ble_eq_true rfl) (fun z35 g35 hp_35 => ?_)
        have hq_35 : ∃ fx ex : Int → Int64, (∀ x, 0 ≤ x → x < j → (bitL z35 x ↔ READ g (hasb (st x)) w n)) ∧ g35 = hm (hm h [(17, e), (18, st)] [] []) [] [(16, ex), (15, fx)] [] := hp_35
        clear hp_35
        obtain ⟨f35, e35, hz35, rfl⟩ := hq_35
        refine A_hm (la := [(17, e), (18, st)]) (lb := [(15, f35), (16, e35)]) (lc := []) rfl rfl rfl ?_
        refine A_l2i hG dX0_singleRules_38 ?_
        exact Ret_i hM dX0_singleRules_39 (irT _) (⟨e, st, f35, e35, fun q q0 q1 => by rw [l2i_hasb _ (by omega), hz35 q q0 (by omega), hs q q0 (by omega)], rfl⟩)
      ·
        refine A_aload_n hG 0 dX0_singleRules_17 rfl rfl ?_
        refine A_iconst (n := 1) hG dX0_singleRules_18 ?_
        refine A_iload hG 4 dX0_singleRules_19 rfl ?_
        refine A_ishl hG dX0_singleRules_21 ?_
        refine C_Vv (as := [vI (ishl 1 j)]) (st := []) (k := 17) (c := 0) hG dX0_singleRules_22 ml_X0_32 mf_X0_addSet mi_X0_addSet se_X0_addSet rfl (by decide) k17 (x_addSet (hm h [(17, e), (18, st)] [] []) (v := (ishl 1 j)) (k := j) (e := e) (st := st) rfl rfl hk (by omega) (irT _)) (by decide) (by decide) rfl rfl (Nat.le_of_ble_eq_true rfl) (fun g22 hp_22 => ?_)
        subst hp_22
        refine A_hm (la := [(17, up e 1 (j + 1)), (18, up st j (ishl 1 j))]) (lb := []) (lc := []) rfl rfl rfl ?_
        refine A_iinc (L' := [(4, vI (j + 1)), (0, .ref 17), (1, .ref gn), (2, .ref r), (3, .ref 14)]) hG 4 dX0_singleRules_25 rfl (by decide) rfl ?_
        refine A_goto hG 8 dX0_singleRules_28 (by decide) ?_
        refine A_sub hG [1, 2, 3, 4, 0] rfl ?_
        exact ih_j (j + 1) (up e 1 (j + 1)) (up st j (ishl 1 j)) (by omega) (up_eq _ _ _) (fun i i0 i1 => by
            by_cases d : i = j
            · rw [d, up_eq]
            · rw [up_ne _ _ d]; exact hs i i0 (by omega)) (by omega)
  refine A_sub hG [1, 2, 3, 4, 0] rfl ?_
  exact j_0 _ 0 (up (h.1 17) 1 0) (h.1 18) (by omega) (up_eq _ _ _) (fun i i0 i1 => by omega) (Nat.lt_succ_self _)

theorem fo_i {m : Int} (hm : 1 ≤ m ∧ m ≤ 3) : 0 < (ishl 1 m) - 1 ∧ (ishl 1 m) - 1 ≤ 67108864 := by
  rcases (show m = 1 ∨ m = 2 ∨ m = 3 by omega) with rfl | rfl | rfl <;> decide
theorem fo_x {m : Int} (hm : 1 ≤ m ∧ m ≤ 3) : (ishl 1 m) - 1 ≤ 2 ^ m.toNat - 1 := by
  rcases (show m = 1 ∨ m = 2 ∨ m = 3 by omega) with rfl | rfl | rfl <;> decide
theorem fo_v {m : Int} (hm : 1 ≤ m ∧ m ≤ 3) : ∃ a b c, vs m a b c ∧ (ishl 1 m) - 1 = sOf m a b c ∧ 0 = rk m a b c := by
  rcases (show m = 1 ∨ m = 2 ∨ m = 3 by omega) with rfl | rfl | rfl
  · exact ⟨0, 23, 23, ⟨by omega, fun _ => by omega, fun _ => rfl, fun _ => by omega, fun _ => rfl⟩, by decide, by decide⟩
  · exact ⟨0, 1, 23, ⟨by omega, fun _ => by omega, fun _ => by omega, fun _ => by omega, fun _ => rfl⟩, by decide, by decide⟩
  · exact ⟨0, 1, 2, ⟨by omega, fun _ => by omega, fun _ => by omega, fun _ => by omega, fun _ => by omega⟩, by decide, by decide⟩
def vX (m x t ag : Int) : Prop := (∃ a b c, vs m a b c ∧ x = sOf m a b c ∧ t = rk m a b c) ∨ ag < x
theorem fr_rng {g : Gm} {w : Int → Int} {n m z : Int} (h : fr g w n m z) : 0 < z ∧ z < 33554432 := by
  obtain ⟨a, b, c, h1, h2, rfl, h4⟩ := h
  exact sOf_t h1
theorem fr_ne {g : Gm} {w : Int → Int} {n m z : Int} (h : fr g w n m z) : z ≠ -4 := by have := fr_rng h; omega
theorem irx {g : Gm} {w : Int → Int} {n m z : Int} (h : fr g w n m z) : ir z := by have := fr_rng h; constructor <;> omega
set_option maxHeartbeats 2000000 in
set_option maxRecDepth 20000 in
theorem x_fewestOf (h : AH) {gn : Nat} (hg : gn = 20 ∨ gn = 40) {g : Gm} (hgx : gX h gn = g) {r : Nat} (hr : 100 ≤ r ∧ r < 212) (hOk : okG g) {n m ag : Int} {w : Int → Int} (hwr : rowX h r n w) (hW : okW g w n) (hn1 : 1 ≤ n) (hmm : 1 ≤ m ∧ m ≤ 3) (hB : agB g ag) : AMet yX0_fewestOf cX0_fewestOf 11 (some .int) 4 110 [.ref 17, vI m, vI ag, .ref gn, .ref r, .ref 14] h (Qi (fun z h' => ∃ (e st : Int → Int) (f f' : Int → Int64), ((z = -4 ∧ ∀ S, ¬ fr g w n m S) ∨ (z ≠ -4 ∧ fr g w n m z ∧ ∀ S, fr g w n m S → z ≤ S)) ∧ h' = hm h [(17, e), (18, st)] [(15, f), (16, f')] [])) := by
  have hR24 := hOk.2.1
  have hag := hB.1
  refine AMet.of (by decide) (Nat.le_of_ble_eq_true rfl) (fun G hM => ?_)
  have hG := hM.cx
  refine A_hm0 (G := G) (L := [(0, .ref 17), (1, vI m), (2, vI ag), (3, .ref gn), (4, .ref r), (5, .ref 14)]) ?_
  refine A_aload_n hG 0 dX0_fewestOf_0 rfl rfl ?_
  refine A_iconst (n := 0) hG dX0_fewestOf_1 ?_
  refine M_putI (z := 1) (li' := [(17, up (h.1 17) 1 0)]) hG dX0_fewestOf_2 fl_X0_15 (by decide) k17 nf_0_1 rfl rfl (by constructor <;> omega) (Or.inl rfl) rfl ?_
  refine A_iconst (n := 1) hG dX0_fewestOf_5 ?_
  refine A_iload_n hG 1 dX0_fewestOf_6 rfl rfl ?_
  refine A_ishl hG dX0_fewestOf_7 ?_
  refine A_iconst (n := 1) hG dX0_fewestOf_8 ?_
  refine A_isub hG dX0_fewestOf_9 ?_
  refine A_istore (L' := [(6, vI ((ishl 1 m) - 1)), (0, .ref 17), (1, vI m), (2, vI ag), (3, .ref gn), (4, .ref r), (5, .ref 14)]) hG dX0_fewestOf_10 (by decide) rfl ?_
  refine A_iconst (n := 0) hG dX0_fewestOf_12 ?_
  refine A_istore (L' := [(7, vI 0), (6, vI ((ishl 1 m) - 1)), (0, .ref 17), (1, vI m), (2, vI ag), (3, .ref gn), (4, .ref r), (5, .ref 14)]) hG dX0_fewestOf_13 (by decide) rfl ?_
  refine A_insI 18 (li' := [(17, up (h.1 17) 1 0), (18, h.1 18)]) rfl ?_
  refine A_insL 15 (ll' := [(15, h.2.1 15)]) rfl ?_
  refine A_insL 16 (ll' := [(15, h.2.1 15), (16, h.2.1 16)]) rfl ?_
  have t_0 : ∀ fu : Nat, ∀ (x : Int) (t : Int) (k : Int) (e : Int → Int) (st : Int → Int) (f : Int → Int64) (f2 : Int → Int64), (0 ≤ t ∧ t ≤ 2024) → (0 < x ∧ x ≤ 67108864) → (e 1 = k) → (0 ≤ k ∧ k < 64) → (vX m x t ag) → (ag < x → k = 0) → (bI g w n m x k st) → ((2025 - t).toNat) < fu → G 15 [(0, .ref 17), (1, vI m), (2, vI ag), (3, .ref gn), (4, .ref r), (5, .ref 14), (6, vI x), (7, vI t)] [] (hm h [(17, e), (18, st)] [(15, f), (16, f2)] []) := by
    intro fu
    induction fu with
    | zero => intro x t k e st f f2 ht hxr hk hkk hV hE hI hfu; exact absurd hfu (Nat.not_lt_zero _)
    | succ fu ih_t =>
      intro x t k e st f f2 ht hxr hk hkk hV hE hI hfu
      refine A_iload hG 7 dX0_fewestOf_15 rfl ?_
      refine A_sipush (n := 2024) hG dX0_fewestOf_17 (by decide) ?_
      refine A_icmp_ge hG 118 dX0_fewestOf_20 (by decide) (by constructor <;> omega) (by constructor <;> omega) (fun c_20 => ?_) (fun c_20 => ?_)
      ·
        refine A_bipush (n := -4) hG dX0_fewestOf_118 (by decide) ?_
        exact Ret_i hM dX0_fewestOf_120 (by constructor <;> omega) (⟨e, st, f, f2, Or.inl ⟨rfl, by
            have hxa : ag < x := Or.elim hV (fun ⟨a, b, c, q1, q2, q3⟩ => by have := rk_lt q1; omega) id
            have k0 := hE hxa
            subst k0
            exact bI_end hI hmm hB hxa⟩, rfl⟩)
      ·
        refine A_iload hG 6 dX0_fewestOf_23 rfl ?_
        refine A_iload_n hG 2 dX0_fewestOf_25 rfl rfl ?_
        refine A_icmp_gt hG 118 dX0_fewestOf_26 (by decide) (by constructor <;> omega) (by constructor <;> omega) (fun c_26 => ?_) (fun c_26 => ?_)
        ·
          refine A_bipush (n := -4) hG dX0_fewestOf_118 (by decide) ?_
          exact Ret_i hM dX0_fewestOf_120 (by constructor <;> omega) (⟨e, st, f, f2, Or.inl ⟨rfl, by
              have hxa : ag < x := Or.elim hV (fun ⟨a, b, c, q1, q2, q3⟩ => by have := rk_lt q1; omega) id
              have k0 := hE hxa
              subst k0
              exact bI_end hI hmm hB hxa⟩, rfl⟩)
        ·
          obtain ⟨a, b, c, hv, hxe, hte⟩ : ∃ a b c, vs m a b c ∧ x = sOf m a b c ∧ t = rk m a b c := Or.resolve_right hV (by omega)
          have hnx := nx_all hmm hv
          rw [← hxe] at hnx
          have hrk := rk_lt hv
          refine A_iload hG 6 dX0_fewestOf_29 rfl ?_
          have a_1 : ∀ (k2 : Int) (e : Int → Int) (st : Int → Int), (e 1 = k2) → (0 ≤ k2 ∧ k2 ≤ 64) → (bI g w n m (nxS x) k2 st) → G 44 [(0, .ref 17), (1, vI m), (2, vI ag), (3, .ref gn), (4, .ref r), (5, .ref 14), (6, vI x), (7, vI t)] [] (hm h [(17, e), (18, st)] [(15, f), (16, f2)] []) := by
            intro k2 e st hk hkk hJ
            refine A_iload hG 6 dX0_fewestOf_44 rfl ?_
            refine C_Si (as := [vI x]) (st := []) hG dX0_fewestOf_46 ml_X0_44 mf_X0_nextSet ms_X0_nextSet (x_nextSet (hm h [(17, e), (18, st)] [(15, f), (16, f2)] []) x) (by decide) (by decide) rfl rfl (Nat.le_of_ble_eq_true rfl) (fun z46 g46 ri_46 hp_46 => ?_)
            obtain ⟨ra_46, rb_46⟩ := ri_46
            obtain ⟨hz46, rfl⟩ := hp_46
            rw [← hz46] at hJ
            rw [← hz46] at hnx
            have hxr : 0 < z46 ∧ z46 ≤ 67108864 := by omega
            have hV : vX m z46 (t + 1) ag := by
                rcases hnx.2.2.2 with ⟨a1, b1, c1, q1, q2, q3⟩ | q
                · exact Or.inl ⟨a1, b1, c1, q1, q2, by clear hnx; omega⟩
                · exact Or.inr (by clear hnx; omega)
            clear hnx
            refine A_istore (L' := [(6, vI z46), (0, .ref 17), (1, vI m), (2, vI ag), (3, .ref gn), (4, .ref r), (5, .ref 14), (7, vI t)]) hG dX0_fewestOf_49 (by decide) rfl ?_
            have c_3 : ∀ (k : Int) (e : Int → Int) (st : Int → Int) (f : Int → Int64) (f2 : Int → Int64), (e 1 = k) → (0 ≤ k ∧ k < 64) → (ag < z46 → k = 0) → (bI g w n m z46 k st) → G 112 [(0, .ref 17), (1, vI m), (2, vI ag), (3, .ref gn), (4, .ref r), (5, .ref 14), (6, vI z46), (7, vI t)] [] (hm h [(17, e), (18, st)] [(15, f), (16, f2)] []) := by
              intro k e st f f2 hk hkk hE hI
              refine A_iinc (L' := [(7, vI (t + 1)), (0, .ref 17), (1, vI m), (2, vI ag), (3, .ref gn), (4, .ref r), (5, .ref 14), (6, vI z46)]) hG 7 dX0_fewestOf_112 rfl (by decide) rfl ?_
              refine A_goto hG 15 dX0_fewestOf_115 (by decide) ?_
              refine A_sub hG [1, 2, 3, 4, 5, 6, 7, 0] rfl ?_
              exact ih_t z46 (t + 1) k e st f f2 (by omega) hxr hk (by omega) hV hE hI (by omega)
            refine A_aload_n hG 1 dX0_fewestOf_51 rfl rfl ?_
            have b_4 : True → G 66 [(0, .ref 17), (1, vI m), (2, vI ag), (3, .ref gn), (4, .ref r), (5, .ref 14), (6, vI z46), (7, vI t)] [] (hm h [(17, e), (18, st)] [(15, f), (16, f2)] []) := by
              intro  hfl
              refine A_aload_n hG 0 dX0_fewestOf_66 rfl rfl ?_
              refine A_aload_n hG 3 dX0_fewestOf_67 rfl rfl ?_
              refine A_aload hG 4 dX0_fewestOf_68 rfl ?_
              refine A_aload hG 5 dX0_fewestOf_70 rfl ?_
              refine C_Vl (as := [.ref gn, .ref r, .ref 14]) (st := []) (k := 17) (c := 0) hG dX0_fewestOf_72 ml_X0_36 mf_X0_freeingLanes mi_X0_freeingLanes se_X0_freeingLanes rfl (by decide) k17 (x_freeingLanes (hm h [(17, e), (18, st)] [(15, f), (16, f2)] []) hg (g := g) ((gX_li hg rfl).trans hgx) hr hOk (n := n) (cnt := k2) (w := w) (st := st) (rowX_eq (by simp (disch := omega) only [hm, alk, if_neg, if_pos, ite_true]) (by simp (disch := omega) only [hm, alk, if_neg, if_pos, ite_true]) hwr) hW hn1 hk hkk rfl) (by decide) (by decide) rfl rfl (Nat.le_of_ble_eq_true rfl) (fun z72 g72 hp_72 => ?_)
              have hq_72 : ∃ fx ex : Int → Int64, (∀ x, 0 ≤ x → x < k2 → (bitL z72 x ↔ READ g (hasb (st x)) w n)) ∧ g72 = hm (hm h [(17, e), (18, st)] [(15, f), (16, f2)] []) [] [(16, ex), (15, fx)] [] := hp_72
              clear hp_72
              obtain ⟨f72, e72, hz72, rfl⟩ := hq_72
              refine A_hm (la := [(17, e), (18, st)]) (lb := [(15, f72), (16, e72)]) (lc := []) rfl rfl rfl ?_
              refine A_lstore (L' := [(8, .long z72), (0, .ref 17), (1, vI m), (2, vI ag), (3, .ref gn), (4, .ref r), (5, .ref 14), (6, vI z46), (7, vI t)]) hG dX0_fewestOf_75 (by decide) rfl ?_
              refine A_lload hG 0 dX0_fewestOf_77 rfl ?_
              refine A_lload hG 0 dX0_fewestOf_79 rfl ?_
              refine A_lneg hG dX0_fewestOf_81 ?_
              refine A_land hG dX0_fewestOf_82 ?_
              refine A_lconst (v := i2l 1) hG dX0_fewestOf_83 (by decide) ?_
              refine A_lsub hG dX0_fewestOf_84 ?_
              refine C_Si (as := [.long ((z72 &&& (-z72)) - (i2l 1))]) (st := []) hG dX0_fewestOf_85 ml_X0_48 mf_J13_bitCount_95d88 ms_J13_bitCount_95d88 (j_bitL (hm h [(17, e), (18, st)] [(15, f72), (16, e72)] []) ((z72 &&& (-z72)) - (i2l 1))) (by decide) (by decide) rfl rfl (Nat.le_of_ble_eq_true rfl) (fun z85 g85 ri_85 hp_85 => ?_)
              obtain ⟨ra_85, rb_85⟩ := ri_85
              obtain ⟨hz85, rfl⟩ := hp_85
              refine A_istore (L' := [(10, vI z85), (8, .long z72), (0, .ref 17), (1, vI m), (2, vI ag), (3, .ref gn), (4, .ref r), (5, .ref 14), (6, vI z46), (7, vI t)]) hG dX0_fewestOf_88 (by decide) rfl ?_
              have hlc := low_cnt z72
              rw [← hz85] at hlc
              have hl6 : 0 ≤ z85 ∧ z85 ≤ 64 := by
                  rcases hlc with ⟨q1, q2⟩ | ⟨l, q1, q2, q3⟩
                  · omega
                  · omega
              have hlf : z85 < k2 → fr g w n m (st z85) ∧ ∀ S, fr g w n m S → st z85 ≤ S := fun q => by
                  rcases hlc with ⟨q1, q2⟩ | ⟨l, q1, q2, q3, q4⟩
                  · omega
                  · exact bI_found hJ (by omega) ((hz72 z85 (by omega) (by omega)).mp (by rw [q2]; exact q3)) (fun i i0 i1 hr => q4 i i0 (by omega) ((hz72 i i0 (by omega)).mpr hr))
              have hln : k2 ≤ z85 → ∀ i, 0 ≤ i → i < k2 → ¬ READ g (hasb (st i)) w n := fun q i i0 i1 hr => by
                  have hb := (hz72 i i0 i1).mpr hr
                  rcases hlc with ⟨q1, q2⟩ | ⟨l, q1, q2, q3, q4⟩
                  · rw [q1, show (0 : Int64) = i2l 0 by decide] at hb
                    exact bitL_0 i hb
                  · exact q4 i i0 (by omega) hb
              refine A_iload hG 0 dX0_fewestOf_90 rfl ?_
              refine A_aload_n hG 2 dX0_fewestOf_92 rfl rfl ?_
              refine M_getI (z := 1) (v := k2) hG dX0_fewestOf_93 fl_X0_15 (by decide) k17 rfl rfl hk (fun ⟨ra_93, rb_93⟩ => ?_)
              refine A_icmp_ge hG 107 dX0_fewestOf_96 (by decide) (by constructor <;> omega) (by constructor <;> omega) (fun c_96 => ?_) (fun c_96 => ?_)
              ·
                have hnone := hln (by omega)
                refine A_aload_n hG 2 dX0_fewestOf_107 rfl rfl ?_
                refine A_iconst (n := 0) hG dX0_fewestOf_108 ?_
                refine M_putI (z := 1) (li' := [(17, up e 1 0), (18, st)]) hG dX0_fewestOf_109 fl_X0_15 (by decide) k17 nf_0_1 rfl rfl (by constructor <;> omega) (Or.inl rfl) rfl ?_
                refine A_sub hG [2, 3, 4, 5, 6, 7, 8, 9] rfl ?_
                exact c_3 0 (up e 1 0) st f72 e72 (up_eq _ _ _) (by omega) (fun _ => rfl) (bI_none hJ (fun i i0 i1 => hnone i i0 i1))
              ·
                have hfd := hlf (by omega)
                refine A_aload_n hG 2 dX0_fewestOf_99 rfl rfl ?_
                refine A_getR (r := 18) hG dX0_fewestOf_100 fl_X0_9 (by decide) k17 (by decide) rfl ?_
                refine A_iload hG 0 dX0_fewestOf_103 rfl ?_
                refine M_iald (v := st z85) hG dX0_fewestOf_105 k18 n18 (by omega) rfl (fun ⟨ra_105, rb_105⟩ => ?_)
                exact Ret_i hM dX0_fewestOf_106 (irx hfd.1) (⟨e, st, f72, e72, Or.inr ⟨fr_ne hfd.1, hfd⟩, rfl⟩)
            refine M_getI (z := 1) (v := k2) hG dX0_fewestOf_52 fl_X0_15 (by decide) k17 rfl rfl hk (fun ⟨ra_52, rb_52⟩ => ?_)
            refine A_bipush (n := 64) hG dX0_fewestOf_55 (by decide) ?_
            refine A_icmp_eq hG 66 dX0_fewestOf_57 (by decide) (by constructor <;> omega) (by constructor <;> omega) (fun c_57 => ?_) (fun c_57 => ?_)
            ·
              refine A_sub hG [1, 2, 3, 4, 5, 6, 0, 7] rfl ?_
              exact b_4 trivial
            ·
              refine A_iload hG 0 dX0_fewestOf_60 rfl ?_
              refine A_iload_n hG 3 dX0_fewestOf_62 rfl rfl ?_
              refine A_icmp_le hG 112 dX0_fewestOf_63 (by decide) (by constructor <;> omega) (by constructor <;> omega) (fun c_63 => ?_) (fun c_63 => ?_)
              ·
                refine A_sub hG [1, 2, 3, 4, 5, 6, 0, 7] rfl ?_
                exact c_3 k2 e st f f2 hk (by omega) (fun q => by omega) hJ
              ·
                refine A_sub hG [1, 2, 3, 4, 5, 6, 0, 7] rfl ?_
                exact b_4 trivial
          refine A_iload_n hG 2 dX0_fewestOf_31 rfl rfl ?_
          refine A_iand hG dX0_fewestOf_32 ?_
          refine A_iload hG 6 dX0_fewestOf_33 rfl ?_
          refine A_icmp_ne hG 44 dX0_fewestOf_35 (by decide) (ir_iand _ _) (by constructor <;> omega) (fun c_35 => ?_) (fun c_35 => ?_)
          ·
            refine A_sub hG [0, 1, 2, 3, 4, 5, 6, 7] rfl ?_
            exact a_1 k e st hk (by omega) (bI_skip hI hv (fun q => c_35 (by rw [hxe]; exact (agB_iff hmm hB hv).mpr q)) hmm hxe hnx.1 hnx.2.2.1)
          ·
            refine A_aload_n hG 0 dX0_fewestOf_38 rfl rfl ?_
            refine A_iload hG 6 dX0_fewestOf_39 rfl ?_
            refine C_Vv (as := [vI x]) (st := []) (k := 17) (c := 0) hG dX0_fewestOf_41 ml_X0_32 mf_X0_addSet mi_X0_addSet se_X0_addSet rfl (by decide) k17 (x_addSet (hm h [(17, e), (18, st)] [(15, f), (16, f2)] []) (v := x) (k := k) (e := e) (st := st) rfl rfl hk (by omega) (by constructor <;> omega)) (by decide) (by decide) rfl rfl (Nat.le_of_ble_eq_true rfl) (fun g41 hp_41 => ?_)
            subst hp_41
            refine A_hm (la := [(17, up e 1 (k + 1)), (18, up st k x)]) (lb := [(15, f), (16, f2)]) (lc := []) rfl rfl rfl ?_
            refine A_sub hG [0, 1, 2, 3, 4, 5, 6, 7] rfl ?_
            exact a_1 (k + 1) (up e 1 (k + 1)) (up st k x) (up_eq _ _ _) (by omega) (bI_add hI hkk.1 hv ((agB_iff hmm hB hv).mp (by rw [← hxe]; exact c_35)) hxe hnx.1 hnx.2.2.1)
  refine A_sub hG [2, 3, 4, 5, 6, 7, 1, 0] rfl ?_
  exact t_0 _ ((ishl 1 m) - 1) 0 0 (up (h.1 17) 1 0) (h.1 18) (h.2.1 15) (h.2.1 16) (by omega) (fo_i hmm) (up_eq _ _ _) (by omega) (Or.inl (fo_v hmm)) (fun _ => rfl) (bI_0 (fo_x hmm) hmm) (Nat.lt_succ_self _)

set_option maxHeartbeats 2000000 in
set_option maxRecDepth 20000 in
theorem x_fewest (h : AH) {gn : Nat} (hg : gn = 20 ∨ gn = 40) {g : Gm} (hgx : gX h gn = g) {r : Nat} (hr : 100 ≤ r ∧ r < 212) (hOk : okG g) {n : Int} {w : Int → Int} (hwr : rowX h r n w) (hW : okW g w n) (hn1 : 1 ≤ n) : AMet yX0_fewest cX0_fewest 7 (some .int) 5 140 [.ref 17, .ref gn, .ref r, .ref 14] h (Qi (fun z h' => ∃ (e st : Int → Int) (f f' : Int → Int64), barsV g w n z ∧ h' = hm h [(17, e), (18, st)] [(15, f), (16, f')] [])) := by
  refine AMet.of (by decide) (Nat.le_of_ble_eq_true rfl) (fun G hM => ?_)
  have hG := hM.cx
  refine A_hm0 (G := G) (L := [(0, .ref 17), (1, .ref gn), (2, .ref r), (3, .ref 14)]) ?_
  refine A_aload_n hG 1 dX0_fewest_0 rfl rfl ?_
  refine C_Si (as := [.ref gn]) (st := []) hG dX0_fewest_1 ml_X0_19 mf_X0_agreeingRules ms_X0_agreeingRules (x_agreeingRules (hm h [] [] []) hg (g := g) hgx hOk) (by decide) (by decide) rfl rfl (Nat.le_of_ble_eq_true rfl) (fun z1 g1 ri_1 hp_1 => ?_)
  obtain ⟨ra_1, rb_1⟩ := ri_1
  obtain ⟨hz1, rfl⟩ := hp_1
  refine A_istore (L' := [(4, vI z1), (0, .ref 17), (1, .ref gn), (2, .ref r), (3, .ref 14)]) hG dX0_fewest_4 (by decide) rfl ?_
  refine A_iconst (n := 1) hG dX0_fewest_6 ?_
  refine A_istore (L' := [(5, vI 1), (4, vI z1), (0, .ref 17), (1, .ref gn), (2, .ref r), (3, .ref 14)]) hG dX0_fewest_7 (by decide) rfl ?_
  refine A_insI 17 (li' := [(17, h.1 17)]) rfl ?_
  refine A_insI 18 (li' := [(17, h.1 17), (18, h.1 18)]) rfl ?_
  refine A_insL 15 (ll' := [(15, h.2.1 15)]) rfl ?_
  refine A_insL 16 (ll' := [(15, h.2.1 15), (16, h.2.1 16)]) rfl ?_
  have m_1 : ∀ fu : Nat, ∀ (m : Int) (e : Int → Int) (st : Int → Int) (f : Int → Int64) (f2 : Int → Int64), (1 ≤ m ∧ m ≤ 4) → (∀ m', 1 ≤ m' → m' < m → ∀ S, ¬ fr g w n m' S) → ((5 - m).toNat) < fu → G 9 [(0, .ref 17), (1, .ref gn), (2, .ref r), (3, .ref 14), (4, vI z1), (5, vI m)] [] (hm h [(17, e), (18, st)] [(15, f), (16, f2)] []) := by
    intro fu
    induction fu with
    | zero => intro m e st f f2 hmm hN hfu; exact absurd hfu (Nat.not_lt_zero _)
    | succ fu ih_m =>
      intro m e st f f2 hmm hN hfu
      refine A_iload hG 5 dX0_fewest_9 rfl ?_
      refine A_iconst (n := 3) hG dX0_fewest_11 ?_
      refine A_icmp_gt hG 44 dX0_fewest_12 (by decide) (by constructor <;> omega) (by constructor <;> omega) (fun c_12 => ?_) (fun c_12 => ?_)
      ·
        refine A_bipush (n := -4) hG dX0_fewest_44 (by decide) ?_
        exact Ret_i hM dX0_fewest_46 (by constructor <;> omega) (⟨_, _, _, _, Or.inr ⟨rfl, fun m' q1 q2 => hN m' q1 (by omega)⟩, rfl⟩)
      ·
        refine A_aload_n hG 0 dX0_fewest_15 rfl rfl ?_
        refine A_iload hG 5 dX0_fewest_16 rfl ?_
        refine A_iload hG 4 dX0_fewest_18 rfl ?_
        refine A_aload_n hG 1 dX0_fewest_20 rfl rfl ?_
        refine A_aload_n hG 2 dX0_fewest_21 rfl rfl ?_
        refine A_aload_n hG 3 dX0_fewest_22 rfl rfl ?_
        refine C_Vi (as := [vI m, vI z1, .ref gn, .ref r, .ref 14]) (st := []) (k := 17) (c := 0) hG dX0_fewest_23 ml_X0_23 mf_X0_fewestOf mi_X0_fewestOf se_X0_fewestOf rfl (by decide) k17 (x_fewestOf (hm h [(17, e), (18, st)] [(15, f), (16, f2)] []) hg (g := g) ((gX_li hg rfl).trans hgx) hr hOk (n := n) (m := m) (ag := z1) (w := w) (rowX_eq (by simp (disch := omega) only [hm, alk, if_neg, if_pos, ite_true]) (by simp (disch := omega) only [hm, alk, if_neg, if_pos, ite_true]) hwr) hW hn1 (by omega) hz1) (by decide) (by decide) rfl rfl (Nat.le_of_ble_eq_true rfl) (fun z23 g23 ri_23 hp_23 => ?_)
        obtain ⟨ra_23, rb_23⟩ := ri_23
        have hq_23 : ∃ (ex sx : Int → Int) (fx fy : Int → Int64), ((z23 = -4 ∧ ∀ S, ¬ fr g w n m S) ∨ (z23 ≠ -4 ∧ fr g w n m z23 ∧ ∀ S, fr g w n m S → z23 ≤ S)) ∧ g23 = hm (hm h [(17, e), (18, st)] [(15, f), (16, f2)] []) [(17, ex), (18, sx)] [(15, fx), (16, fy)] [] := hp_23
        clear hp_23
        obtain ⟨e23, s23, f23, y23, hz23, rfl⟩ := hq_23
        refine A_hm (la := [(17, e23), (18, s23)]) (lb := [(15, f23), (16, y23)]) (lc := []) rfl rfl rfl ?_
        refine A_istore (L' := [(6, vI z23), (0, .ref 17), (1, .ref gn), (2, .ref r), (3, .ref 14), (4, vI z1), (5, vI m)]) hG dX0_fewest_26 (by decide) rfl ?_
        refine A_iload hG 0 dX0_fewest_28 rfl ?_
        refine A_bipush (n := -4) hG dX0_fewest_30 (by decide) ?_
        refine A_icmp_eq hG 38 dX0_fewest_32 (by decide) (by constructor <;> omega) (by constructor <;> omega) (fun c_32 => ?_) (fun c_32 => ?_)
        ·
          refine A_iinc (L' := [(5, vI (m + 1)), (6, vI z23), (0, .ref 17), (1, .ref gn), (2, .ref r), (3, .ref 14), (4, vI z1)]) hG 6 dX0_fewest_38 rfl (by decide) rfl ?_
          refine A_goto hG 9 dX0_fewest_41 (by decide) ?_
          refine A_sub hG [2, 3, 4, 5, 6, 0] rfl ?_
          exact ih_m (m + 1) e23 s23 f23 y23 (by omega) (fun m' q1 q2 => by
              by_cases d : m' = m
              · subst d
                rcases hz23 with ⟨a, b⟩ | ⟨a, b⟩
                · exact b
                · exact absurd c_32 a
              · exact hN m' q1 (by omega)) (by omega)
        ·
          refine A_iload hG 0 dX0_fewest_35 rfl ?_
          exact Ret_i hM dX0_fewest_37 (by constructor <;> omega) (⟨_, _, _, _, Or.inl ⟨m, by omega, by omega, hN, by
              rcases hz23 with ⟨a, b⟩ | ⟨a, b⟩
              · exact absurd a c_32
              · exact b⟩, rfl⟩)
  refine A_sub hG [2, 3, 4, 5, 1, 0] rfl ?_
  exact m_1 _ 1 (h.1 17) (h.1 18) (h.2.1 15) (h.2.1 16) (by omega) (fun m' q1 q2 => by omega) (Nat.lt_succ_self _)

end
