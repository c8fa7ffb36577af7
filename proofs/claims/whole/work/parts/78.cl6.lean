/-! the class: the table of prices, joining (printed by gen) -/
section
set_option maxHeartbeats 2000000 in
set_option maxRecDepth 20000 in
theorem x_swapPrice (h : AH) {gn : Nat} (hg : gn = 20 ∨ gn = 40) {g : Gm} (hgx : gX h gn = g) (hOk : okG g) {u v : Int} (hu : 0 ≤ u ∧ u < g 10 0) (hv : 0 ≤ v ∧ v < g 10 0) {pk : Nat} (hpk : obk pk = 20) (hpn : obn pk = 5) {p : Int → Int} (hp : ∀ c, 0 ≤ c → c < 5 → h.1 pk c = p c) (hpp : ∀ c, 0 ≤ c → c < 5 → 0 ≤ p c ∧ p c ≤ 99) : AMet yX1_swapPrice cX1_swapPrice 5 (some .int) 1 21 [.ref gn, vI u, vI v, .ref pk] h (Qi (fun z h' => z = swpP g p u v ∧ h' = h)) := by
  have eu := gx_w hgx hu
  have ev := gx_w hgx hv
  have hn := hOk.1
  have ou := hOk.2.2.1 u hu.1 hu.2
  have ov := hOk.2.2.1 v hv.1 hv.2
  have p0 := hpp 0 (by omega) (by omega)
  have p1 := hpp 1 (by omega) (by omega)
  have p2 := hpp 2 (by omega) (by omega)
  refine AMet.of (by decide) (Nat.le_of_ble_eq_true rfl) (fun G hM => ?_)
  have hG := hM.cx
  refine A_hm0 (G := G) (L := [(0, .ref gn), (1, vI u), (2, vI v), (3, .ref pk)]) ?_
  refine A_bipush (n := 100) hG dX1_swapPrice_0 (by decide) ?_
  refine A_istore (L' := [(4, vI 100), (0, .ref gn), (1, vI u), (2, vI v), (3, .ref pk)]) hG dX1_swapPrice_2 (by decide) rfl ?_
  have a_0 : ∀ (x : Int), (x = if g 2 u = g 2 v then p 0 else 100) → G 29 [(0, .ref gn), (1, vI u), (2, vI v), (3, .ref pk), (4, vI x)] [] (hm h [] [] []) := by
    intro x hx
    have hxr : 0 ≤ x ∧ x ≤ 100 := by rw [hx]; split <;> omega
    refine A_aload_n hG 0 dX1_swapPrice_29 rfl rfl ?_
    have b_1 : ∀ (y : Int), (y = min x (if g 3 u = g 3 v then p 1 else 100)) → G 54 [(0, .ref gn), (1, vI u), (2, vI v), (3, .ref pk), (4, vI y)] [] (hm h [] [] []) := by
      intro y hy
      have hyr : 0 ≤ y ∧ y ≤ 100 := by rw [hy]; split <;> omega
      refine A_aload_n hG 0 dX1_swapPrice_54 rfl rfl ?_
      have c_2 : ∀ (z : Int), (z = min y (if g 0 u = g 0 v then p 2 else 100)) → G 79 [(0, .ref gn), (1, vI u), (2, vI v), (3, .ref pk), (4, vI z)] [] (hm h [] [] []) := by
        intro z hz
        have hzr : 0 ≤ z ∧ z ≤ 100 := by rw [hz]; split <;> omega
        refine A_iload hG 4 dX1_swapPrice_79 rfl ?_
        exact Ret_i hM dX1_swapPrice_81 (by constructor <;> omega) (⟨by unfold swpP; rw [hz, hy, hx]; exact (Int.min_assoc _ _ _), rfl⟩)
      refine A_getR (r := (gn + 1)) hG dX1_swapPrice_55 fl_X1_9 (by decide) (kg0 hg) (by decide) rfl ?_
      refine A_iload_n hG 1 dX1_swapPrice_58 rfl rfl ?_
      refine M_iald (v := g 0 u) hG dX1_swapPrice_59 (kg1 hg) (ng1 hg) (by omega) eu.1 (fun ⟨ra_59, rb_59⟩ => ?_)
      refine A_aload_n hG 0 dX1_swapPrice_60 rfl rfl ?_
      refine A_getR (r := (gn + 1)) hG dX1_swapPrice_61 fl_X1_9 (by decide) (kg0 hg) (by decide) rfl ?_
      refine A_iload_n hG 2 dX1_swapPrice_64 rfl rfl ?_
      refine M_iald (v := g 0 v) hG dX1_swapPrice_65 (kg1 hg) (ng1 hg) (by omega) ev.1 (fun ⟨ra_65, rb_65⟩ => ?_)
      refine A_icmp_ne hG 79 dX1_swapPrice_66 (by decide) (by constructor <;> omega) (by constructor <;> omega) (fun c_66 => ?_) (fun c_66 => ?_)
      ·
        refine A_sub hG [0, 1, 2, 3, 4] rfl ?_
        exact c_2 y (by first | (rw [if_neg (by omega)]; omega) | (rw [if_pos (by omega)]; omega))
      ·
        refine A_iload hG 4 dX1_swapPrice_69 rfl ?_
        refine A_aload_n hG 3 dX1_swapPrice_71 rfl rfl ?_
        refine A_iconst (n := 2) hG dX1_swapPrice_72 ?_
        refine M_iald (v := p 2) hG dX1_swapPrice_73 hpk hpn (by omega) (hp 2 (by omega) (by omega)) (fun ⟨ra_73, rb_73⟩ => ?_)
        refine A_mmin hG (x := y) (y := p 2) dX1_swapPrice_74 lw_X1_87 (by constructor <;> omega) (by constructor <;> omega) (by decide) (by decide) (Nat.le_of_ble_eq_true rfl) (fun z74 hz74 => ?_)
        refine A_istore (L' := [(4, vI z74), (0, .ref gn), (1, vI u), (2, vI v), (3, .ref pk)]) hG dX1_swapPrice_77 (by decide) rfl ?_
        refine A_sub hG [1, 2, 3, 4, 0] rfl ?_
        exact c_2 z74 (by first | (rw [if_neg (by omega)]; omega) | (rw [if_pos (by omega)]; omega))
    refine A_getR (r := (gn + 4)) hG dX1_swapPrice_30 fl_X1_21 (by decide) (kg0 hg) (by decide) rfl ?_
    refine A_iload_n hG 1 dX1_swapPrice_33 rfl rfl ?_
    refine M_iald (v := g 3 u) hG dX1_swapPrice_34 (kg4 hg) (ng4 hg) (by omega) eu.2.2.2 (fun ⟨ra_34, rb_34⟩ => ?_)
    refine A_aload_n hG 0 dX1_swapPrice_35 rfl rfl ?_
    refine A_getR (r := (gn + 4)) hG dX1_swapPrice_36 fl_X1_21 (by decide) (kg0 hg) (by decide) rfl ?_
    refine A_iload_n hG 2 dX1_swapPrice_39 rfl rfl ?_
    refine M_iald (v := g 3 v) hG dX1_swapPrice_40 (kg4 hg) (ng4 hg) (by omega) ev.2.2.2 (fun ⟨ra_40, rb_40⟩ => ?_)
    refine A_icmp_ne hG 54 dX1_swapPrice_41 (by decide) (by constructor <;> omega) (by constructor <;> omega) (fun c_41 => ?_) (fun c_41 => ?_)
    ·
      refine A_sub hG [0, 1, 2, 3, 4] rfl ?_
      exact b_1 x (by first | (rw [if_neg (by omega)]; omega) | (rw [if_pos (by omega)]; omega))
    ·
      refine A_iload hG 4 dX1_swapPrice_44 rfl ?_
      refine A_aload_n hG 3 dX1_swapPrice_46 rfl rfl ?_
      refine A_iconst (n := 1) hG dX1_swapPrice_47 ?_
      refine M_iald (v := p 1) hG dX1_swapPrice_48 hpk hpn (by omega) (hp 1 (by omega) (by omega)) (fun ⟨ra_48, rb_48⟩ => ?_)
      refine A_mmin hG (x := x) (y := p 1) dX1_swapPrice_49 lw_X1_87 (by constructor <;> omega) (by constructor <;> omega) (by decide) (by decide) (Nat.le_of_ble_eq_true rfl) (fun z49 hz49 => ?_)
      refine A_istore (L' := [(4, vI z49), (0, .ref gn), (1, vI u), (2, vI v), (3, .ref pk)]) hG dX1_swapPrice_52 (by decide) rfl ?_
      refine A_sub hG [1, 2, 3, 4, 0] rfl ?_
      exact b_1 z49 (by first | (rw [if_neg (by omega)]; omega) | (rw [if_pos (by omega)]; omega))
  refine A_aload_n hG 1 dX1_swapPrice_4 rfl rfl ?_
  refine A_getR (r := (gn + 3)) hG dX1_swapPrice_5 fl_X1_18 (by decide) (kg0 hg) (by decide) rfl ?_
  refine A_iload_n hG 2 dX1_swapPrice_8 rfl rfl ?_
  refine M_iald (v := g 2 u) hG dX1_swapPrice_9 (kg3 hg) (ng3 hg) (by omega) eu.2.2.1 (fun ⟨ra_9, rb_9⟩ => ?_)
  refine A_aload_n hG 1 dX1_swapPrice_10 rfl rfl ?_
  refine A_getR (r := (gn + 3)) hG dX1_swapPrice_11 fl_X1_18 (by decide) (kg0 hg) (by decide) rfl ?_
  refine A_iload_n hG 3 dX1_swapPrice_14 rfl rfl ?_
  refine M_iald (v := g 2 v) hG dX1_swapPrice_15 (kg3 hg) (ng3 hg) (by omega) ev.2.2.1 (fun ⟨ra_15, rb_15⟩ => ?_)
  refine A_icmp_ne hG 29 dX1_swapPrice_16 (by decide) (by constructor <;> omega) (by constructor <;> omega) (fun c_16 => ?_) (fun c_16 => ?_)
  ·
    refine A_sub hG [1, 2, 3, 4, 0] rfl ?_
    exact a_0 100 (by first | (rw [if_neg (by omega)]) | (rw [if_pos (by omega)]; omega))
  ·
    refine A_iload hG 0 dX1_swapPrice_19 rfl ?_
    refine A_aload_n hG 4 dX1_swapPrice_21 rfl rfl ?_
    refine A_iconst (n := 0) hG dX1_swapPrice_22 ?_
    refine M_iald (v := p 0) hG dX1_swapPrice_23 hpk hpn (by omega) (hp 0 (by omega) (by omega)) (fun ⟨ra_23, rb_23⟩ => ?_)
    refine A_mmin hG (x := 100) (y := p 0) dX1_swapPrice_24 lw_X1_87 (by constructor <;> omega) (by constructor <;> omega) (by decide) (by decide) (Nat.le_of_ble_eq_true rfl) (fun z24 hz24 => ?_)
    refine A_istore (L' := [(4, vI z24), (0, .ref gn), (1, vI u), (2, vI v), (3, .ref pk)]) hG dX1_swapPrice_27 (by decide) rfl ?_
    refine A_sub hG [1, 2, 3, 4, 0] rfl ?_
    exact a_0 z24 (by first | (rw [if_neg (by omega)]) | (rw [if_pos (by omega)]; omega))

set_option maxHeartbeats 2000000 in
set_option maxRecDepth 20000 in
theorem x_run (h : AH) {a b : Int} (ha : 0 ≤ a ∧ a ≤ 9) (hb : 0 ≤ b ∧ b ≤ 9) : AMet yX6_run cX6_run 2 (some .int) 0 0 [vI a, vI b] h (Qi (fun z h' => z = 40 * (9 * a + b) ∧ h' = h)) := by
  refine AMet.of (by decide) (Nat.le_of_ble_eq_true rfl) (fun G hM => ?_)
  have hG := hM.cx
  refine A_hm0 (G := G) (L := [(0, vI a), (1, vI b)]) ?_
  refine A_iload_n hG 0 dX6_run_0 rfl rfl ?_
  refine A_bipush (n := 9) hG dX6_run_1 (by decide) ?_
  refine A_imul hG dX6_run_3 ?_
  refine A_iload_n hG 1 dX6_run_4 rfl rfl ?_
  refine A_iadd hG dX6_run_5 ?_
  refine A_bipush (n := 40) hG dX6_run_6 (by decide) ?_
  refine A_imul hG dX6_run_8 ?_
  exact Ret_i hM dX6_run_9 (by constructor <;> omega) (⟨by omega, rfl⟩)

set_option maxHeartbeats 2000000 in
set_option maxRecDepth 20000 in
theorem x_lower (h : AH) {p v : Int} {F : Int → Int} (hF : h.1 13 = F) (hp : 0 ≤ p ∧ p < 3240) (hv : ir v) : AMet yX6_lower cX6_lower 3 (some .boolean) 0 0 [.ref 12, vI p, vI v] h (Qi (fun z h' => ∃ f : Int → Int, ((∀ i, i ≠ p → f i = F i) ∧ ((z = 0 ∧ F p ≤ v ∧ f p = F p) ∨ (z = 1 ∧ v < F p ∧ f p = v))) ∧ h' = hm h [(13, f)] [] [])) := by
  subst hF
  obtain ⟨hv1, hv2⟩ := hv
  refine AMet.of (by decide) (Nat.le_of_ble_eq_true rfl) (fun G hM => ?_)
  have hG := hM.cx
  refine A_hm0 (G := G) (L := [(0, .ref 12), (1, vI p), (2, vI v)]) ?_
  refine A_insI 13 (li' := [(13, h.1 13)]) rfl ?_
  refine A_iload_n hG 2 dX6_lower_0 rfl rfl ?_
  refine A_aload_n hG 0 dX6_lower_1 rfl rfl ?_
  refine A_getR (r := 13) hG dX6_lower_2 fl_X6_11 (by decide) k12 (by decide) rfl ?_
  refine A_iload_n hG 1 dX6_lower_5 rfl rfl ?_
  refine M_iald (v := h.1 13 p) hG dX6_lower_6 k13 n13 (by omega) rfl (fun ⟨ra_6, rb_6⟩ => ?_)
  refine A_icmp_ge hG 19 dX6_lower_7 (by decide) (by constructor <;> omega) (by constructor <;> omega) (fun c_7 => ?_) (fun c_7 => ?_)
  ·
    refine A_iconst (n := 0) hG dX6_lower_19 ?_
    exact Ret_z hM dX6_lower_20 (by omega) (⟨_, ⟨fun i hi => rfl, Or.inl ⟨rfl, by omega, rfl⟩⟩, rfl⟩)
  ·
    refine A_aload_n hG 0 dX6_lower_10 rfl rfl ?_
    refine A_getR (r := 13) hG dX6_lower_11 fl_X6_11 (by decide) k12 (by decide) rfl ?_
    refine A_iload_n hG 1 dX6_lower_14 rfl rfl ?_
    refine A_iload_n hG 2 dX6_lower_15 rfl rfl ?_
    refine M_iast (li' := [(13, up (h.1 13) p v)]) hG dX6_lower_16 k13 n13 (by omega) (by constructor <;> omega) rfl ?_
    refine A_iconst (n := 1) hG dX6_lower_17 ?_
    exact Ret_z hM dX6_lower_18 (by omega) (⟨_, ⟨fun i hi => up_ne _ _ hi, Or.inr ⟨rfl, by omega, by rw [up_eq]⟩⟩, rfl⟩)

set_option maxHeartbeats 2000000 in
set_option maxRecDepth 20000 in
theorem x_cheapestAt (h : AH) {p : Int} {F : Int → Int} (hF : h.1 13 = F) (hp : 0 ≤ p ∧ p ≤ 3236) : AMet yX6_cheapestAt cX6_cheapestAt 2 (some .int) 1 21 [.ref 12, vI p] h (Qi (fun z h' => ((∃ q, 0 ≤ q ∧ q < 4 ∧ z = F (p + q)) ∧ ∀ q, 0 ≤ q → q < 4 → z ≤ F (p + q)) ∧ h' = h)) := by
  subst hF
  refine AMet.of (by decide) (Nat.le_of_ble_eq_true rfl) (fun G hM => ?_)
  have hG := hM.cx
  refine A_hm0 (G := G) (L := [(0, .ref 12), (1, vI p)]) ?_
  refine A_aload_n hG 0 dX6_cheapestAt_0 rfl rfl ?_
  refine A_getR (r := 13) hG dX6_cheapestAt_1 fl_X6_11 (by decide) k12 (by decide) rfl ?_
  refine A_iload_n hG 1 dX6_cheapestAt_4 rfl rfl ?_
  refine M_iald (v := h.1 13 p) hG dX6_cheapestAt_5 k13 n13 (by omega) rfl (fun ⟨ra_5, rb_5⟩ => ?_)
  refine A_aload_n hG 0 dX6_cheapestAt_6 rfl rfl ?_
  refine A_getR (r := 13) hG dX6_cheapestAt_7 fl_X6_11 (by decide) k12 (by decide) rfl ?_
  refine A_iload_n hG 1 dX6_cheapestAt_10 rfl rfl ?_
  refine A_iconst (n := 1) hG dX6_cheapestAt_11 ?_
  refine A_iadd hG dX6_cheapestAt_12 ?_
  refine M_iald (v := h.1 13 (p + 1)) hG dX6_cheapestAt_13 k13 n13 (by omega) rfl (fun ⟨ra_13, rb_13⟩ => ?_)
  refine A_mmin hG (x := h.1 13 p) (y := h.1 13 (p + 1)) dX6_cheapestAt_14 lw_X6_112 (by constructor <;> omega) (by constructor <;> omega) (by decide) (by decide) (Nat.le_of_ble_eq_true rfl) (fun z14 hz14 => ?_)
  refine A_aload_n hG 0 dX6_cheapestAt_17 rfl rfl ?_
  refine A_getR (r := 13) hG dX6_cheapestAt_18 fl_X6_11 (by decide) k12 (by decide) rfl ?_
  refine A_iload_n hG 1 dX6_cheapestAt_21 rfl rfl ?_
  refine A_iconst (n := 2) hG dX6_cheapestAt_22 ?_
  refine A_iadd hG dX6_cheapestAt_23 ?_
  refine M_iald (v := h.1 13 (p + 2)) hG dX6_cheapestAt_24 k13 n13 (by omega) rfl (fun ⟨ra_24, rb_24⟩ => ?_)
  refine A_aload_n hG 0 dX6_cheapestAt_25 rfl rfl ?_
  refine A_getR (r := 13) hG dX6_cheapestAt_26 fl_X6_11 (by decide) k12 (by decide) rfl ?_
  refine A_iload_n hG 1 dX6_cheapestAt_29 rfl rfl ?_
  refine A_iconst (n := 3) hG dX6_cheapestAt_30 ?_
  refine A_iadd hG dX6_cheapestAt_31 ?_
  refine M_iald (v := h.1 13 (p + 3)) hG dX6_cheapestAt_32 k13 n13 (by omega) rfl (fun ⟨ra_32, rb_32⟩ => ?_)
  refine A_mmin hG (x := h.1 13 (p + 2)) (y := h.1 13 (p + 3)) dX6_cheapestAt_33 lw_X6_112 (by constructor <;> omega) (by constructor <;> omega) (by decide) (by decide) (Nat.le_of_ble_eq_true rfl) (fun z33 hz33 => ?_)
  refine A_mmin hG (x := z14) (y := z33) dX6_cheapestAt_36 lw_X6_112 (by constructor <;> omega) (by constructor <;> omega) (by decide) (by decide) (Nat.le_of_ble_eq_true rfl) (fun z36 hz36 => ?_)
  exact Ret_i hM dX6_cheapestAt_39 (by constructor <;> omega) (⟨⟨by
      rcases (show z36 = h.1 13 p ∨ z36 = h.1 13 (p + 1) ∨ z36 = h.1 13 (p + 2) ∨ z36 = h.1 13 (p + 3) by omega) with q | q | q | q
      · exact ⟨0, by omega, by omega, by rw [Int.add_zero]; exact q⟩
      · exact ⟨1, by omega, by omega, q⟩
      · exact ⟨2, by omega, by omega, q⟩
      · exact ⟨3, by omega, by omega, q⟩, fun q q0 q1 => by
      rcases (show q = 0 ∨ q = 1 ∨ q = 2 ∨ q = 3 by omega) with rfl | rfl | rfl | rfl
      · rw [Int.add_zero]; omega
      · omega
      · omega
      · omega⟩, rfl⟩)

set_option maxHeartbeats 2000000 in
set_option maxRecDepth 20000 in
theorem x_forbidAll (h : AH) {c : Int} {F : Int → Int} (hF : h.1 13 = F) (hc : 0 ≤ c ∧ c ≤ 3200) : AMet yX6_forbidAll cX6_forbidAll 3 none 0 0 [.ref 12, vI c] h (Qv (fun h' => ∃ f : Int → Int, ((∀ i, (i < c ∨ c + 40 ≤ i) → f i = F i) ∧ ∀ k, 0 ≤ k → k < 40 → f (c + k) = 100) ∧ h' = hm h [(13, f)] [] [])) := by
  subst hF
  refine AMet.of (by decide) (Nat.le_of_ble_eq_true rfl) (fun G hM => ?_)
  have hG := hM.cx
  refine A_hm0 (G := G) (L := [(0, .ref 12), (1, vI c)]) ?_
  refine A_iconst (n := 0) hG dX6_forbidAll_0 ?_
  refine A_istore_n (L' := [(2, vI 0), (0, .ref 12), (1, vI c)]) hG dX6_forbidAll_1 rfl (by decide) rfl ?_
  refine A_insI 13 (li' := [(13, h.1 13)]) rfl ?_
  have k_0 : ∀ fu : Nat, ∀ (k : Int) (f : Int → Int), (0 ≤ k ∧ k ≤ 40) → (∀ i, (i < c ∨ c + 40 ≤ i) → f i = h.1 13 i) → (∀ j, 0 ≤ j → j < k → f (c + j) = 100) → ((40 - k).toNat) < fu → G 2 [(0, .ref 12), (1, vI c), (2, vI k)] [] (hm h [(13, f)] [] []) := by
    intro fu
    induction fu with
    | zero => intro k f hk hO hI hfu; exact absurd hfu (Nat.not_lt_zero _)
    | succ fu ih_k =>
      intro k f hk hO hI hfu
      refine A_iload_n hG 2 dX6_forbidAll_2 rfl rfl ?_
      refine A_bipush (n := 40) hG dX6_forbidAll_3 (by decide) ?_
      refine A_icmp_ge hG 24 dX6_forbidAll_5 (by decide) (by constructor <;> omega) (by constructor <;> omega) (fun c_5 => ?_) (fun c_5 => ?_)
      ·
        exact Ret_v hM dX6_forbidAll_24 (⟨f, ⟨hO, fun j j0 j1 => hI j j0 (by omega)⟩, rfl⟩)
      ·
        refine A_aload_n hG 0 dX6_forbidAll_8 rfl rfl ?_
        refine A_getR (r := 13) hG dX6_forbidAll_9 fl_X6_11 (by decide) k12 (by decide) rfl ?_
        refine A_iload_n hG 1 dX6_forbidAll_12 rfl rfl ?_
        refine A_iload_n hG 2 dX6_forbidAll_13 rfl rfl ?_
        refine A_iadd hG dX6_forbidAll_14 ?_
        refine A_bipush (n := 100) hG dX6_forbidAll_15 (by decide) ?_
        refine M_iast (li' := [(13, up f (c + k) 100)]) hG dX6_forbidAll_17 k13 n13 (by omega) (by constructor <;> omega) rfl ?_
        refine A_iinc (L' := [(2, vI (k + 1)), (0, .ref 12), (1, vI c)]) hG 2 dX6_forbidAll_18 rfl (by decide) rfl ?_
        refine A_goto hG 2 dX6_forbidAll_21 (by decide) ?_
        refine A_sub hG [1, 2, 0] rfl ?_
        exact ih_k (k + 1) (up f (c + k) 100) (by omega) (fun i hi => by rw [up_ne _ _ (by omega)]; exact hO i hi) (fun j j0 j1 => by
            by_cases e : j = k
            · rw [e, up_eq]
            · rw [up_ne _ _ (by omega)]; exact hI j j0 (by omega)) (by omega)
  refine A_sub hG [1, 2, 0] rfl ?_
  exact k_0 _ 0 (h.1 13) (by omega) (fun _ _ => rfl) (fun j j0 j1 => by omega) (Nat.lt_succ_self _)

set_option maxHeartbeats 2000000 in
set_option maxRecDepth 20000 in
theorem x_lowerAll (h : AH) {c s a : Int} {F : Int → Int} (hF : h.1 13 = F) (hc : 0 ≤ c ∧ c ≤ 3200) (hs : 0 ≤ s ∧ s ≤ 3200) (d : s + 40 ≤ c ∨ c + 40 ≤ s) (ha : 0 ≤ a ∧ a ≤ 99) (hV : ∀ i, 0 ≤ i → i < 3240 → 0 ≤ F i ∧ F i ≤ 100) : AMet yX6_lowerAll cX6_lowerAll 5 none 1 22 [.ref 12, vI c, vI s, vI a] h (Qv (fun h' => ∃ f : Int → Int, (lowd c F f ∧ (∀ k, 0 ≤ k → k < 40 → f (c + k) ≤ F (s + k) + a) ∧ ∀ k x, 0 ≤ k → k < 40 → x ≤ F (c + k) → x ≤ F (s + k) + a → x ≤ f (c + k)) ∧ h' = hm h [(13, f)] [] [])) := by
  subst hF
  refine AMet.of (by decide) (Nat.le_of_ble_eq_true rfl) (fun G hM => ?_)
  have hG := hM.cx
  refine A_hm0 (G := G) (L := [(0, .ref 12), (1, vI c), (2, vI s), (3, vI a)]) ?_
  refine A_iconst (n := 0) hG dX6_lowerAll_0 ?_
  refine A_istore (L' := [(4, vI 0), (0, .ref 12), (1, vI c), (2, vI s), (3, vI a)]) hG dX6_lowerAll_1 (by decide) rfl ?_
  refine A_insI 13 (li' := [(13, h.1 13)]) rfl ?_
  have k_0 : ∀ fu : Nat, ∀ (k : Int) (f : Int → Int), (0 ≤ k ∧ k ≤ 40) → (lowd c (h.1 13) f) → (∀ j, 0 ≤ j → j < k → f (c + j) ≤ h.1 13 (s + j) + a) → (∀ j x, 0 ≤ j → j < 40 → x ≤ h.1 13 (c + j) → x ≤ h.1 13 (s + j) + a → x ≤ f (c + j)) → ((40 - k).toNat) < fu → G 3 [(0, .ref 12), (1, vI c), (2, vI s), (3, vI a), (4, vI k)] [] (hm h [(13, f)] [] []) := by
    intro fu
    induction fu with
    | zero => intro k f hk hL hI hB hfu; exact absurd hfu (Nat.not_lt_zero _)
    | succ fu ih_k =>
      intro k f hk hL hI hB hfu
      refine A_iload hG 4 dX6_lowerAll_3 rfl ?_
      refine A_bipush (n := 40) hG dX6_lowerAll_5 (by decide) ?_
      refine A_icmp_ge hG 36 dX6_lowerAll_7 (by decide) (by constructor <;> omega) (by constructor <;> omega) (fun c_7 => ?_) (fun c_7 => ?_)
      ·
        exact Ret_v hM dX6_lowerAll_36 (⟨f, ⟨hL, fun j j0 j1 => hI j j0 (by omega), hB⟩, rfl⟩)
      ·
        have hfs : f (s + k) = h.1 13 (s + k) := hL.2.1 _ (by omega)
        have hv1 := hV (s + k) (by omega) (by omega)
        have hv2 := hV (c + k) (by omega) (by omega)
        have hv3 := hL.1 (c + k)
        refine A_aload_n hG 0 dX6_lowerAll_10 rfl rfl ?_
        refine A_iload_n hG 1 dX6_lowerAll_11 rfl rfl ?_
        refine A_iload hG 4 dX6_lowerAll_12 rfl ?_
        refine A_iadd hG dX6_lowerAll_14 ?_
        refine A_aload_n hG 0 dX6_lowerAll_15 rfl rfl ?_
        refine A_getR (r := 13) hG dX6_lowerAll_16 fl_X6_11 (by decide) k12 (by decide) rfl ?_
        refine A_iload_n hG 2 dX6_lowerAll_19 rfl rfl ?_
        refine A_iload hG 4 dX6_lowerAll_20 rfl ?_
        refine A_iadd hG dX6_lowerAll_22 ?_
        refine M_iald (v := f (s + k)) hG dX6_lowerAll_23 k13 n13 (by omega) rfl (fun ⟨ra_23, rb_23⟩ => ?_)
        refine A_iload_n hG 3 dX6_lowerAll_24 rfl rfl ?_
        refine A_iadd hG dX6_lowerAll_25 ?_
        refine C_Vi (as := [vI (c + k), vI ((f (s + k)) + a)]) (st := []) (k := 12) (c := 6) hG dX6_lowerAll_26 ml_X6_86 mf_X6_lower mi_X6_lower se_X6_lower rfl (by decide) k12 (x_lower (hm h [(13, f)] [] []) (p := (c + k)) (v := ((f (s + k)) + a)) (F := f) rfl (by omega) (by constructor <;> omega)) (by decide) (by decide) rfl rfl (Nat.le_of_ble_eq_true rfl) (fun z26 g26 ri_26 hp_26 => ?_)
        obtain ⟨ra_26, rb_26⟩ := ri_26
        have hq_26 : ∃ fx : Int → Int, ((∀ i, i ≠ (c + k) → fx i = f i) ∧ ((z26 = 0 ∧ f (c + k) ≤ ((f (s + k)) + a) ∧ fx (c + k) = f (c + k)) ∨ (z26 = 1 ∧ ((f (s + k)) + a) < f (c + k) ∧ fx (c + k) = ((f (s + k)) + a)))) ∧ g26 = hm (hm h [(13, f)] [] []) [(13, fx)] [] [] := hp_26
        clear hp_26
        obtain ⟨f26, ⟨hn26, hz26⟩, rfl⟩ := hq_26
        refine A_hm (la := [(13, f26)]) (lb := []) (lc := []) rfl rfl rfl ?_
        refine A_pop hG dX6_lowerAll_29 rfl ?_
        refine A_iinc (L' := [(4, vI (k + 1)), (0, .ref 12), (1, vI c), (2, vI s), (3, vI a)]) hG 4 dX6_lowerAll_30 rfl (by decide) rfl ?_
        refine A_goto hG 3 dX6_lowerAll_33 (by decide) ?_
        refine A_sub hG [1, 2, 3, 4, 0] rfl ?_
        exact ih_k (k + 1) f26 (by omega) (lowd_tr hL ⟨fun i => by
            by_cases e : i = c + k
            · rw [e]; omega
            · rw [hn26 i e]; exact Int.le_refl _, fun i hi => hn26 i (by omega), fun i i0 i1 => by
            by_cases e : i = c + k
            · rw [e]; have := hL.2.2 (c + k) (by omega) (by omega); omega
            · rw [hn26 i e]; exact hL.2.2 i i0 i1⟩) (fun j j0 j1 => by
            by_cases e : j = k
            · subst e; omega
            · rw [hn26 _ (by omega)]; exact hI j j0 (by omega)) (fun j x j0 j1 q1 q2 => by
            have := hB j x j0 j1 q1 q2
            by_cases e : j = k
            · subst e; omega
            · rw [hn26 _ (by omega)]; exact this) (by omega)
  refine A_sub hG [1, 2, 3, 4, 0] rfl ?_
  exact k_0 _ 0 (h.1 13) (by omega) (⟨fun _ => Int.le_refl _, fun _ _ => rfl, fun i i0 i1 => (hV i i0 i1).1⟩) (fun j j0 j1 => by omega) (fun j x _ _ q _ => q) (Nat.lt_succ_self _)

/-- what a RULE makes of two blocks of four in a third -/
def jR (g : Gm) (q l r c : Int) (F f : Int → Int) (b : Int) : Prop := (b = 0 ∨ b = 1) ∧ (∀ i, f i ≤ F i) ∧ (∀ i, (i < c ∨ c + 4 ≤ i) → f i = F i) ∧ (∀ i, 0 ≤ i → i < 3240 → 0 ≤ f i) ∧ (b = 0 → ∀ i, f i = F i) ∧
  (∀ y z, 0 ≤ y → y < 4 → 0 ≤ z → z < 4 → (g 7 q = 0 ∨ y = z) → f (c + (if g 8 q = 0 then y else z)) ≤ F (l + y) + F (r + z)) ∧
  ∀ LB : Int → Int, (∀ i, LB i ≤ F i) → (∀ y z, 0 ≤ y → y < 4 → 0 ≤ z → z < 4 → (g 7 q = 0 ∨ y = z) → LB (c + (if g 8 q = 0 then y else z)) ≤ LB (l + y) + LB (r + z)) → ∀ i, LB i ≤ f i
def jC (g : Gm) (l r c : Int) (F f : Int → Int) (b : Int) : Prop := (b = 0 ∨ b = 1) ∧ lowd c F f ∧ (b = 0 → ∀ i, f i = F i) ∧ jO g l r c F f ∧ ∀ LB : Int → Int, (∀ i, LB i ≤ F i) → jL g l r c LB → ∀ i, LB i ≤ f i
set_option maxHeartbeats 2000000 in
set_option maxRecDepth 20000 in
theorem x_joinByRule (h : AH) {gn : Nat} (hg : gn = 20 ∨ gn = 40) {g : Gm} (hgx : gX h gn = g) (hOk : okG g) {q l r c : Int} {F : Int → Int} (hF : h.1 13 = F) (hq : 0 ≤ q ∧ q < g 10 1) (hl : 0 ≤ l ∧ l ≤ 3236) (hr : 0 ≤ r ∧ r ≤ 3236) (hc : 0 ≤ c ∧ c ≤ 3236) (hV : ∀ i, 0 ≤ i → i < 3240 → 0 ≤ F i ∧ F i ≤ 100) : AMet yX6_joinByRule cX6_joinByRule 11 (some .boolean) 2 42 [.ref 12, .ref gn, vI q, vI l, vI r, vI c] h (Qi (fun b h' => ∃ f : Int → Int, jR g q l r c F f b ∧ h' = hm h [(13, f)] [] [])) := by
  subst hF
  have hx := gx_r hgx hq
  have o := hOk.2.2.2.1 q hq.1 hq.2
  have hR := hOk.2.1
  refine AMet.of (by decide) (Nat.le_of_ble_eq_true rfl) (fun G hM => ?_)
  have hG := hM.cx
  refine A_hm0 (G := G) (L := [(0, .ref 12), (1, .ref gn), (2, vI q), (3, vI l), (4, vI r), (5, vI c)]) ?_
  refine A_aload_n hG 0 dX6_joinByRule_0 rfl rfl ?_
  refine A_iload_n hG 3 dX6_joinByRule_1 rfl rfl ?_
  refine C_Vi (as := [vI l]) (st := []) (k := 12) (c := 6) hG dX6_joinByRule_2 ml_X6_39 mf_X6_cheapestAt mi_X6_cheapestAt se_X6_cheapestAt rfl (by decide) k12 (x_cheapestAt (hm h [] [] []) (p := l) (F := h.1 13) rfl (by omega)) (by decide) (by decide) rfl rfl (Nat.le_of_ble_eq_true rfl) (fun z2 g2 ri_2 hp_2 => ?_)
  obtain ⟨ra_2, rb_2⟩ := ri_2
  have hq_2 : ((∃ q, 0 ≤ q ∧ q < 4 ∧ z2 = h.1 13 (l + q)) ∧ ∀ q, 0 ≤ q → q < 4 → z2 ≤ h.1 13 (l + q)) ∧ g2 = hm h [] [] [] := hp_2
  clear hp_2
  obtain ⟨⟨hm2, hz2⟩, rfl⟩ := hq_2
  refine A_istore (L' := [(6, vI z2), (0, .ref 12), (1, .ref gn), (2, vI q), (3, vI l), (4, vI r), (5, vI c)]) hG dX6_joinByRule_5 (by decide) rfl ?_
  refine A_aload_n hG 1 dX6_joinByRule_7 rfl rfl ?_
  refine A_iload hG 5 dX6_joinByRule_8 rfl ?_
  refine C_Vi (as := [vI r]) (st := []) (k := 12) (c := 6) hG dX6_joinByRule_10 ml_X6_39 mf_X6_cheapestAt mi_X6_cheapestAt se_X6_cheapestAt rfl (by decide) k12 (x_cheapestAt (hm h [] [] []) (p := r) (F := h.1 13) rfl (by omega)) (by decide) (by decide) rfl rfl (Nat.le_of_ble_eq_true rfl) (fun z10 g10 ri_10 hp_10 => ?_)
  obtain ⟨ra_10, rb_10⟩ := ri_10
  have hq_10 : ((∃ q, 0 ≤ q ∧ q < 4 ∧ z10 = h.1 13 (r + q)) ∧ ∀ q, 0 ≤ q → q < 4 → z10 ≤ h.1 13 (r + q)) ∧ g10 = hm h [] [] [] := hp_10
  clear hp_10
  obtain ⟨⟨hm10, hz10⟩, rfl⟩ := hq_10
  refine A_istore (L' := [(7, vI z10), (6, vI z2), (0, .ref 12), (1, .ref gn), (2, vI q), (3, vI l), (4, vI r), (5, vI c)]) hG dX6_joinByRule_13 (by decide) rfl ?_
  have r2 : 0 ≤ z2 ∧ z2 ≤ 100 := by obtain ⟨w, w0, w1, w2⟩ := hm2; rw [w2]; exact hV _ (by omega) (by omega)
  have r10 : 0 ≤ z10 ∧ z10 ≤ 100 := by obtain ⟨w, w0, w1, w2⟩ := hm10; rw [w2]; exact hV _ (by omega) (by omega)
  refine A_iload hG 1 dX6_joinByRule_15 rfl ?_
  refine A_iload hG 0 dX6_joinByRule_17 rfl ?_
  refine A_iadd hG dX6_joinByRule_19 ?_
  refine A_bipush (n := 100) hG dX6_joinByRule_20 (by decide) ?_
  refine A_icmp_lt hG 27 dX6_joinByRule_22 (by decide) (by constructor <;> omega) (by constructor <;> omega) (fun c_22 => ?_) (fun c_22 => ?_)
  ·
    refine A_insI 13 (li' := [(13, h.1 13)]) rfl ?_
    refine A_iconst (n := 0) hG dX6_joinByRule_27 ?_
    refine A_istore (L' := [(8, vI 0), (7, vI z10), (6, vI z2), (0, .ref 12), (1, .ref gn), (2, vI q), (3, vI l), (4, vI r), (5, vI c)]) hG dX6_joinByRule_28 (by decide) rfl ?_
    refine A_iconst (n := 0) hG dX6_joinByRule_30 ?_
    refine A_istore (L' := [(9, vI 0), (8, vI 0), (7, vI z10), (6, vI z2), (0, .ref 12), (1, .ref gn), (2, vI q), (3, vI l), (4, vI r), (5, vI c)]) hG dX6_joinByRule_31 (by decide) rfl ?_
    have m_2 : ∀ fu : Nat, ∀ (mv : Int) (m : Int) (f : Int → Int), (mv = 0 ∨ mv = 1) → (0 ≤ m ∧ m ≤ 4) → (∀ i, f i ≤ h.1 13 i) → (∀ i, (i < c ∨ c + 4 ≤ i) → f i = h.1 13 i) → (∀ i, 0 ≤ i → i < 3240 → 0 ≤ f i) → (mv = 0 → ∀ i, f i = h.1 13 i) → (∀ y z, 0 ≤ y → y < 4 → 0 ≤ z → z < 4 → (g 7 q = 0 ∨ y = z) → (if g 8 q = 0 then y else z) < m → f (c + (if g 8 q = 0 then y else z)) ≤ h.1 13 (l + y) + h.1 13 (r + z)) → (∀ LB : Int → Int, (∀ i, LB i ≤ h.1 13 i) → (∀ y z, 0 ≤ y → y < 4 → 0 ≤ z → z < 4 → (g 7 q = 0 ∨ y = z) → LB (c + (if g 8 q = 0 then y else z)) ≤ LB (l + y) + LB (r + z)) → ∀ i, LB i ≤ f i) → ((4 - m).toNat) < fu → G 33 [(0, .ref 12), (1, .ref gn), (2, vI q), (3, vI l), (4, vI r), (5, vI c), (6, vI z2), (7, vI z10), (8, vI mv), (9, vI m)] [] (hm h [(13, f)] [] []) := by
      intro fu
      induction fu with
      | zero => intro mv m f hmv hmm hle hO hN hZ hP hS hfu; exact absurd hfu (Nat.not_lt_zero _)
      | succ fu ih_m =>
        intro mv m f hmv hmm hle hO hN hZ hP hS hfu
        refine A_iload hG 9 dX6_joinByRule_33 rfl ?_
        refine A_iconst (n := 4) hG dX6_joinByRule_35 ?_
        refine A_icmp_ge hG 137 dX6_joinByRule_36 (by decide) (by constructor <;> omega) (by constructor <;> omega) (fun c_36 => ?_) (fun c_36 => ?_)
        ·
          refine A_iload hG 8 dX6_joinByRule_137 rfl ?_
          exact Ret_z hM dX6_joinByRule_139 (by omega) (⟨f, ⟨hmv, hle, hO, hN, hZ, fun y z y0 y1 z0 z1 hv => hP y z y0 y1 z0 z1 hv (by split <;> omega), hS⟩, rfl⟩)
        ·
          have fl0 := hN (l + m) (by omega) (by omega)
          have fr0 := hN (r + m) (by omega) (by omega)
          have fl1 := hle (l + m)
          have fr1 := hle (r + m)
          have fl2 := hV (l + m) (by omega) (by omega)
          have fr2 := hV (r + m) (by omega) (by omega)
          have x_3 : ∀ (x : Int), (0 ≤ x ∧ x ≤ 300) → (∀ y z, 0 ≤ y → y < 4 → 0 ≤ z → z < 4 → (g 7 q = 0 ∨ y = z) → (if g 8 q = 0 then y else z) = m → x ≤ h.1 13 (l + y) + h.1 13 (r + z)) → (∀ LB : Int → Int, (∀ i, LB i ≤ f i) → (∀ y z, 0 ≤ y → y < 4 → 0 ≤ z → z < 4 → (g 7 q = 0 ∨ y = z) → LB (c + (if g 8 q = 0 then y else z)) ≤ LB (l + y) + LB (r + z)) → LB (c + m) ≤ x) → G 114 [(0, .ref 12), (1, .ref gn), (2, vI q), (3, vI l), (4, vI r), (5, vI c), (6, vI z2), (7, vI z10), (8, vI mv), (9, vI m), (10, vI x)] [] (hm h [(13, f)] [] []) := by
            intro x hxr hx1 hx2
            refine A_aload_n hG 0 dX6_joinByRule_114 rfl rfl ?_
            refine A_iload hG 5 dX6_joinByRule_115 rfl ?_
            refine A_iload hG 9 dX6_joinByRule_117 rfl ?_
            refine A_iadd hG dX6_joinByRule_119 ?_
            refine A_iload hG 10 dX6_joinByRule_120 rfl ?_
            refine C_Vi (as := [vI (c + m), vI x]) (st := []) (k := 12) (c := 6) hG dX6_joinByRule_122 ml_X6_86 mf_X6_lower mi_X6_lower se_X6_lower rfl (by decide) k12 (x_lower (hm h [(13, f)] [] []) (p := (c + m)) (v := x) (F := f) rfl (by omega) (by constructor <;> omega)) (by decide) (by decide) rfl rfl (Nat.le_of_ble_eq_true rfl) (fun z122 g122 ri_122 hp_122 => ?_)
            obtain ⟨ra_122, rb_122⟩ := ri_122
            have hq_122 : ∃ fx : Int → Int, ((∀ i, i ≠ (c + m) → fx i = f i) ∧ ((z122 = 0 ∧ f (c + m) ≤ x ∧ fx (c + m) = f (c + m)) ∨ (z122 = 1 ∧ x < f (c + m) ∧ fx (c + m) = x))) ∧ g122 = hm (hm h [(13, f)] [] []) [(13, fx)] [] [] := hp_122
            clear hp_122
            obtain ⟨f122, ⟨hn122, hz122⟩, rfl⟩ := hq_122
            refine A_hm (la := [(13, f122)]) (lb := []) (lc := []) rfl rfl rfl ?_
            refine A_if_eq hG 131 dX6_joinByRule_125 (by decide) (by constructor <;> omega) (fun c_125 => ?_) (fun c_125 => ?_)
            ·
              refine A_iinc (L' := [(9, vI (m + 1)), (0, .ref 12), (1, .ref gn), (2, vI q), (3, vI l), (4, vI r), (5, vI c), (6, vI z2), (7, vI z10), (8, vI mv), (10, vI x)]) hG 9 dX6_joinByRule_131 rfl (by decide) rfl ?_
              refine A_goto hG 33 dX6_joinByRule_134 (by decide) ?_
              refine A_sub hG [1, 2, 3, 4, 5, 6, 7, 8, 9, 0] rfl ?_
              exact ih_m mv (m + 1) f122 (by omega) (by omega) (fun i => by
                  by_cases e : i = c + m
                  · rw [e]; have := hle (c + m); omega
                  · rw [hn122 i e]; exact hle i) (fun i hi => by rw [hn122 i (by omega)]; exact hO i hi) (fun i i0 i1 => by
                  by_cases e : i = c + m
                  · rw [e]; have := hN (c + m) (by omega) (by omega); omega
                  · rw [hn122 i e]; exact hN i i0 i1) (fun q i => by
                  by_cases e : i = c + m
                  · rw [e]; have := hZ q (c + m); omega
                  · rw [hn122 i e]; exact hZ q i) (fun y z y0 y1 z0 z1 hv hq => by
                  by_cases e : (if g 8 q = 0 then y else z) = m
                  · have := hx1 y z y0 y1 z0 z1 hv e
                    rw [e]; omega
                  · rw [hn122 _ (by omega)]; exact hP y z y0 y1 z0 z1 hv (by omega)) (fun LB h1 h2 i => by
                  have h3 := hS LB h1 h2
                  by_cases e : i = c + m
                  · rw [e]; have := h3 (c + m); have := hx2 LB h3 h2; omega
                  · rw [hn122 i e]; exact h3 i) (by omega)
            ·
              refine A_iconst (n := 1) hG dX6_joinByRule_128 ?_
              refine A_istore (L' := [(8, vI 1), (0, .ref 12), (1, .ref gn), (2, vI q), (3, vI l), (4, vI r), (5, vI c), (6, vI z2), (7, vI z10), (9, vI m), (10, vI x)]) hG dX6_joinByRule_129 (by decide) rfl ?_
              refine A_iinc (L' := [(9, vI (m + 1)), (8, vI 1), (0, .ref 12), (1, .ref gn), (2, vI q), (3, vI l), (4, vI r), (5, vI c), (6, vI z2), (7, vI z10), (10, vI x)]) hG 9 dX6_joinByRule_131 rfl (by decide) rfl ?_
              refine A_goto hG 33 dX6_joinByRule_134 (by decide) ?_
              refine A_sub hG [2, 3, 4, 5, 6, 7, 8, 9, 1, 0] rfl ?_
              exact ih_m 1 (m + 1) f122 (by omega) (by omega) (fun i => by
                  by_cases e : i = c + m
                  · rw [e]; have := hle (c + m); omega
                  · rw [hn122 i e]; exact hle i) (fun i hi => by rw [hn122 i (by omega)]; exact hO i hi) (fun i i0 i1 => by
                  by_cases e : i = c + m
                  · rw [e]; have := hN (c + m) (by omega) (by omega); omega
                  · rw [hn122 i e]; exact hN i i0 i1) (fun q => by omega) (fun y z y0 y1 z0 z1 hv hq => by
                  by_cases e : (if g 8 q = 0 then y else z) = m
                  · have := hx1 y z y0 y1 z0 z1 hv e
                    rw [e]; omega
                  · rw [hn122 _ (by omega)]; exact hP y z y0 y1 z0 z1 hv (by omega)) (fun LB h1 h2 i => by
                  have h3 := hS LB h1 h2
                  by_cases e : i = c + m
                  · rw [e]; have := h3 (c + m); have := hx2 LB h3 h2; omega
                  · rw [hn122 i e]; exact h3 i) (by omega)
          refine A_aload_n hG 1 dX6_joinByRule_39 rfl rfl ?_
          refine A_getR (r := (gn + 8)) hG dX6_joinByRule_40 fl_X6_105 (by decide) (kg0 hg) (by decide) rfl ?_
          refine A_iload_n hG 2 dX6_joinByRule_43 rfl rfl ?_
          refine M_zald (v := g 7 q) hG dX6_joinByRule_44 (kg8 hg) (ng8 hg) (by omega) ((congrFun (show alk [(13, f)] (gn + 8) (h.1 (gn + 8)) = h.1 (gn + 8) from (by simp (disch := omega) only [alk, if_neg, if_pos, ite_true])) q).trans (hx.2.2.2.1)) (fun ⟨ra_44, rb_44⟩ => ?_)
          refine A_if_eq hG 73 dX6_joinByRule_45 (by decide) (by constructor <;> omega) (fun c_45 => ?_) (fun c_45 => ?_)
          ·
            refine A_aload_n hG 1 dX6_joinByRule_73 rfl rfl ?_
            refine A_getR (r := (gn + 9)) hG dX6_joinByRule_74 fl_X6_109 (by decide) (kg0 hg) (by decide) rfl ?_
            refine A_iload_n hG 2 dX6_joinByRule_77 rfl rfl ?_
            refine M_zald (v := g 8 q) hG dX6_joinByRule_78 (kg9 hg) (ng9 hg) (by omega) ((congrFun (show alk [(13, f)] (gn + 9) (h.1 (gn + 9)) = h.1 (gn + 9) from (by simp (disch := omega) only [alk, if_neg, if_pos, ite_true])) q).trans (hx.2.2.2.2)) (fun ⟨ra_78, rb_78⟩ => ?_)
            refine A_if_eq hG 100 dX6_joinByRule_79 (by decide) (by constructor <;> omega) (fun c_79 => ?_) (fun c_79 => ?_)
            ·
              refine A_aload_n hG 0 dX6_joinByRule_100 rfl rfl ?_
              refine A_getR (r := 13) hG dX6_joinByRule_101 fl_X6_11 (by decide) k12 (by decide) rfl ?_
              refine A_iload_n hG 3 dX6_joinByRule_104 rfl rfl ?_
              refine A_iload hG 9 dX6_joinByRule_105 rfl ?_
              refine A_iadd hG dX6_joinByRule_107 ?_
              refine M_iald (v := f (l + m)) hG dX6_joinByRule_108 k13 n13 (by omega) rfl (fun ⟨ra_108, rb_108⟩ => ?_)
              refine A_iload hG 7 dX6_joinByRule_109 rfl ?_
              refine A_iadd hG dX6_joinByRule_111 ?_
              refine A_istore (L' := [(10, vI ((f (l + m)) + z10)), (0, .ref 12), (1, .ref gn), (2, vI q), (3, vI l), (4, vI r), (5, vI c), (6, vI z2), (7, vI z10), (8, vI mv), (9, vI m)]) hG dX6_joinByRule_112 (by decide) rfl ?_
              refine A_sub hG [1, 2, 3, 4, 5, 6, 7, 8, 9, 10, 0] rfl ?_
              exact x_3 ((f (l + m)) + z10) (by omega) (fun y z y0 y1 z0 z1 hv e => by rw [if_pos (by omega)] at e; subst e; have := hz10 z z0 z1; have := hle (l + y); omega) (fun LB h1 h2 => by
                  obtain ⟨w, w0, w1, w2⟩ := hm10
                  have e := h2 m w (by omega) (by omega) w0 w1 (Or.inl (by omega))
                  rw [if_pos (by omega)] at e
                  have := h1 (l + m); have := h1 (r + w); have := hle (r + w); omega)
            ·
              refine A_iload hG 6 dX6_joinByRule_82 rfl ?_
              refine A_aload_n hG 0 dX6_joinByRule_84 rfl rfl ?_
              refine A_getR (r := 13) hG dX6_joinByRule_85 fl_X6_11 (by decide) k12 (by decide) rfl ?_
              refine A_iload hG 4 dX6_joinByRule_88 rfl ?_
              refine A_iload hG 9 dX6_joinByRule_90 rfl ?_
              refine A_iadd hG dX6_joinByRule_92 ?_
              refine M_iald (v := f (r + m)) hG dX6_joinByRule_93 k13 n13 (by omega) rfl (fun ⟨ra_93, rb_93⟩ => ?_)
              refine A_iadd hG dX6_joinByRule_94 ?_
              refine A_istore (L' := [(10, vI (z2 + (f (r + m)))), (0, .ref 12), (1, .ref gn), (2, vI q), (3, vI l), (4, vI r), (5, vI c), (6, vI z2), (7, vI z10), (8, vI mv), (9, vI m)]) hG dX6_joinByRule_95 (by decide) rfl ?_
              refine A_goto hG 114 dX6_joinByRule_97 (by decide) ?_
              refine A_sub hG [1, 2, 3, 4, 5, 6, 7, 8, 9, 10, 0] rfl ?_
              exact x_3 (z2 + (f (r + m))) (by omega) (fun y z y0 y1 z0 z1 hv e => by rw [if_neg (by omega)] at e; subst e; have := hz2 y y0 y1; have := hle (r + z); omega) (fun LB h1 h2 => by
                  obtain ⟨w, w0, w1, w2⟩ := hm2
                  have e := h2 w m w0 w1 (by omega) (by omega) (Or.inl (by omega))
                  rw [if_neg (by omega)] at e
                  have := h1 (l + w); have := h1 (r + m); have := hle (l + w); omega)
          ·
            refine A_aload_n hG 0 dX6_joinByRule_48 rfl rfl ?_
            refine A_getR (r := 13) hG dX6_joinByRule_49 fl_X6_11 (by decide) k12 (by decide) rfl ?_
            refine A_iload_n hG 3 dX6_joinByRule_52 rfl rfl ?_
            refine A_iload hG 9 dX6_joinByRule_53 rfl ?_
            refine A_iadd hG dX6_joinByRule_55 ?_
            refine M_iald (v := f (l + m)) hG dX6_joinByRule_56 k13 n13 (by omega) rfl (fun ⟨ra_56, rb_56⟩ => ?_)
            refine A_aload_n hG 0 dX6_joinByRule_57 rfl rfl ?_
            refine A_getR (r := 13) hG dX6_joinByRule_58 fl_X6_11 (by decide) k12 (by decide) rfl ?_
            refine A_iload hG 4 dX6_joinByRule_61 rfl ?_
            refine A_iload hG 9 dX6_joinByRule_63 rfl ?_
            refine A_iadd hG dX6_joinByRule_65 ?_
            refine M_iald (v := f (r + m)) hG dX6_joinByRule_66 k13 n13 (by omega) rfl (fun ⟨ra_66, rb_66⟩ => ?_)
            refine A_iadd hG dX6_joinByRule_67 ?_
            refine A_istore (L' := [(10, vI ((f (l + m)) + (f (r + m)))), (0, .ref 12), (1, .ref gn), (2, vI q), (3, vI l), (4, vI r), (5, vI c), (6, vI z2), (7, vI z10), (8, vI mv), (9, vI m)]) hG dX6_joinByRule_68 (by decide) rfl ?_
            refine A_goto hG 114 dX6_joinByRule_70 (by decide) ?_
            refine A_sub hG [1, 2, 3, 4, 5, 6, 7, 8, 9, 10, 0] rfl ?_
            exact x_3 ((f (l + m)) + (f (r + m))) (by omega) (fun y z y0 y1 z0 z1 hv e => by
                have e1 : y = z := by omega
                subst e1
                have e2 : y = m := by split at e <;> omega
                subst e2
                have := hle (l + y); have := hle (r + y); omega) (fun LB h1 h2 => by
                have e := h2 m m (by omega) (by omega) (by omega) (by omega) (Or.inr rfl)
                rw [show (if g 8 q = 0 then m else m) = m by split <;> rfl] at e
                have := h1 (l + m); have := h1 (r + m); omega)
    refine A_sub hG [4, 5, 6, 7, 8, 9, 3, 2, 1, 0] rfl ?_
    exact m_2 _ 0 0 (h.1 13) (by omega) (by omega) (fun _ => Int.le_refl _) (fun _ _ => rfl) (fun i i0 i1 => (hV i i0 i1).1) (fun _ _ => rfl) (fun y z y0 y1 z0 z1 hv hq => by split at hq <;> omega) (fun LB h1 _ => h1) (Nat.lt_succ_self _)
  ·
    refine A_insI 13 (li' := [(13, h.1 13)]) rfl ?_
    refine A_iconst (n := 0) hG dX6_joinByRule_25 ?_
    exact Ret_z hM dX6_joinByRule_26 (by omega) (⟨h.1 13, ⟨Or.inl rfl, fun _ => Int.le_refl _, fun _ _ => rfl, fun i i0 i1 => (hV i i0 i1).1, fun _ _ => rfl, fun y z y0 y1 z0 z1 hv => by
        have := hz2 y y0 y1; have := hz10 z z0 z1
        have := hV (c + (if g 8 q = 0 then y else z)) (by split <;> omega) (by split <;> omega)
        omega, fun LB h1 _ => h1⟩, rfl⟩)

/-- one more RULE -/
theorem jC_s {g : Gm} {l r c j b mv : Int} {F f f' : Int → Int} (hOk : okG g) (hj : 0 ≤ j ∧ j < g 10 1) (hL : lowd c F f) (hZ : mv = 0 → ∀ i, f i = F i) (hP : ∀ q y z, q < j → vld g q y z → f (c + tgt g q y z) ≤ F (l + (4 * g 5 q + y)) + F (r + (4 * g 6 q + z))) (hS : ∀ LB : Int → Int, (∀ i, LB i ≤ F i) → jL g l r c LB → ∀ i, LB i ≤ f i) (h : jR g j (l + (g 5 j) * 4) (r + (g 6 j) * 4) (c + (g 4 j) * 4) f f' b) :
    lowd c F f' ∧ (b = 0 ∧ mv = 0 → ∀ i, f' i = F i) ∧ (∀ q y z, q < j + 1 → vld g q y z → f' (c + tgt g q y z) ≤ F (l + (4 * g 5 q + y)) + F (r + (4 * g 6 q + z))) ∧ ∀ LB : Int → Int, (∀ i, LB i ≤ F i) → jL g l r c LB → ∀ i, LB i ≤ f' i := by
  obtain ⟨h1, h2, h3, h4, h5, h6, h7⟩ := h
  have o := hOk.2.2.2.1 j hj.1 hj.2
  refine ⟨lowd_tr hL ⟨h2, fun i hi => h3 i (by omega), h4⟩, fun q i => (h5 q.1 i).trans (hZ q.2 i), fun q y z hq hv => ?_, fun LB l1 l2 => h7 LB (hS LB l1 l2) (fun y z y0 y1 z0 z1 hv => ?_)⟩
  · by_cases e : q = j
    · subst e
      have := h6 y z hv.2.1.1 hv.2.1.2 hv.2.2.1.1 hv.2.2.1.2 hv.2.2.2
      have a := hL.1 (l + (4 * g 5 q + y)); have b := hL.1 (r + (4 * g 6 q + z))
      rw [show l + (g 5 q) * 4 + y = l + (4 * g 5 q + y) by omega, show r + (g 6 q) * 4 + z = r + (4 * g 6 q + z) by omega] at this
      unfold tgt
      rw [show c + (4 * g 4 q + (if g 8 q = 0 then y else z)) = c + (g 4 q) * 4 + (if g 8 q = 0 then y else z) by omega]
      omega
    · exact Int.le_trans (h2 _) (hP q y z (by omega) hv)
  · have := l2 j y z ⟨hj, ⟨y0, y1⟩, ⟨z0, z1⟩, hv⟩
    unfold tgt at this
    rw [show l + (g 5 j) * 4 + y = l + (4 * g 5 j + y) by omega, show r + (g 6 j) * 4 + z = r + (4 * g 6 j + z) by omega, show c + (g 4 j) * 4 + (if g 8 j = 0 then y else z) = c + (4 * g 4 j + (if g 8 j = 0 then y else z)) by omega]
    exact this
set_option maxHeartbeats 2000000 in
set_option maxRecDepth 20000 in
theorem x_joinCells (h : AH) {gn : Nat} (hg : gn = 20 ∨ gn = 40) {g : Gm} (hgx : gX h gn = g) (hOk : okG g) {l r c : Int} {F : Int → Int} (hF : h.1 13 = F) (hl : 0 ≤ l ∧ l ≤ 3200) (hr : 0 ≤ r ∧ r ≤ 3200) (hc : 0 ≤ c ∧ c ≤ 3200) (hV : ∀ i, 0 ≤ i → i < 3240 → 0 ≤ F i ∧ F i ≤ 100) : AMet yX6_joinCells cX6_joinCells 9 (some .boolean) 3 72 [.ref 12, .ref gn, vI l, vI r, vI c] h (Qi (fun b h' => ∃ f : Int → Int, jC g l r c F f b ∧ h' = hm h [(13, f)] [] [])) := by
  subst hF
  have hR := hOk.2.1
  refine AMet.of (by decide) (Nat.le_of_ble_eq_true rfl) (fun G hM => ?_)
  have hG := hM.cx
  refine A_hm0 (G := G) (L := [(0, .ref 12), (1, .ref gn), (2, vI l), (3, vI r), (4, vI c)]) ?_
  refine A_iconst (n := 0) hG dX6_joinCells_0 ?_
  refine A_istore (L' := [(5, vI 0), (0, .ref 12), (1, .ref gn), (2, vI l), (3, vI r), (4, vI c)]) hG dX6_joinCells_1 (by decide) rfl ?_
  refine A_iconst (n := 0) hG dX6_joinCells_3 ?_
  refine A_istore (L' := [(6, vI 0), (5, vI 0), (0, .ref 12), (1, .ref gn), (2, vI l), (3, vI r), (4, vI c)]) hG dX6_joinCells_4 (by decide) rfl ?_
  refine A_insI 13 (li' := [(13, h.1 13)]) rfl ?_
  have j_0 : ∀ fu : Nat, ∀ (mv : Int) (j : Int) (f : Int → Int), (mv = 0 ∨ mv = 1) → (0 ≤ j ∧ j ≤ g 10 1) → (lowd c (h.1 13) f) → (mv = 0 → ∀ i, f i = h.1 13 i) → (∀ q y z, q < j → vld g q y z → f (c + tgt g q y z) ≤ h.1 13 (l + (4 * g 5 q + y)) + h.1 13 (r + (4 * g 6 q + z))) → (∀ LB : Int → Int, (∀ i, LB i ≤ h.1 13 i) → jL g l r c LB → ∀ i, LB i ≤ f i) → ((25 - j).toNat) < fu → G 6 [(0, .ref 12), (1, .ref gn), (2, vI l), (3, vI r), (4, vI c), (5, vI mv), (6, vI j)] [] (hm h [(13, f)] [] []) := by
    intro fu
    induction fu with
    | zero => intro mv j f hmv hj hL hZ hP hS hfu; exact absurd hfu (Nat.not_lt_zero _)
    | succ fu ih_j =>
      intro mv j f hmv hj hL hZ hP hS hfu
      have hVf : ∀ i, 0 ≤ i → i < 3240 → 0 ≤ f i ∧ f i ≤ 100 := fun i i0 i1 => ⟨hL.2.2 i i0 i1, Int.le_trans (hL.1 i) (hV i i0 i1).2⟩
      refine A_iload hG 6 dX6_joinCells_6 rfl ?_
      refine A_aload_n hG 1 dX6_joinCells_8 rfl rfl ?_
      refine M_getI (z := 10) (v := g 10 1) hG dX6_joinCells_9 fl_X6_89 (by decide) (kg0 hg) rfl rfl ((congrFun (show alk [(13, f)] gn (h.1 gn) = h.1 gn from (by simp (disch := omega) only [alk, if_neg, if_pos, ite_true])) 10).trans ((gx_n hgx).2)) (fun ⟨ra_9, rb_9⟩ => ?_)
      refine A_icmp_ge hG 76 dX6_joinCells_12 (by decide) (by constructor <;> omega) (by constructor <;> omega) (fun c_12 => ?_) (fun c_12 => ?_)
      ·
        refine A_iload hG 5 dX6_joinCells_76 rfl ?_
        exact Ret_z hM dX6_joinCells_78 (by omega) (⟨f, ⟨hmv, hL, hZ, fun q y z hv => hP q y z (by have := hv.1; omega) hv, hS⟩, rfl⟩)
      ·
        have hx := gx_r hgx (r := j) (by omega)
        have o := hOk.2.2.2.1 j (by omega) (by omega)
        refine A_iload_n hG 2 dX6_joinCells_15 rfl rfl ?_
        refine A_aload_n hG 1 dX6_joinCells_16 rfl rfl ?_
        refine A_getR (r := (gn + 6)) hG dX6_joinCells_17 fl_X6_92 (by decide) (kg0 hg) (by decide) rfl ?_
        refine A_iload hG 6 dX6_joinCells_20 rfl ?_
        refine M_iald (v := g 5 j) hG dX6_joinCells_22 (kg6 hg) (ng6 hg) (by omega) ((congrFun (show alk [(13, f)] (gn + 6) (h.1 (gn + 6)) = h.1 (gn + 6) from (by simp (disch := omega) only [alk, if_neg, if_pos, ite_true])) j).trans (hx.2.1)) (fun ⟨ra_22, rb_22⟩ => ?_)
        refine A_iconst (n := 4) hG dX6_joinCells_23 ?_
        refine A_imul hG dX6_joinCells_24 ?_
        refine A_iadd hG dX6_joinCells_25 ?_
        refine A_istore (L' := [(7, vI (l + ((g 5 j) * 4))), (0, .ref 12), (1, .ref gn), (2, vI l), (3, vI r), (4, vI c), (5, vI mv), (6, vI j)]) hG dX6_joinCells_26 (by decide) rfl ?_
        refine A_iload_n hG 4 dX6_joinCells_28 rfl rfl ?_
        refine A_aload_n hG 2 dX6_joinCells_29 rfl rfl ?_
        refine A_getR (r := (gn + 7)) hG dX6_joinCells_30 fl_X6_95 (by decide) (kg0 hg) (by decide) rfl ?_
        refine A_iload hG 7 dX6_joinCells_33 rfl ?_
        refine M_iald (v := g 6 j) hG dX6_joinCells_35 (kg7 hg) (ng7 hg) (by omega) ((congrFun (show alk [(13, f)] (gn + 7) (h.1 (gn + 7)) = h.1 (gn + 7) from (by simp (disch := omega) only [alk, if_neg, if_pos, ite_true])) j).trans (hx.2.2.1)) (fun ⟨ra_35, rb_35⟩ => ?_)
        refine A_iconst (n := 4) hG dX6_joinCells_36 ?_
        refine A_imul hG dX6_joinCells_37 ?_
        refine A_iadd hG dX6_joinCells_38 ?_
        refine A_istore (L' := [(8, vI (r + ((g 6 j) * 4))), (7, vI (l + ((g 5 j) * 4))), (0, .ref 12), (1, .ref gn), (2, vI l), (3, vI r), (4, vI c), (5, vI mv), (6, vI j)]) hG dX6_joinCells_39 (by decide) rfl ?_
        refine A_aload_n hG 2 dX6_joinCells_41 rfl rfl ?_
        refine A_aload_n hG 3 dX6_joinCells_42 rfl rfl ?_
        refine A_iload hG 8 dX6_joinCells_43 rfl ?_
        refine A_iload hG 1 dX6_joinCells_45 rfl ?_
        refine A_iload hG 0 dX6_joinCells_47 rfl ?_
        refine A_iload hG 6 dX6_joinCells_49 rfl ?_
        refine A_aload_n hG 3 dX6_joinCells_51 rfl rfl ?_
        refine A_getR (r := (gn + 5)) hG dX6_joinCells_52 fl_X6_98 (by decide) (kg0 hg) (by decide) rfl ?_
        refine A_iload hG 8 dX6_joinCells_55 rfl ?_
        refine M_iald (v := g 4 j) hG dX6_joinCells_57 (kg5 hg) (ng5 hg) (by omega) ((congrFun (show alk [(13, f)] (gn + 5) (h.1 (gn + 5)) = h.1 (gn + 5) from (by simp (disch := omega) only [alk, if_neg, if_pos, ite_true])) j).trans (hx.1)) (fun ⟨ra_57, rb_57⟩ => ?_)
        refine A_iconst (n := 4) hG dX6_joinCells_58 ?_
        refine A_imul hG dX6_joinCells_59 ?_
        refine A_iadd hG dX6_joinCells_60 ?_
        refine C_Vi (as := [.ref gn, vI j, vI (l + ((g 5 j) * 4)), vI (r + ((g 6 j) * 4)), vI (c + ((g 4 j) * 4))]) (st := []) (k := 12) (c := 6) hG dX6_joinCells_61 ml_X6_101 mf_X6_joinByRule mi_X6_joinByRule se_X6_joinByRule rfl (by decide) k12 (x_joinByRule (hm h [(13, f)] [] []) hg (g := g) ((gX_li hg rfl).trans hgx) hOk (q := j) (l := (l + ((g 5 j) * 4))) (r := (r + ((g 6 j) * 4))) (c := (c + ((g 4 j) * 4))) (F := f) rfl (by omega) (by omega) (by omega) (by omega) hVf) (by decide) (by decide) rfl rfl (Nat.le_of_ble_eq_true rfl) (fun z61 g61 ri_61 hp_61 => ?_)
        obtain ⟨ra_61, rb_61⟩ := ri_61
        have hq_61 : ∃ fx : Int → Int, jR g j (l + ((g 5 j) * 4)) (r + ((g 6 j) * 4)) (c + ((g 4 j) * 4)) f fx z61 ∧ g61 = hm (hm h [(13, f)] [] []) [(13, fx)] [] [] := hp_61
        clear hp_61
        obtain ⟨f61, hj61, rfl⟩ := hq_61
        have hb61 := hj61.1
        refine A_hm (la := [(13, f61)]) (lb := []) (lc := []) rfl rfl rfl ?_
        refine A_if_eq hG 70 dX6_joinCells_64 (by decide) (by constructor <;> omega) (fun c_64 => ?_) (fun c_64 => ?_)
        ·
          refine A_iinc (L' := [(6, vI (j + 1)), (8, vI (r + ((g 6 j) * 4))), (7, vI (l + ((g 5 j) * 4))), (0, .ref 12), (1, .ref gn), (2, vI l), (3, vI r), (4, vI c), (5, vI mv)]) hG 8 dX6_joinCells_70 rfl (by decide) rfl ?_
          refine A_goto hG 6 dX6_joinCells_73 (by decide) ?_
          refine A_sub hG [3, 4, 5, 6, 7, 8, 0] rfl ?_
          exact ih_j mv (j + 1) f61 (by omega) (by omega) ((jC_s hOk (by omega) hL hZ hP hS hj61).1) (fun q => (jC_s hOk (by omega) hL hZ hP hS hj61).2.1 ⟨c_64, q⟩) ((jC_s hOk (by omega) hL hZ hP hS hj61).2.2.1) ((jC_s hOk (by omega) hL hZ hP hS hj61).2.2.2) (by omega)
        ·
          refine A_iconst (n := 1) hG dX6_joinCells_67 ?_
          refine A_istore (L' := [(5, vI 1), (8, vI (r + ((g 6 j) * 4))), (7, vI (l + ((g 5 j) * 4))), (0, .ref 12), (1, .ref gn), (2, vI l), (3, vI r), (4, vI c), (6, vI j)]) hG dX6_joinCells_68 (by decide) rfl ?_
          refine A_iinc (L' := [(6, vI (j + 1)), (5, vI 1), (8, vI (r + ((g 6 j) * 4))), (7, vI (l + ((g 5 j) * 4))), (0, .ref 12), (1, .ref gn), (2, vI l), (3, vI r), (4, vI c)]) hG 8 dX6_joinCells_70 rfl (by decide) rfl ?_
          refine A_goto hG 6 dX6_joinCells_73 (by decide) ?_
          refine A_sub hG [4, 5, 6, 7, 8, 1, 0] rfl ?_
          exact ih_j 1 (j + 1) f61 (by omega) (by omega) ((jC_s hOk (by omega) hL hZ hP hS hj61).1) (fun q => by omega) ((jC_s hOk (by omega) hL hZ hP hS hj61).2.2.1) ((jC_s hOk (by omega) hL hZ hP hS hj61).2.2.2) (by omega)
  refine A_sub hG [2, 3, 4, 5, 6, 1, 0] rfl ?_
  exact j_0 _ 0 0 (h.1 13) (by omega) (by omega) (⟨fun _ => Int.le_refl _, fun _ _ => rfl, fun i i0 i1 => (hV i i0 i1).1⟩) (fun _ _ => rfl) (fun q y z hq hv => by have := hv.1; omega) (fun LB h1 _ => h1) (Nat.lt_succ_self _)

end
