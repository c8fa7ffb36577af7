/-! the class: lanes (printed by gen) -/
section
theorem bitL_not (y : Int64) {i : Int} (hi : 0 ≤ i ∧ i < 64) : bitL (y ^^^ i2l (-1)) i ↔ ¬ bitL y i := by
  unfold bitL
  have e : (i2l (-1)).toBitVec = BitVec.allOnes 64 := by decide
  rw [Int64.toBitVec_xor, e, BitVec.getLsbD_xor, BitVec.getLsbD_allOnes]
  have : i.toNat < 64 := by omega
  simp [this]
theorem jn_congr4 {g : Gm} {fs fs' : Int → Prop} {r m : Int} {A A' B B' : Int → Prop} (hf : fs r ↔ fs' r) (hm : 0 ≤ m ∧ m < 4) (hA : ∀ q, 0 ≤ q → q < 4 → (A q ↔ A' q)) (hB : ∀ q, 0 ≤ q → q < 4 → (B q ↔ B' q)) : jn g fs r m A B ↔ jn g fs' r m A' B' := by
  have ex : ∀ C C' : Int → Prop, (∀ q, 0 ≤ q → q < 4 → (C q ↔ C' q)) → ((∃ q, 0 ≤ q ∧ q < 4 ∧ C q) ↔ ∃ q, 0 ≤ q ∧ q < 4 ∧ C' q) := fun C C' h => ⟨fun ⟨q, a, b, c⟩ => ⟨q, a, b, (h q a b).mp c⟩, fun ⟨q, a, b, c⟩ => ⟨q, a, b, (h q a b).mpr c⟩⟩
  unfold jn
  rw [ex A A' hA, ex B B' hB, hf, hA m hm.1 hm.2, hB m hm.1 hm.2]
theorem PJ_a {g : Gm} {fs : Int → Prop} {w : Int → Int} {n f a : Int} (ha : 1 ≤ a) (kd m : Int) : PJ g fs w n f (a + 1) 0 kd m ↔ PJ g fs w n f a 0 kd m ∨ ∃ r, 0 ≤ r ∧ r < g 10 1 ∧ g 4 r = kd ∧ jn g fs r m (rd g fs w a f (g 5 r)) (rd g fs w (n - a) (f + a) (g 6 r)) := by
  constructor
  · rintro (h | ⟨b, q, h1, h2, h3⟩)
    · exact Or.inl (Or.inl h)
    · by_cases e : b = a
      · subst e
        exact Or.inr ⟨q, by omega, by omega, h3⟩
      · exact Or.inl (Or.inr ⟨b, q, h1, by omega, h3⟩)
  · rintro ((h | ⟨b, q, h1, h2, h3⟩) | ⟨r, r1, r2, h3⟩)
    · exact Or.inl h
    · exact Or.inr ⟨b, q, h1, by omega, h3⟩
    · exact Or.inr ⟨a, r, ha, by omega, h3⟩
/-- what the code's four terms make of one lane -/
theorem jn_lane {g : Gm} {fs : Int → Prop} {r m : Int} {A B : Int → Prop} {mu hd an bn : Prop} (hm : 0 ≤ m ∧ m < 4) (h1 : mu ↔ g 7 r = 1 ∧ ¬ fs r) (h2 : an ↔ ∃ q, 0 ≤ q ∧ q < 4 ∧ A q) (h3 : bn ↔ ∃ q, 0 ≤ q ∧ q < 4 ∧ B q) (h4 : (g 8 r = 0 ∧ (hd ↔ A m ∧ bn)) ∨ (g 8 r ≠ 0 ∧ (hd ↔ an ∧ B m))) : (((A m ∧ B m) ∧ mu) ∨ (hd ∧ ¬ mu)) ↔ jn g fs r m A B := by
  unfold jn
  rw [← h1, ← h2, ← h3]
  by_cases c : mu
  · constructor
    · rintro (⟨⟨a, b⟩, -⟩ | ⟨-, q⟩)
      · exact ⟨h2.mpr ⟨m, hm.1, hm.2, a⟩, h3.mpr ⟨m, hm.1, hm.2, b⟩, fun _ => ⟨a, b⟩, fun q => absurd c q⟩
      · exact absurd c q
    · rintro ⟨-, -, q, -⟩
      exact Or.inl ⟨q c, c⟩
  · rcases h4 with ⟨e, h4⟩ | ⟨e, h4⟩
    · constructor
      · rintro (⟨-, q⟩ | ⟨q, -⟩)
        · exact absurd q c
        · obtain ⟨a, b⟩ := h4.mp q
          exact ⟨h2.mpr ⟨m, hm.1, hm.2, a⟩, b, fun q => absurd q c, fun _ => ⟨fun _ => a, fun q => absurd e q⟩⟩
      · rintro ⟨-, b, -, q⟩
        exact Or.inr ⟨h4.mpr ⟨(q c).1 e, b⟩, c⟩
    · constructor
      · rintro (⟨-, q⟩ | ⟨q, -⟩)
        · exact absurd q c
        · obtain ⟨a, b⟩ := h4.mp q
          exact ⟨a, h3.mpr ⟨m, hm.1, hm.2, b⟩, fun q => absurd q c, fun _ => ⟨fun q => absurd q e, fun _ => b⟩⟩
      · rintro ⟨a, -, -, q⟩
        exact Or.inr ⟨h4.mpr ⟨a, (q c).2 e⟩, c⟩
set_option maxHeartbeats 2000000 in
set_option maxRecDepth 20000 in
theorem x_anyAt (h : AH) {p : Int} (hp : 0 ≤ p ∧ p ≤ 2556) : AMet yX4_anyAt cX4_anyAt 2 (some .long) 0 0 [.ref 14, vI p] h (Ql (fun z h' => (∀ x, bitL z x ↔ ∃ q, 0 ≤ q ∧ q < 4 ∧ bitL (h.2.1 15 (p + q)) x) ∧ h' = h)) := by
  refine AMet.of (by decide) (Nat.le_of_ble_eq_true rfl) (fun G hM => ?_)
  have hG := hM.cx
  refine A_hm0 (G := G) (L := [(0, .ref 14), (1, vI p)]) ?_
  refine A_aload_n hG 0 dX4_anyAt_0 rfl rfl ?_
  refine A_getR (r := 15) hG dX4_anyAt_1 fl_X4_15 (by decide) k14 (by decide) rfl ?_
  refine A_iload_n hG 1 dX4_anyAt_4 rfl rfl ?_
  refine M_lald (v := h.2.1 15 p) hG dX4_anyAt_5 k15 n15 (by omega) rfl ?_
  refine A_aload_n hG 0 dX4_anyAt_6 rfl rfl ?_
  refine A_getR (r := 15) hG dX4_anyAt_7 fl_X4_15 (by decide) k14 (by decide) rfl ?_
  refine A_iload_n hG 1 dX4_anyAt_10 rfl rfl ?_
  refine A_iconst (n := 1) hG dX4_anyAt_11 ?_
  refine A_iadd hG dX4_anyAt_12 ?_
  refine M_lald (v := h.2.1 15 (p + 1)) hG dX4_anyAt_13 k15 n15 (by omega) rfl ?_
  refine A_lor hG dX4_anyAt_14 ?_
  refine A_aload_n hG 0 dX4_anyAt_15 rfl rfl ?_
  refine A_getR (r := 15) hG dX4_anyAt_16 fl_X4_15 (by decide) k14 (by decide) rfl ?_
  refine A_iload_n hG 1 dX4_anyAt_19 rfl rfl ?_
  refine A_iconst (n := 2) hG dX4_anyAt_20 ?_
  refine A_iadd hG dX4_anyAt_21 ?_
  refine M_lald (v := h.2.1 15 (p + 2)) hG dX4_anyAt_22 k15 n15 (by omega) rfl ?_
  refine A_lor hG dX4_anyAt_23 ?_
  refine A_aload_n hG 0 dX4_anyAt_24 rfl rfl ?_
  refine A_getR (r := 15) hG dX4_anyAt_25 fl_X4_15 (by decide) k14 (by decide) rfl ?_
  refine A_iload_n hG 1 dX4_anyAt_28 rfl rfl ?_
  refine A_iconst (n := 3) hG dX4_anyAt_29 ?_
  refine A_iadd hG dX4_anyAt_30 ?_
  refine M_lald (v := h.2.1 15 (p + 3)) hG dX4_anyAt_31 k15 n15 (by omega) rfl ?_
  refine A_lor hG dX4_anyAt_32 ?_
  exact Ret_l hM dX4_anyAt_33 (⟨fun x => by
      rw [bitL_or, bitL_or, bitL_or]
      constructor
      · rintro (((q | q) | q) | q)
        · exact ⟨0, by omega, by omega, by rw [Int.add_zero]; exact q⟩
        · exact ⟨1, by omega, by omega, q⟩
        · exact ⟨2, by omega, by omega, q⟩
        · exact ⟨3, by omega, by omega, q⟩
      · rintro ⟨q, q0, q1, q2⟩
        rcases (show q = 0 ∨ q = 1 ∨ q = 2 ∨ q = 3 by omega) with rfl | rfl | rfl | rfl
        · rw [Int.add_zero] at q2; exact Or.inl (Or.inl (Or.inl q2))
        · exact Or.inl (Or.inl (Or.inr q2))
        · exact Or.inl (Or.inr q2)
        · exact Or.inr q2, rfl⟩)

set_option maxHeartbeats 2000000 in
set_option maxRecDepth 20000 in
theorem x_readLanes (h : AH) {n : Int} (hn : 1 ≤ n ∧ n ≤ 8) : AMet yX4_readLanes cX4_readLanes 2 (some .long) 1 21 [.ref 14, vI n] h (Ql (fun z h' => (∀ x, bitL z x ↔ ∃ q, 0 ≤ q ∧ q < 4 ∧ bitL (h.2.1 15 (40 * (n - 1) + q)) x) ∧ h' = h)) := by
  refine AMet.of (by decide) (Nat.le_of_ble_eq_true rfl) (fun G hM => ?_)
  have hG := hM.cx
  refine A_hm0 (G := G) (L := [(0, .ref 14), (1, vI n)]) ?_
  refine A_aload_n hG 0 dX4_readLanes_0 rfl rfl ?_
  refine A_iconst (n := 0) hG dX4_readLanes_1 ?_
  refine A_iload_n hG 1 dX4_readLanes_2 rfl rfl ?_
  refine C_SUi (as := [vI 0, vI n]) (st := [.ref 14]) (owner := RX8) (x := ⟨RX4, yX8_span.name, yX8_span.desc⟩) hG dX4_readLanes_3 lw_X4_30 sm_X4_X8_span rfl (by decide) mf_X8_span ms_X8_span (x_span (hm h [] [] []) (a := 0) (b := n) (by omega) (by omega)) (by decide) (by decide) rfl rfl (Nat.le_of_ble_eq_true rfl) (fun z3 g3 ri_3 hp_3 => ?_)
  obtain ⟨ra_3, rb_3⟩ := ri_3
  obtain ⟨rfl, rfl⟩ := hp_3
  refine C_Vl (as := [vI (40 * (8 * 0 + n - 1))]) (st := []) (k := 14) (c := 4) hG dX4_readLanes_6 ml_X4_44 mf_X4_anyAt mi_X4_anyAt se_X4_anyAt rfl (by decide) k14 (x_anyAt (hm h [] [] []) (p := 40 * (8 * 0 + n - 1)) (by omega)) (by decide) (by decide) rfl rfl (Nat.le_of_ble_eq_true rfl) (fun z6 g6 hp_6 => ?_)
  have hq_6 : (∀ x, bitL z6 x ↔ ∃ q, 0 ≤ q ∧ q < 4 ∧ bitL (h.2.1 15 ((40 * (8 * 0 + n - 1)) + q)) x) ∧ g6 = hm h [] [] [] := hp_6
  clear hp_6
  obtain ⟨hz6, rfl⟩ := hq_6
  exact Ret_l hM dX4_readLanes_9 (⟨fun x => by rw [hz6, show 40 * (8 * 0 + n - 1) = 40 * (n - 1) by omega], rfl⟩)

set_option maxHeartbeats 2000000 in
set_option maxRecDepth 20000 in
theorem x_lrestart (h : AH) : AMet yX4_restart cX4_restart 1 none 1 24 [.ref 14] h (Qv (fun h' => ∃ f f' : Int → Int64, ((∀ j, 0 ≤ j → j < 2560 → f j = i2l 0) ∧ ∀ j, 0 ≤ j → j < 24 → f' j = i2l 0) ∧ h' = hm h [] [(15, f), (16, f')] [])) := by
  refine AMet.of (by decide) (Nat.le_of_ble_eq_true rfl) (fun G hM => ?_)
  have hG := hM.cx
  refine A_hm0 (G := G) (L := [(0, .ref 14)]) ?_
  refine A_aload_n hG 0 dX4_restart_0 rfl rfl ?_
  refine A_getR (r := 15) hG dX4_restart_1 fl_X4_15 (by decide) k14 (by decide) rfl ?_
  refine A_lconst (v := i2l 0) hG dX4_restart_4 (by decide) ?_
  refine C_Sv (as := [.ref 15, .long (i2l 0)]) (st := []) hG dX4_restart_5 ml_X4_18 mf_J7_fill_d0a16 ms_J7_fill_d0a16 (j_fill15 (hm h [] [] []) (i2l 0)) (by decide) (by decide) rfl rfl (Nat.le_of_ble_eq_true rfl) (fun g5 hp_5 => ?_)
  have hq_5 : ∃ fx : Int → Int64, (∀ j, 0 ≤ j → j < 2560 → fx j = (i2l 0)) ∧ g5 = hm (hm h [] [] []) [] [(15, fx)] [] := hp_5
  clear hp_5
  obtain ⟨f5, hf5, rfl⟩ := hq_5
  refine A_hm (la := []) (lb := [(15, f5)]) (lc := []) rfl rfl rfl ?_
  refine A_aload_n hG 0 dX4_restart_8 rfl rfl ?_
  refine A_getR (r := 16) hG dX4_restart_9 fl_X4_9 (by decide) k14 (by decide) rfl ?_
  refine A_lconst (v := i2l 0) hG dX4_restart_12 (by decide) ?_
  refine C_Sv (as := [.ref 16, .long (i2l 0)]) (st := []) hG dX4_restart_13 ml_X4_18 mf_J7_fill_d0a16 ms_J7_fill_d0a16 (j_fill16 (hm h [] [(15, f5)] []) (i2l 0)) (by decide) (by decide) rfl rfl (Nat.le_of_ble_eq_true rfl) (fun g13 hp_13 => ?_)
  have hq_13 : ∃ fx : Int → Int64, (∀ j, 0 ≤ j → j < 24 → fx j = (i2l 0)) ∧ g13 = hm (hm h [] [(15, f5)] []) [] [(16, fx)] [] := hp_13
  clear hp_13
  obtain ⟨f13, hf13, rfl⟩ := hq_13
  refine A_hm (la := []) (lb := [(15, f5), (16, f13)]) (lc := []) rfl rfl rfl ?_
  exact Ret_v hM dX4_restart_16 (⟨f5, f13, ⟨hf5, hf13⟩, rfl⟩)

set_option maxHeartbeats 2000000 in
set_option maxRecDepth 20000 in
theorem x_freeRule (h : AH) {r : Int} (v : Int64) (hr : 0 ≤ r ∧ r < 24) : AMet yX4_freeRule cX4_freeRule 4 none 0 0 [.ref 14, vI r, .long v] h (Qv (fun h' => h' = hm h [] [(16, up (h.2.1 16) r (h.2.1 16 r ||| v))] [])) := by
  refine AMet.of (by decide) (Nat.le_of_ble_eq_true rfl) (fun G hM => ?_)
  have hG := hM.cx
  refine A_hm0 (G := G) (L := [(0, .ref 14), (1, vI r), (2, .long v)]) ?_
  refine A_aload_n hG 0 dX4_freeRule_0 rfl rfl ?_
  refine A_getR (r := 16) hG dX4_freeRule_1 fl_X4_9 (by decide) k14 (by decide) rfl ?_
  refine A_iload_n hG 1 dX4_freeRule_4 rfl rfl ?_
  refine A_dup2 hG dX4_freeRule_5 rfl rfl ?_
  refine M_lald (v := h.2.1 16 r) hG dX4_freeRule_6 k16 n16 (by omega) rfl ?_
  refine A_lload_n hG 2 dX4_freeRule_7 rfl rfl ?_
  refine A_lor hG dX4_freeRule_8 ?_
  refine M_last (ll' := [(16, up (h.2.1 16) r ((h.2.1 16 r) ||| v))]) hG dX4_freeRule_9 k16 n16 (by omega) rfl ?_
  exact Ret_v hM dX4_freeRule_10 rfl

set_option maxHeartbeats 2000000 in
set_option maxRecDepth 20000 in
theorem x_putRow (h : AH) {gn : Nat} (hg : gn = 20 ∨ gn = 40) {g : Gm} (hgx : gX h gn = g) {r : Nat} (hr : 100 ≤ r ∧ r < 212) (hOk : okG g) {n : Int} {w : Int → Int} (hwr : rowX h r n w) (hW : okW g w n) (v : Int64) : AMet yX4_putRow cX4_putRow 6 none 1 21 [.ref 14, .ref gn, .ref r, .long v] h (Qv (fun h' => ∃ f : Int → Int64, (∀ n' f', 1 ≤ n' → 0 ≤ f' → f' + n' ≤ 8 → ∀ k m, 0 ≤ k → k ≤ 9 → 0 ≤ m → m < 4 → ∀ x, 0 ≤ x → x < 64 → (bitL (f (40 * (8 * f' + n' - 1) + (4 * k + m))) x ↔ bitL (h.2.1 15 (40 * (8 * f' + n' - 1) + (4 * k + m))) x ∨ (n' = 1 ∧ f' < n ∧ g 0 (w f') = k ∧ g 1 (w f') = m ∧ bitL v x))) ∧ h' = hm h [] [(15, f)] [])) := by
  have hn := hW.1
  refine AMet.of (by decide) (Nat.le_of_ble_eq_true rfl) (fun G hM => ?_)
  have hG := hM.cx
  refine A_hm0 (G := G) (L := [(0, .ref 14), (1, .ref gn), (2, .ref r), (3, .long v)]) ?_
  refine A_iconst (n := 0) hG dX4_putRow_0 ?_
  refine A_istore (L' := [(5, vI 0), (0, .ref 14), (1, .ref gn), (2, .ref r), (3, .long v)]) hG dX4_putRow_1 (by decide) rfl ?_
  refine A_insL 15 (ll' := [(15, h.2.1 15)]) rfl ?_
  have p_0 : ∀ fu : Nat, ∀ (p : Int) (f : Int → Int64), (0 ≤ p ∧ p ≤ n) → (∀ n' f', 1 ≤ n' → 0 ≤ f' → f' + n' ≤ 8 → ∀ k m, 0 ≤ k → k ≤ 9 → 0 ≤ m → m < 4 → ∀ x, 0 ≤ x → x < 64 → (bitL (f (40 * (8 * f' + n' - 1) + (4 * k + m))) x ↔ bitL (h.2.1 15 (40 * (8 * f' + n' - 1) + (4 * k + m))) x ∨ (n' = 1 ∧ f' < p ∧ g 0 (w f') = k ∧ g 1 (w f') = m ∧ bitL v x))) → ((9 - p).toNat) < fu → G 3 [(0, .ref 14), (1, .ref gn), (2, .ref r), (3, .long v), (5, vI p)] [] (hm h [] [(15, f)] []) := by
    intro fu
    induction fu with
    | zero => intro p f hp hI hfu; exact absurd hfu (Nat.not_lt_zero _)
    | succ fu ih_p =>
      intro p f hp hI hfu
      refine A_iload hG 4 dX4_putRow_3 rfl ?_
      refine A_aload_n hG 2 dX4_putRow_5 rfl rfl ?_
      refine M_getI (z := 1) (v := n) hG dX4_putRow_6 fl_X4_24 (by decide) (obk_row hr) rfl rfl hwr.1 (fun ⟨ra_6, rb_6⟩ => ?_)
      refine A_icmp_ge hG 45 dX4_putRow_9 (by decide) (by constructor <;> omega) (by constructor <;> omega) (fun c_9 => ?_) (fun c_9 => ?_)
      ·
        exact Ret_v hM dX4_putRow_45 (⟨f, fun n' f' h1 h2 h3 k m k0 k1 m0 m1 x x0 x1 => by rw [hI n' f' h1 h2 h3 k m k0 k1 m0 m1 x x0 x1, show p = n by omega], rfl⟩)
      ·
        have ho := hW.2 p (by omega) (by omega)
        have o := hOk.2.2.1 (w p) ho.1 ho.2
        refine A_aload_n hG 0 dX4_putRow_12 rfl rfl ?_
        refine A_getR (r := 15) hG dX4_putRow_13 fl_X4_15 (by decide) k14 (by decide) rfl ?_
        refine A_iload hG 4 dX4_putRow_16 rfl ?_
        refine A_iconst (n := 1) hG dX4_putRow_18 ?_
        refine C_SUi (as := [vI p, vI 1]) (st := [.ref 15]) (owner := RX8) (x := ⟨RX4, yX8_span.name, yX8_span.desc⟩) hG dX4_putRow_19 lw_X4_30 sm_X4_X8_span rfl (by decide) mf_X8_span ms_X8_span (x_span (hm h [] [(15, f)] []) (a := p) (b := 1) (by omega) (by omega)) (by decide) (by decide) rfl rfl (Nat.le_of_ble_eq_true rfl) (fun z19 g19 ri_19 hp_19 => ?_)
        obtain ⟨ra_19, rb_19⟩ := ri_19
        obtain ⟨rfl, rfl⟩ := hp_19
        refine A_aload_n hG 1 dX4_putRow_22 rfl rfl ?_
        refine A_aload_n hG 2 dX4_putRow_23 rfl rfl ?_
        refine A_getR (r := (r + 200)) hG dX4_putRow_24 fl_X4_34 (by decide) (obk_row hr) (by decide) rfl ?_
        refine A_iload hG 4 dX4_putRow_27 rfl ?_
        refine M_iald (v := w p) hG dX4_putRow_29 (obk_rw hr) (obn_rw hr) (by omega) (hwr.2 p (by omega) (by omega)) (fun ⟨ra_29, rb_29⟩ => ?_)
        refine C_Vi (as := [vI (w p)]) (st := [vI (40 * (8 * p + 1 - 1)), .ref 15]) (k := gn) (c := 1) hG dX4_putRow_30 ml_X4_38 mf_X1_stateOf mi_X1_stateOf se_X1_stateOf rfl (by decide) (kg0 hg) (x_stateOf (hm h [] [(15, f)] []) hg (g := g) hgx hOk (v := w p) ho) (by decide) (by decide) rfl rfl (Nat.le_of_ble_eq_true rfl) (fun z30 g30 ri_30 hp_30 => ?_)
        obtain ⟨ra_30, rb_30⟩ := ri_30
        obtain ⟨rfl, rfl⟩ := hp_30
        refine A_iadd hG dX4_putRow_33 ?_
        refine A_dup2 hG dX4_putRow_34 rfl rfl ?_
        refine M_lald (v := f ((40 * (8 * p + 1 - 1)) + (4 * g 0 (w p) + g 1 (w p)))) hG dX4_putRow_35 k15 n15 (by omega) rfl ?_
        refine A_lload_n hG 3 dX4_putRow_36 rfl rfl ?_
        refine A_lor hG dX4_putRow_37 ?_
        refine M_last (ll' := [(15, up f ((40 * (8 * p + 1 - 1)) + (4 * g 0 (w p) + g 1 (w p))) ((f ((40 * (8 * p + 1 - 1)) + (4 * g 0 (w p) + g 1 (w p)))) ||| v))]) hG dX4_putRow_38 k15 n15 (by omega) rfl ?_
        refine A_iinc (L' := [(5, vI (p + 1)), (0, .ref 14), (1, .ref gn), (2, .ref r), (3, .long v)]) hG 4 dX4_putRow_39 rfl (by decide) rfl ?_
        refine A_goto hG 3 dX4_putRow_42 (by decide) ?_
        refine A_sub hG [1, 2, 3, 4, 0] rfl ?_
        exact ih_p (p + 1) (up f ((40 * (8 * p + 1 - 1)) + (4 * g 0 (w p) + g 1 (w p))) ((f ((40 * (8 * p + 1 - 1)) + (4 * g 0 (w p) + g 1 (w p)))) ||| v)) (by omega) (fun n' f' h1 h2 h3 k m k0 k1 m0 m1 x x0 x1 => by
            have e0 := hI n' f' h1 h2 h3 k m k0 k1 m0 m1 x x0 x1
            by_cases hq : n' = 1 ∧ f' = p ∧ g 0 (w p) = k ∧ g 1 (w p) = m
            · obtain ⟨rfl, rfl, rfl, rfl⟩ := hq
              rw [up_eq, bitL_or, e0]
              constructor
              · rintro ((q | q) | q)
                · exact Or.inl q
                · exact Or.inr ⟨q.1, by omega, q.2.2⟩
                · exact Or.inr ⟨rfl, by omega, rfl, rfl, q⟩
              · rintro (q | q)
                · exact Or.inl (Or.inl q)
                · exact Or.inr q.2.2.2.2
            · rw [up_ne _ _ (by omega), e0]
              constructor
              · rintro (q | q)
                · exact Or.inl q
                · exact Or.inr ⟨q.1, by omega, q.2.2⟩
              · rintro (q | ⟨q1, q2, q3, q4, q5⟩)
                · exact Or.inl q
                · refine Or.inr ⟨q1, ?_, q3, q4, q5⟩
                  rcases (show f' < p ∨ f' = p by omega) with e | e
                  · exact e
                  · subst e; exact absurd ⟨q1, rfl, q3, q4⟩ hq) (by omega)
  refine A_sub hG [1, 2, 3, 4, 0] rfl ?_
  exact p_0 _ 0 (h.2.1 15) (by omega) (fun n' f' h1 h2 h3 k m k0 k1 m0 m1 x x0 x1 => by
      constructor
      · exact Or.inl
      · rintro (q | q)
        · exact q
        · omega) (Nat.lt_succ_self _)

set_option maxHeartbeats 2000000 in
set_option maxRecDepth 20000 in
theorem x_joinSpans14 (h : AH) {gn : Nat} (hg : gn = 20 ∨ gn = 40) {g : Gm} (hgx : gX h gn = g) (hOk : okG g) {l r b : Int} (hl : 0 ≤ l ∧ l ≤ 2520) (hr : 0 ≤ r ∧ r ≤ 2520) (hb : 0 ≤ b ∧ b ≤ 2520) (dl : l + 40 ≤ b ∨ b + 40 ≤ l) (dr : r + 40 ≤ b ∨ b + 40 ≤ r) : AMet yX4_joinSpans cX4_joinSpans 20 none 1 21 [.ref 14, .ref gn, vI l, vI r, vI b] h (Qv (fun h' => ∃ f : Int → Int64, ((∀ i, (i < b ∨ b + 40 ≤ i) → f i = h.2.1 15 i) ∧ ∀ k m, 0 ≤ k → k ≤ 9 → 0 ≤ m → m < 4 → ∀ x, 0 ≤ x → x < 64 → (bitL (f (b + (4 * k + m))) x ↔ bitL (h.2.1 15 (b + (4 * k + m))) x ∨ (∃ q, 0 ≤ q ∧ q < g 10 1 ∧ g 4 q = k ∧ jn g (fun q => bitL (h.2.1 16 q) x) q m (fun y => bitL (h.2.1 15 (l + (4 * g 5 q + y))) x) (fun y => bitL (h.2.1 15 (r + (4 * g 6 q + y))) x)))) ∧ h' = hm h [] [(15, f)] [])) := by
  have hR := hOk.2.1
  refine AMet.of (by decide) (Nat.le_of_ble_eq_true rfl) (fun G hM => ?_)
  have hG := hM.cx
  refine A_hm0 (G := G) (L := [(0, .ref 14), (1, .ref gn), (2, vI l), (3, vI r), (4, vI b)]) ?_
  refine A_iconst (n := 0) hG dX4_joinSpans_0 ?_
  refine A_istore (L' := [(5, vI 0), (0, .ref 14), (1, .ref gn), (2, vI l), (3, vI r), (4, vI b)]) hG dX4_joinSpans_1 (by decide) rfl ?_
  refine A_insL 15 (ll' := [(15, h.2.1 15)]) rfl ?_
  have r_0 : ∀ fu : Nat, ∀ (j : Int) (f : Int → Int64), (0 ≤ j ∧ j ≤ g 10 1) → (∀ i, (i < b ∨ b + 40 ≤ i) → f i = h.2.1 15 i) → (∀ k m, 0 ≤ k → k ≤ 9 → 0 ≤ m → m < 4 → ∀ x, 0 ≤ x → x < 64 → (bitL (f (b + (4 * k + m))) x ↔ bitL (h.2.1 15 (b + (4 * k + m))) x ∨ (∃ q, 0 ≤ q ∧ q < j ∧ g 4 q = k ∧ jn g (fun q => bitL (h.2.1 16 q) x) q m (fun y => bitL (h.2.1 15 (l + (4 * g 5 q + y))) x) (fun y => bitL (h.2.1 15 (r + (4 * g 6 q + y))) x)))) → ((24 - j).toNat) < fu → G 3 [(0, .ref 14), (1, .ref gn), (2, vI l), (3, vI r), (4, vI b), (5, vI j)] [] (hm h [] [(15, f)] []) := by
    intro fu
    induction fu with
    | zero => intro j f hj hO hI hfu; exact absurd hfu (Nat.not_lt_zero _)
    | succ fu ih_r =>
      intro j f hj hO hI hfu
      refine A_iload hG 5 dX4_joinSpans_3 rfl ?_
      refine A_aload_n hG 1 dX4_joinSpans_5 rfl rfl ?_
      refine M_getI (z := 10) (v := g 10 1) hG dX4_joinSpans_6 fl_X4_48 (by decide) (kg0 hg) rfl rfl ((gx_n hgx).2) (fun ⟨ra_6, rb_6⟩ => ?_)
      refine A_icmp_ge hG 218 dX4_joinSpans_9 (by decide) (by constructor <;> omega) (by constructor <;> omega) (fun c_9 => ?_) (fun c_9 => ?_)
      ·
        exact Ret_v hM dX4_joinSpans_218 (⟨f, ⟨hO, fun k m k0 k1 m0 m1 x x0 x1 => by rw [hI k m k0 k1 m0 m1 x x0 x1, show j = g 10 1 by omega]⟩, rfl⟩)
      ·
        have hx := gx_r hgx (r := j) (by omega)
        have o := hOk.2.2.2.1 j (by omega) (by omega)
        refine A_iload_n hG 2 dX4_joinSpans_12 rfl rfl ?_
        refine A_aload_n hG 1 dX4_joinSpans_13 rfl rfl ?_
        refine A_getR (r := (gn + 6)) hG dX4_joinSpans_14 fl_X4_51 (by decide) (kg0 hg) (by decide) rfl ?_
        refine A_iload hG 5 dX4_joinSpans_17 rfl ?_
        refine M_iald (v := g 5 j) hG dX4_joinSpans_19 (kg6 hg) (ng6 hg) (by omega) hx.2.1 (fun ⟨ra_19, rb_19⟩ => ?_)
        refine A_iconst (n := 4) hG dX4_joinSpans_20 ?_
        refine A_imul hG dX4_joinSpans_21 ?_
        refine A_iadd hG dX4_joinSpans_22 ?_
        refine A_istore (L' := [(6, vI (l + ((g 5 j) * 4))), (0, .ref 14), (1, .ref gn), (2, vI l), (3, vI r), (4, vI b), (5, vI j)]) hG dX4_joinSpans_23 (by decide) rfl ?_
        refine A_iload_n hG 4 dX4_joinSpans_25 rfl rfl ?_
        refine A_aload_n hG 2 dX4_joinSpans_26 rfl rfl ?_
        refine A_getR (r := (gn + 7)) hG dX4_joinSpans_27 fl_X4_54 (by decide) (kg0 hg) (by decide) rfl ?_
        refine A_iload hG 6 dX4_joinSpans_30 rfl ?_
        refine M_iald (v := g 6 j) hG dX4_joinSpans_32 (kg7 hg) (ng7 hg) (by omega) hx.2.2.1 (fun ⟨ra_32, rb_32⟩ => ?_)
        refine A_iconst (n := 4) hG dX4_joinSpans_33 ?_
        refine A_imul hG dX4_joinSpans_34 ?_
        refine A_iadd hG dX4_joinSpans_35 ?_
        refine A_istore (L' := [(7, vI (r + ((g 6 j) * 4))), (6, vI (l + ((g 5 j) * 4))), (0, .ref 14), (1, .ref gn), (2, vI l), (3, vI r), (4, vI b), (5, vI j)]) hG dX4_joinSpans_36 (by decide) rfl ?_
        refine A_iload hG 6 dX4_joinSpans_38 rfl ?_
        refine A_aload_n hG 3 dX4_joinSpans_40 rfl rfl ?_
        refine A_getR (r := (gn + 5)) hG dX4_joinSpans_41 fl_X4_57 (by decide) (kg0 hg) (by decide) rfl ?_
        refine A_iload hG 7 dX4_joinSpans_44 rfl ?_
        refine M_iald (v := g 4 j) hG dX4_joinSpans_46 (kg5 hg) (ng5 hg) (by omega) hx.1 (fun ⟨ra_46, rb_46⟩ => ?_)
        refine A_iconst (n := 4) hG dX4_joinSpans_47 ?_
        refine A_imul hG dX4_joinSpans_48 ?_
        refine A_iadd hG dX4_joinSpans_49 ?_
        refine A_istore (L' := [(8, vI (b + ((g 4 j) * 4))), (7, vI (r + ((g 6 j) * 4))), (6, vI (l + ((g 5 j) * 4))), (0, .ref 14), (1, .ref gn), (2, vI l), (3, vI r), (4, vI b), (5, vI j)]) hG dX4_joinSpans_50 (by decide) rfl ?_
        refine A_aload_n hG 3 dX4_joinSpans_52 rfl rfl ?_
        refine A_iload hG 2 dX4_joinSpans_53 rfl ?_
        refine C_Vl (as := [vI (l + ((g 5 j) * 4))]) (st := []) (k := 14) (c := 4) hG dX4_joinSpans_55 ml_X4_44 mf_X4_anyAt mi_X4_anyAt se_X4_anyAt rfl (by decide) k14 (x_anyAt (hm h [] [(15, f)] []) (p := l + ((g 5 j) * 4)) (by omega)) (by decide) (by decide) rfl rfl (Nat.le_of_ble_eq_true rfl) (fun z55 g55 hp_55 => ?_)
        have hq_55 : (∀ x, bitL z55 x ↔ ∃ q, 0 ≤ q ∧ q < 4 ∧ bitL (f ((l + ((g 5 j) * 4)) + q)) x) ∧ g55 = hm h [] [(15, f)] [] := hp_55
        clear hp_55
        obtain ⟨hz55, rfl⟩ := hq_55
        refine A_lstore (L' := [(9, .long z55), (8, vI (b + ((g 4 j) * 4))), (7, vI (r + ((g 6 j) * 4))), (6, vI (l + ((g 5 j) * 4))), (0, .ref 14), (1, .ref gn), (2, vI l), (3, vI r), (4, vI b), (5, vI j)]) hG dX4_joinSpans_58 (by decide) rfl ?_
        refine A_aload_n hG 4 dX4_joinSpans_60 rfl rfl ?_
        refine A_iload hG 2 dX4_joinSpans_61 rfl ?_
        refine C_Vl (as := [vI (r + ((g 6 j) * 4))]) (st := []) (k := 14) (c := 4) hG dX4_joinSpans_63 ml_X4_44 mf_X4_anyAt mi_X4_anyAt se_X4_anyAt rfl (by decide) k14 (x_anyAt (hm h [] [(15, f)] []) (p := r + ((g 6 j) * 4)) (by omega)) (by decide) (by decide) rfl rfl (Nat.le_of_ble_eq_true rfl) (fun z63 g63 hp_63 => ?_)
        have hq_63 : (∀ x, bitL z63 x ↔ ∃ q, 0 ≤ q ∧ q < 4 ∧ bitL (f ((r + ((g 6 j) * 4)) + q)) x) ∧ g63 = hm h [] [(15, f)] [] := hp_63
        clear hp_63
        obtain ⟨hz63, rfl⟩ := hq_63
        refine A_lstore (L' := [(11, .long z63), (9, .long z55), (8, vI (b + ((g 4 j) * 4))), (7, vI (r + ((g 6 j) * 4))), (6, vI (l + ((g 5 j) * 4))), (0, .ref 14), (1, .ref gn), (2, vI l), (3, vI r), (4, vI b), (5, vI j)]) hG dX4_joinSpans_66 (by decide) rfl ?_
        have fA : ∀ q, 0 ≤ q → q < 4 → f (l + (g 5 j) * 4 + q) = h.2.1 15 (l + (4 * g 5 j + q)) := fun q q0 q1 => by rw [hO _ (by omega)]; exact congrArg _ (by omega)
        have fB : ∀ q, 0 ≤ q → q < 4 → f (r + (g 6 j) * 4 + q) = h.2.1 15 (r + (4 * g 6 j + q)) := fun q q0 q1 => by rw [hO _ (by omega)]; exact congrArg _ (by omega)
        have han : ∀ x, bitL z55 x ↔ ∃ q, 0 ≤ q ∧ q < 4 ∧ (fun y => bitL (h.2.1 15 (l + (4 * g 5 j + y))) x) q := fun x => by
            rw [hz55 x]
            exact ⟨fun ⟨q, q0, q1, q2⟩ => ⟨q, q0, q1, by rw [fA q q0 q1] at q2; exact q2⟩, fun ⟨q, q0, q1, q2⟩ => ⟨q, q0, q1, by rw [fA q q0 q1]; exact q2⟩⟩
        have hbn : ∀ x, bitL z63 x ↔ ∃ q, 0 ≤ q ∧ q < 4 ∧ (fun y => bitL (h.2.1 15 (r + (4 * g 6 j + y))) x) q := fun x => by
            rw [hz63 x]
            exact ⟨fun ⟨q, q0, q1, q2⟩ => ⟨q, q0, q1, by rw [fB q q0 q1] at q2; exact q2⟩, fun ⟨q, q0, q1, q2⟩ => ⟨q, q0, q1, by rw [fB q q0 q1]; exact q2⟩⟩
        refine A_aload_n hG 6 dX4_joinSpans_68 rfl rfl ?_
        refine A_getR (r := (gn + 8)) hG dX4_joinSpans_69 fl_X4_60 (by decide) (kg0 hg) (by decide) rfl ?_
        refine A_iload hG 10 dX4_joinSpans_72 rfl ?_
        refine M_zald (v := g 7 j) hG dX4_joinSpans_74 (kg8 hg) (ng8 hg) (by omega) hx.2.2.2.1 (fun ⟨ra_74, rb_74⟩ => ?_)
        have u_3 : ∀ (mu : Int64), (∀ x, 0 ≤ x → x < 64 → (bitL mu x ↔ g 7 j = 1 ∧ ¬ bitL (h.2.1 16 j) x)) → G 93 [(0, .ref 14), (1, .ref gn), (2, vI l), (3, vI r), (4, vI b), (5, vI j), (6, vI (l + (g 5 j) * 4)), (7, vI (r + (g 6 j) * 4)), (8, vI (b + (g 4 j) * 4)), (9, .long z55), (11, .long z63)] [.long mu] (hm h [] [(15, f)] []) := by
          intro mu hmu
          refine A_lstore (L' := [(13, .long mu), (0, .ref 14), (1, .ref gn), (2, vI l), (3, vI r), (4, vI b), (5, vI j), (6, vI (l + (g 5 j) * 4)), (7, vI (r + (g 6 j) * 4)), (8, vI (b + (g 4 j) * 4)), (9, .long z55), (11, .long z63)]) hG dX4_joinSpans_93 (by decide) rfl ?_
          have z_4 : ∀ (f : Int → Int64), (∀ i, (i < b ∨ b + 40 ≤ i) → f i = h.2.1 15 i) → (∀ k m, 0 ≤ k → k ≤ 9 → 0 ≤ m → m < 4 → ∀ x, 0 ≤ x → x < 64 → (bitL (f (b + (4 * k + m))) x ↔ bitL (h.2.1 15 (b + (4 * k + m))) x ∨ (∃ q, 0 ≤ q ∧ q < j ∧ g 4 q = k ∧ jn g (fun q => bitL (h.2.1 16 q) x) q m (fun y => bitL (h.2.1 15 (l + (4 * g 5 q + y))) x) (fun y => bitL (h.2.1 15 (r + (4 * g 6 q + y))) x)) ∨ (g 4 j = k ∧ jn g (fun q => bitL (h.2.1 16 q) x) j m (fun y => bitL (h.2.1 15 (l + (4 * g 5 j + y))) x) (fun y => bitL (h.2.1 15 (r + (4 * g 6 j + y))) x)))) → G 212 [(0, .ref 14), (1, .ref gn), (2, vI l), (3, vI r), (4, vI b), (5, vI j)] [] (hm h [] [(15, f)] []) := by
            intro f hO hI
            refine A_iinc (L' := [(5, vI (j + 1)), (0, .ref 14), (1, .ref gn), (2, vI l), (3, vI r), (4, vI b)]) hG 5 dX4_joinSpans_212 rfl (by decide) rfl ?_
            refine A_goto hG 3 dX4_joinSpans_215 (by decide) ?_
            refine A_sub hG [1, 2, 3, 4, 5, 0] rfl ?_
            exact ih_r (j + 1) f (by omega) hO (fun k m k0 k1 m0 m1 x x0 x1 => by
                rw [hI k m k0 k1 m0 m1 x x0 x1]
                refine or_congr Iff.rfl ?_
                constructor
                · rintro (⟨q, q1, q2, q3⟩ | q3)
                  · exact ⟨q, q1, by omega, q3⟩
                  · exact ⟨j, by omega, by omega, q3⟩
                · rintro ⟨q, q1, q2, q3⟩
                  by_cases e : q = j
                  · subst e; exact Or.inr q3
                  · exact Or.inl ⟨q, q1, by omega, q3⟩) (by omega)
          refine A_iconst (n := 0) hG dX4_joinSpans_95 ?_
          refine A_istore (L' := [(15, vI 0), (13, .long mu), (0, .ref 14), (1, .ref gn), (2, vI l), (3, vI r), (4, vI b), (5, vI j), (6, vI (l + (g 5 j) * 4)), (7, vI (r + (g 6 j) * 4)), (8, vI (b + (g 4 j) * 4)), (9, .long z55), (11, .long z63)]) hG dX4_joinSpans_96 (by decide) rfl ?_
          have m_5 : ∀ fu : Nat, ∀ (m : Int) (f : Int → Int64), (0 ≤ m ∧ m ≤ 4) → (∀ i, (i < b ∨ b + 40 ≤ i) → f i = h.2.1 15 i) → (∀ k m', 0 ≤ k → k ≤ 9 → 0 ≤ m' → m' < 4 → ∀ x, 0 ≤ x → x < 64 → (bitL (f (b + (4 * k + m'))) x ↔ bitL (h.2.1 15 (b + (4 * k + m'))) x ∨ (∃ q, 0 ≤ q ∧ q < j ∧ g 4 q = k ∧ jn g (fun q => bitL (h.2.1 16 q) x) q m' (fun y => bitL (h.2.1 15 (l + (4 * g 5 q + y))) x) (fun y => bitL (h.2.1 15 (r + (4 * g 6 q + y))) x)) ∨ (m' < m ∧ g 4 j = k ∧ jn g (fun q => bitL (h.2.1 16 q) x) j m' (fun y => bitL (h.2.1 15 (l + (4 * g 5 j + y))) x) (fun y => bitL (h.2.1 15 (r + (4 * g 6 j + y))) x)))) → ((4 - m).toNat) < fu → G 98 [(0, .ref 14), (1, .ref gn), (2, vI l), (3, vI r), (4, vI b), (5, vI j), (6, vI (l + (g 5 j) * 4)), (7, vI (r + (g 6 j) * 4)), (8, vI (b + (g 4 j) * 4)), (9, .long z55), (11, .long z63), (13, .long mu), (15, vI m)] [] (hm h [] [(15, f)] []) := by
            intro fu
            induction fu with
            | zero => intro m f hmm hO hI hfu; exact absurd hfu (Nat.not_lt_zero _)
            | succ fu ih_m =>
              intro m f hmm hO hI hfu
              have fA : ∀ q, 0 ≤ q → q < 4 → f (l + (g 5 j) * 4 + q) = h.2.1 15 (l + (4 * g 5 j + q)) := fun q q0 q1 => by rw [hO _ (by omega)]; exact congrArg _ (by omega)
              have fB : ∀ q, 0 ≤ q → q < 4 → f (r + (g 6 j) * 4 + q) = h.2.1 15 (r + (4 * g 6 j + q)) := fun q q0 q1 => by rw [hO _ (by omega)]; exact congrArg _ (by omega)
              refine A_iload hG 12 dX4_joinSpans_98 rfl ?_
              refine A_iconst (n := 4) hG dX4_joinSpans_100 ?_
              refine A_icmp_ge hG 212 dX4_joinSpans_101 (by decide) (by constructor <;> omega) (by constructor <;> omega) (fun c_101 => ?_) (fun c_101 => ?_)
              ·
                refine A_sub hG [0, 1, 2, 3, 4, 5] rfl ?_
                exact z_4 f hO (fun k m' k0 k1 m0 m1 x x0 x1 => by
                    rw [hI k m' k0 k1 m0 m1 x x0 x1]
                    exact or_congr Iff.rfl (or_congr Iff.rfl ⟨fun q => q.2, fun q => ⟨by omega, q⟩⟩))
              ·
                refine A_lload hG 9 dX4_joinSpans_104 rfl ?_
                refine A_lload hG 10 dX4_joinSpans_106 rfl ?_
                refine A_land hG dX4_joinSpans_108 ?_
                refine A_lconst (v := i2l 0) hG dX4_joinSpans_109 (by decide) ?_
                refine A_lcmp hG dX4_joinSpans_110 ?_
                refine A_if_eq hG 212 dX4_joinSpans_111 (by decide) (ir_lcmp _ _) (fun c_111 => ?_) (fun c_111 => ?_)
                ·
                  refine A_sub hG [0, 1, 2, 3, 4, 5] rfl ?_
                  exact z_4 f hO (fun k m' k0 k1 m0 m1 x x0 x1 => by
                      rw [hI k m' k0 k1 m0 m1 x x0 x1]
                      have hno : ¬ jn g (fun q => bitL (h.2.1 16 q) x) j m' (fun y => bitL (h.2.1 15 (l + (4 * g 5 j + y))) x) (fun y => bitL (h.2.1 15 (r + (4 * g 6 j + y))) x) := fun q => by
                        have e := lcmp_0.mp c_111
                        have := (bitL_and z55 z63 x).mpr ⟨(han x).mpr q.1, (hbn x).mpr q.2.1⟩
                        rw [e] at this
                        exact bitL_0 x this
                      exact or_congr Iff.rfl (or_congr Iff.rfl ⟨fun q => q.2, fun q => absurd q.2 hno⟩))
                ·
                  refine A_aload_n hG 0 dX4_joinSpans_114 rfl rfl ?_
                  refine A_getR (r := 15) hG dX4_joinSpans_115 fl_X4_15 (by decide) k14 (by decide) rfl ?_
                  refine A_iload hG 6 dX4_joinSpans_118 rfl ?_
                  refine A_iload hG 12 dX4_joinSpans_120 rfl ?_
                  refine A_iadd hG dX4_joinSpans_122 ?_
                  refine M_lald (v := f ((l + (g 5 j) * 4) + m)) hG dX4_joinSpans_123 k15 n15 (by omega) rfl ?_
                  refine A_aload_n hG 0 dX4_joinSpans_124 rfl rfl ?_
                  refine A_getR (r := 15) hG dX4_joinSpans_125 fl_X4_15 (by decide) k14 (by decide) rfl ?_
                  refine A_iload hG 7 dX4_joinSpans_128 rfl ?_
                  refine A_iload hG 12 dX4_joinSpans_130 rfl ?_
                  refine A_iadd hG dX4_joinSpans_132 ?_
                  refine M_lald (v := f ((r + (g 6 j) * 4) + m)) hG dX4_joinSpans_133 k15 n15 (by omega) rfl ?_
                  refine A_land hG dX4_joinSpans_134 ?_
                  refine A_lstore (L' := [(16, .long ((f ((l + (g 5 j) * 4) + m)) &&& (f ((r + (g 6 j) * 4) + m)))), (0, .ref 14), (1, .ref gn), (2, vI l), (3, vI r), (4, vI b), (5, vI j), (6, vI (l + (g 5 j) * 4)), (7, vI (r + (g 6 j) * 4)), (8, vI (b + (g 4 j) * 4)), (9, .long z55), (11, .long z63), (13, .long mu), (15, vI m)]) hG dX4_joinSpans_135 (by decide) rfl ?_
                  refine A_aload_n hG 2 dX4_joinSpans_137 rfl rfl ?_
                  refine A_getR (r := (gn + 9)) hG dX4_joinSpans_138 fl_X4_66 (by decide) (kg0 hg) (by decide) rfl ?_
                  refine A_iload hG 6 dX4_joinSpans_141 rfl ?_
                  refine M_zald (v := g 8 j) hG dX4_joinSpans_143 (kg9 hg) (ng9 hg) (by omega) hx.2.2.2.2 (fun ⟨ra_143, rb_143⟩ => ?_)
                  have h_6 : ∀ (hd : Int64), (∀ x, (g 8 j = 0 ∧ (bitL hd x ↔ bitL (h.2.1 15 (l + (4 * g 5 j + m))) x ∧ bitL z63 x)) ∨ (g 8 j ≠ 0 ∧ (bitL hd x ↔ bitL z55 x ∧ bitL (h.2.1 15 (r + (4 * g 6 j + m))) x))) → G 176 [(0, .ref 14), (1, .ref gn), (2, vI l), (3, vI r), (4, vI b), (5, vI j), (6, vI (l + (g 5 j) * 4)), (7, vI (r + (g 6 j) * 4)), (8, vI (b + (g 4 j) * 4)), (9, .long z55), (11, .long z63), (13, .long mu), (15, vI m), (16, .long (f (l + (g 5 j) * 4 + m) &&& f (r + (g 6 j) * 4 + m)))] [.long hd] (hm h [] [(15, f)] []) := by
                    intro hd hhd
                    refine A_lstore (L' := [(18, .long hd), (0, .ref 14), (1, .ref gn), (2, vI l), (3, vI r), (4, vI b), (5, vI j), (6, vI (l + (g 5 j) * 4)), (7, vI (r + (g 6 j) * 4)), (8, vI (b + (g 4 j) * 4)), (9, .long z55), (11, .long z63), (13, .long mu), (15, vI m), (16, .long (f (l + (g 5 j) * 4 + m) &&& f (r + (g 6 j) * 4 + m)))]) hG dX4_joinSpans_176 (by decide) rfl ?_
                    refine A_aload_n hG 1 dX4_joinSpans_178 rfl rfl ?_
                    refine A_getR (r := 15) hG dX4_joinSpans_179 fl_X4_15 (by decide) k14 (by decide) rfl ?_
                    refine A_iload hG 9 dX4_joinSpans_182 rfl ?_
                    refine A_iload hG 13 dX4_joinSpans_184 rfl ?_
                    refine A_iadd hG dX4_joinSpans_186 ?_
                    refine A_dup2 hG dX4_joinSpans_187 rfl rfl ?_
                    refine M_lald (v := f ((b + (g 4 j) * 4) + m)) hG dX4_joinSpans_188 k15 n15 (by omega) rfl ?_
                    refine A_lload hG 14 dX4_joinSpans_189 rfl ?_
                    refine A_lload hG 12 dX4_joinSpans_191 rfl ?_
                    refine A_land hG dX4_joinSpans_193 ?_
                    refine A_lload hG 0 dX4_joinSpans_194 rfl ?_
                    refine A_lload hG 12 dX4_joinSpans_196 rfl ?_
                    refine A_ldc2 (v := i2l (-1)) hG dX4_joinSpans_198 (by rw [show i2l (-1) = (-1 : Int64) by decide]; exact kl_X4_64) ?_
                    refine A_lxor hG dX4_joinSpans_201 ?_
                    refine A_land hG dX4_joinSpans_202 ?_
                    refine A_lor hG dX4_joinSpans_203 ?_
                    refine A_lor hG dX4_joinSpans_204 ?_
                    refine M_last (ll' := [(15, up f ((b + (g 4 j) * 4) + m) ((f ((b + (g 4 j) * 4) + m)) ||| (((f (l + (g 5 j) * 4 + m) &&& f (r + (g 6 j) * 4 + m)) &&& mu) ||| (hd &&& (mu ^^^ (i2l (-1)))))))]) hG dX4_joinSpans_205 k15 n15 (by omega) rfl ?_
                    refine A_iinc (L' := [(15, vI (m + 1)), (18, .long hd), (0, .ref 14), (1, .ref gn), (2, vI l), (3, vI r), (4, vI b), (5, vI j), (6, vI (l + (g 5 j) * 4)), (7, vI (r + (g 6 j) * 4)), (8, vI (b + (g 4 j) * 4)), (9, .long z55), (11, .long z63), (13, .long mu), (16, .long (f (l + (g 5 j) * 4 + m) &&& f (r + (g 6 j) * 4 + m)))]) hG 13 dX4_joinSpans_206 rfl (by decide) rfl ?_
                    refine A_goto hG 98 dX4_joinSpans_209 (by decide) ?_
                    refine A_sub hG [2, 3, 4, 5, 6, 7, 8, 9, 10, 11, 12, 13, 0] rfl ?_
                    exact ih_m (m + 1) (up f ((b + (g 4 j) * 4) + m) ((f ((b + (g 4 j) * 4) + m)) ||| (((f (l + (g 5 j) * 4 + m) &&& f (r + (g 6 j) * 4 + m)) &&& mu) ||| (hd &&& (mu ^^^ (i2l (-1))))))) (by omega) (fun i hi => by rw [up_ne _ _ (by omega)]; exact hO i hi) (fun k m' k0 k1 m0 m1 x x0 x1 => by
                        have e0 := hI k m' k0 k1 m0 m1 x x0 x1
                        by_cases hq : k = g 4 j ∧ m' = m
                        · obtain ⟨rfl, rfl⟩ := hq
                          rw [show b + (4 * g 4 j + m') = b + (g 4 j) * 4 + m' by omega] at e0 ⊢
                          rw [up_eq, bitL_or, e0, bitL_or, bitL_and, bitL_and, bitL_and, bitL_not _ ⟨x0, x1⟩, fA m' m0 m1, fB m' m0 m1]
                          have ej := jn_lane (g := g) (fs := (fun q => bitL (h.2.1 16 q) x)) (r := j) (m := m') (A := (fun y => bitL (h.2.1 15 (l + (4 * g 5 j + y))) x)) (B := (fun y => bitL (h.2.1 15 (r + (4 * g 6 j + y))) x)) ⟨m0, m1⟩ (hmu x x0 x1) (han x) (hbn x) (hhd x)
                          rw [ej]
                          constructor
                          · rintro ((q | q | q) | q)
                            · exact Or.inl q
                            · exact Or.inr (Or.inl q)
                            · omega
                            · exact Or.inr (Or.inr ⟨by omega, rfl, q⟩)
                          · rintro (q | q | q)
                            · exact Or.inl (Or.inl q)
                            · exact Or.inl (Or.inr (Or.inl q))
                            · exact Or.inr q.2.2
                        · rw [up_ne _ _ (by omega), e0]
                          constructor
                          · rintro (q | q | q)
                            · exact Or.inl q
                            · exact Or.inr (Or.inl q)
                            · exact Or.inr (Or.inr ⟨by omega, q.2⟩)
                          · rintro (q | q | ⟨q1, q2, q3⟩)
                            · exact Or.inl q
                            · exact Or.inr (Or.inl q)
                            · refine Or.inr (Or.inr ⟨?_, q2, q3⟩)
                              rcases (show m' < m ∨ m' = m by omega) with e | e
                              · exact e
                              · exact absurd ⟨q2.symm, e⟩ hq) (by omega)
                  refine A_if_eq hG 163 dX4_joinSpans_144 (by decide) (by constructor <;> omega) (fun c_144 => ?_) (fun c_144 => ?_)
                  ·
                    refine A_aload_n hG 1 dX4_joinSpans_163 rfl rfl ?_
                    refine A_getR (r := 15) hG dX4_joinSpans_164 fl_X4_15 (by decide) k14 (by decide) rfl ?_
                    refine A_iload hG 7 dX4_joinSpans_167 rfl ?_
                    refine A_iload hG 13 dX4_joinSpans_169 rfl ?_
                    refine A_iadd hG dX4_joinSpans_171 ?_
                    refine M_lald (v := f ((l + (g 5 j) * 4) + m)) hG dX4_joinSpans_172 k15 n15 (by omega) rfl ?_
                    refine A_lload hG 11 dX4_joinSpans_173 rfl ?_
                    refine A_land hG dX4_joinSpans_175 ?_
                    refine A_sub hG [1, 2, 3, 4, 5, 6, 7, 8, 9, 10, 11, 12, 13, 0] rfl ?_
                    exact h_6 ((f ((l + (g 5 j) * 4) + m)) &&& z63) (fun x => Or.inl ⟨by omega, by rw [bitL_and, fA m (by omega) (by omega)]⟩)
                  ·
                    refine A_lload hG 10 dX4_joinSpans_147 rfl ?_
                    refine A_aload_n hG 1 dX4_joinSpans_149 rfl rfl ?_
                    refine A_getR (r := 15) hG dX4_joinSpans_150 fl_X4_15 (by decide) k14 (by decide) rfl ?_
                    refine A_iload hG 8 dX4_joinSpans_153 rfl ?_
                    refine A_iload hG 13 dX4_joinSpans_155 rfl ?_
                    refine A_iadd hG dX4_joinSpans_157 ?_
                    refine M_lald (v := f ((r + (g 6 j) * 4) + m)) hG dX4_joinSpans_158 k15 n15 (by omega) rfl ?_
                    refine A_land hG dX4_joinSpans_159 ?_
                    refine A_goto hG 176 dX4_joinSpans_160 (by decide) ?_
                    refine A_sub hG [1, 2, 3, 4, 5, 6, 7, 8, 9, 10, 11, 12, 13, 0] rfl ?_
                    exact h_6 (z55 &&& (f ((r + (g 6 j) * 4) + m))) (fun x => Or.inr ⟨by omega, by rw [bitL_and, fB m (by omega) (by omega)]⟩)
          refine A_sub hG [2, 3, 4, 5, 6, 7, 8, 9, 10, 11, 12, 1, 0] rfl ?_
          exact m_5 _ 0 f (by omega) hO (fun k m' k0 k1 m0 m1 x x0 x1 => by
              rw [hI k m' k0 k1 m0 m1 x x0 x1]
              exact ⟨fun q => q.imp id Or.inl, fun q => q.imp id (fun q => q.elim id (fun q => by omega))⟩) (Nat.lt_succ_self _)
        refine A_if_eq hG 92 dX4_joinSpans_75 (by decide) (by constructor <;> omega) (fun c_75 => ?_) (fun c_75 => ?_)
        ·
          refine A_lconst (v := i2l 0) hG dX4_joinSpans_92 (by decide) ?_
          refine A_sub hG [5, 6, 7, 8, 9, 10, 4, 3, 2, 1, 0] rfl ?_
          exact u_3 (i2l 0) (fun x x0 x1 => ⟨fun q => absurd q (bitL_0 x), fun q => by omega⟩)
        ·
          refine A_aload_n hG 5 dX4_joinSpans_78 rfl rfl ?_
          refine A_getR (r := 16) hG dX4_joinSpans_79 fl_X4_9 (by decide) k14 (by decide) rfl ?_
          refine A_iload hG 10 dX4_joinSpans_82 rfl ?_
          refine M_lald (v := h.2.1 16 j) hG dX4_joinSpans_84 k16 n16 (by omega) rfl ?_
          refine A_ldc2 (v := i2l (-1)) hG dX4_joinSpans_85 (by rw [show i2l (-1) = (-1 : Int64) by decide]; exact kl_X4_64) ?_
          refine A_lxor hG dX4_joinSpans_88 ?_
          refine A_goto hG 93 dX4_joinSpans_89 (by decide) ?_
          refine A_sub hG [5, 6, 7, 8, 9, 10, 4, 3, 2, 1, 0] rfl ?_
          exact u_3 ((h.2.1 16 j) ^^^ (i2l (-1))) (fun x x0 x1 => by rw [bitL_not _ ⟨x0, x1⟩]; exact ⟨fun q => ⟨by omega, q⟩, fun q => q.2⟩)
  refine A_sub hG [1, 2, 3, 4, 5, 0] rfl ?_
  exact r_0 _ 0 (h.2.1 15) (by omega) (fun _ _ => rfl) (fun k m _ _ _ _ x _ _ => ⟨Or.inl, fun q => q.elim id (fun ⟨q, q1, q2, _⟩ => by omega)⟩) (Nat.lt_succ_self _)

set_option maxHeartbeats 2000000 in
set_option maxRecDepth 20000 in
theorem x_joinAll14 (h : AH) {gn : Nat} (hg : gn = 20 ∨ gn = 40) {g : Gm} (hgx : gX h gn = g) (hOk : okG g) {N : Int} {W : Int → Int → Int} {Ls : Int → Prop} (hN : 0 ≤ N ∧ N ≤ 8) (hF : ∀ x, 0 ≤ x → x < 64 → Ls x → ∀ n' f', 1 ≤ n' → 0 ≤ f' → f' + n' ≤ N → ∀ k m, 0 ≤ k → k ≤ 9 → 0 ≤ m → m < 4 → (bitL (h.2.1 15 (40 * (8 * f' + n' - 1) + (4 * k + m))) x ↔ n' = 1 ∧ rd g (fun q => bitL (h.2.1 16 q) x) (W x) n' f' k m)) : AMet yX8_joinAll cX8_joinAll 6 none 2 60 [.ref 14, .ref gn, vI N] h (Qv (fun h' => ∃ f : Int → Int64, (∀ x, 0 ≤ x → x < 64 → Ls x → ∀ n' f', 1 ≤ n' → 0 ≤ f' → f' + n' ≤ N → ∀ k m, 0 ≤ k → k ≤ 9 → 0 ≤ m → m < 4 → (bitL (f (40 * (8 * f' + n' - 1) + (4 * k + m))) x ↔ rd g (fun q => bitL (h.2.1 16 q) x) (W x) n' f' k m)) ∧ h' = hm h [] [(15, f)] [])) := by
  refine AMet.of (by decide) (Nat.le_of_ble_eq_true rfl) (fun G hM => ?_)
  have hG := hM.cx
  refine A_hm0 (G := G) (L := [(0, .ref 14), (1, .ref gn), (2, vI N)]) ?_
  refine A_iconst (n := 2) hG dX8_joinAll_0 ?_
  refine A_istore_n (L' := [(3, vI 2), (0, .ref 14), (1, .ref gn), (2, vI N)]) hG dX8_joinAll_1 rfl (by decide) rfl ?_
  refine A_insL 15 (ll' := [(15, h.2.1 15)]) rfl ?_
  have n_0 : ∀ fu : Nat, ∀ (n : Int) (f : Int → Int64), (2 ≤ n ∧ n ≤ 9) → (∀ x, 0 ≤ x → x < 64 → Ls x → ∀ n' f', 1 ≤ n' → 0 ≤ f' → f' + n' ≤ N → ∀ k m, 0 ≤ k → k ≤ 9 → 0 ≤ m → m < 4 → (bitL (f (40 * (8 * f' + n' - 1) + (4 * k + m))) x ↔ n' < n ∧ rd g (fun q => bitL (h.2.1 16 q) x) (W x) n' f' k m)) → ((9 - n).toNat) < fu → G 2 [(0, .ref 14), (1, .ref gn), (2, vI N), (3, vI n)] [] (hm h [] [(15, f)] []) := by
    intro fu
    induction fu with
    | zero => intro n f hn hI hfu; exact absurd hfu (Nat.not_lt_zero _)
    | succ fu ih_n =>
      intro n f hn hI hfu
      refine A_iload_n hG 3 dX8_joinAll_2 rfl rfl ?_
      refine A_iload_n hG 2 dX8_joinAll_3 rfl rfl ?_
      refine A_icmp_gt hG 75 dX8_joinAll_4 (by decide) (by constructor <;> omega) (by constructor <;> omega) (fun c_4 => ?_) (fun c_4 => ?_)
      ·
        exact Ret_v hM dX8_joinAll_75 (⟨f, fun x x0 x1 hx n' f' h1 h2 h3 k m k0 k1 m0 m1 => by
            rw [hI x x0 x1 hx n' f' h1 h2 h3 k m k0 k1 m0 m1]
            exact ⟨fun q => q.2, fun q => ⟨by omega, q⟩⟩, rfl⟩)
      ·
        refine A_iconst (n := 0) hG dX8_joinAll_7 ?_
        refine A_istore (L' := [(4, vI 0), (0, .ref 14), (1, .ref gn), (2, vI N), (3, vI n)]) hG dX8_joinAll_8 (by decide) rfl ?_
        have p_1 : ∀ fu : Nat, ∀ (p : Int) (f : Int → Int64), (0 ≤ p ∧ p + n ≤ N + 1) → (∀ x, 0 ≤ x → x < 64 → Ls x → ∀ n' f', 1 ≤ n' → 0 ≤ f' → f' + n' ≤ N → ∀ k m, 0 ≤ k → k ≤ 9 → 0 ≤ m → m < 4 → (bitL (f (40 * (8 * f' + n' - 1) + (4 * k + m))) x ↔ (n' < n ∨ (n' = n ∧ f' < p)) ∧ rd g (fun q => bitL (h.2.1 16 q) x) (W x) n' f' k m)) → ((9 - p).toNat) < fu → G 10 [(0, .ref 14), (1, .ref gn), (2, vI N), (3, vI n), (4, vI p)] [] (hm h [] [(15, f)] []) := by
          intro fu
          induction fu with
          | zero => intro p f hp hI hfu; exact absurd hfu (Nat.not_lt_zero _)
          | succ fu ih_p =>
            intro p f hp hI hfu
            refine A_iload hG 4 dX8_joinAll_10 rfl ?_
            refine A_iload_n hG 3 dX8_joinAll_12 rfl rfl ?_
            refine A_iadd hG dX8_joinAll_13 ?_
            refine A_iload_n hG 2 dX8_joinAll_14 rfl rfl ?_
            refine A_icmp_gt hG 69 dX8_joinAll_15 (by decide) (by constructor <;> omega) (by constructor <;> omega) (fun c_15 => ?_) (fun c_15 => ?_)
            ·
              refine A_iinc (L' := [(3, vI (n + 1)), (0, .ref 14), (1, .ref gn), (2, vI N), (4, vI p)]) hG 3 dX8_joinAll_69 rfl (by decide) rfl ?_
              refine A_goto hG 2 dX8_joinAll_72 (by decide) ?_
              refine A_sub hG [1, 2, 3, 0] rfl ?_
              exact ih_n (n + 1) f (by omega) (fun x x0 x1 hx n' f' h1 h2 h3 k m k0 k1 m0 m1 => by
                  rw [hI x x0 x1 hx n' f' h1 h2 h3 k m k0 k1 m0 m1]
                  exact ⟨fun q => ⟨by omega, q.2⟩, fun q => ⟨by omega, q.2⟩⟩) (by omega)
            ·
              refine A_iconst (n := 1) hG dX8_joinAll_18 ?_
              refine A_istore (L' := [(5, vI 1), (0, .ref 14), (1, .ref gn), (2, vI N), (3, vI n), (4, vI p)]) hG dX8_joinAll_19 (by decide) rfl ?_
              have a_2 : ∀ fu : Nat, ∀ (a : Int) (f : Int → Int64), (1 ≤ a ∧ a ≤ n) → (∀ x, 0 ≤ x → x < 64 → Ls x → ∀ n' f', 1 ≤ n' → 0 ≤ f' → f' + n' ≤ N → ∀ k m, 0 ≤ k → k ≤ 9 → 0 ≤ m → m < 4 → (bitL (f (40 * (8 * f' + n' - 1) + (4 * k + m))) x ↔ ((n' < n ∨ (n' = n ∧ f' < p)) ∧ rd g (fun q => bitL (h.2.1 16 q) x) (W x) n' f' k m) ∨ (n' = n ∧ f' = p ∧ PJ g (fun q => bitL (h.2.1 16 q) x) (W x) n p a 0 k m))) → ((9 - a).toNat) < fu → G 21 [(0, .ref 14), (1, .ref gn), (2, vI N), (3, vI n), (4, vI p), (5, vI a)] [] (hm h [] [(15, f)] []) := by
                intro fu
                induction fu with
                | zero => intro a f ha hI hfu; exact absurd hfu (Nat.not_lt_zero _)
                | succ fu ih_a =>
                  intro a f ha hI hfu
                  refine A_iload hG 5 dX8_joinAll_21 rfl ?_
                  refine A_iload_n hG 3 dX8_joinAll_23 rfl rfl ?_
                  refine A_icmp_ge hG 63 dX8_joinAll_24 (by decide) (by constructor <;> omega) (by constructor <;> omega) (fun c_24 => ?_) (fun c_24 => ?_)
                  ·
                    refine A_iinc (L' := [(4, vI (p + 1)), (0, .ref 14), (1, .ref gn), (2, vI N), (3, vI n), (5, vI a)]) hG 4 dX8_joinAll_63 rfl (by decide) rfl ?_
                    refine A_goto hG 10 dX8_joinAll_66 (by decide) ?_
                    refine A_sub hG [1, 2, 3, 4, 0] rfl ?_
                    exact ih_p (p + 1) f (by omega) (fun x x0 x1 hx n' f' h1 h2 h3 k m k0 k1 m0 m1 => by
                        rw [hI x x0 x1 hx n' f' h1 h2 h3 k m k0 k1 m0 m1]
                        constructor
                        · rintro (⟨q, q2⟩ | ⟨rfl, rfl, q⟩)
                          · exact ⟨by omega, q2⟩
                          · rw [show a = n' by omega, PJ_end (by omega)] at q
                            exact ⟨by omega, q⟩
                        · rintro ⟨q, q2⟩
                          by_cases e : n' = n ∧ f' = p
                          · obtain ⟨rfl, rfl⟩ := e
                            refine Or.inr ⟨rfl, rfl, ?_⟩
                            rw [show a = n' by omega, PJ_end (by omega)]
                            exact q2
                          · exact Or.inl ⟨by omega, q2⟩) (by omega)
                  ·
                    refine A_aload_n hG 0 dX8_joinAll_27 rfl rfl ?_
                    refine A_aload_n hG 1 dX8_joinAll_28 rfl rfl ?_
                    refine A_iload hG 4 dX8_joinAll_29 rfl ?_
                    refine A_iload hG 5 dX8_joinAll_31 rfl ?_
                    refine C_Si (as := [vI p, vI a]) (st := [.ref gn, .ref 14]) hG dX8_joinAll_33 ml_X8_15 mf_X8_span ms_X8_span (x_span (hm h [] [(15, f)] []) (a := p) (b := a) (by omega) (by omega)) (by decide) (by decide) rfl rfl (Nat.le_of_ble_eq_true rfl) (fun z33 g33 ri_33 hp_33 => ?_)
                    obtain ⟨ra_33, rb_33⟩ := ri_33
                    obtain ⟨rfl, rfl⟩ := hp_33
                    refine A_iload hG 4 dX8_joinAll_36 rfl ?_
                    refine A_iload hG 5 dX8_joinAll_38 rfl ?_
                    refine A_iadd hG dX8_joinAll_40 ?_
                    refine A_iload_n hG 3 dX8_joinAll_41 rfl rfl ?_
                    refine A_iload hG 5 dX8_joinAll_42 rfl ?_
                    refine A_isub hG dX8_joinAll_44 ?_
                    refine C_Si (as := [vI (p + a), vI (n - a)]) (st := [vI (40 * (8 * p + a - 1)), .ref gn, .ref 14]) hG dX8_joinAll_45 ml_X8_15 mf_X8_span ms_X8_span (x_span (hm h [] [(15, f)] []) (a := p + a) (b := n - a) (by omega) (by omega)) (by decide) (by decide) rfl rfl (Nat.le_of_ble_eq_true rfl) (fun z45 g45 ri_45 hp_45 => ?_)
                    obtain ⟨ra_45, rb_45⟩ := ri_45
                    obtain ⟨rfl, rfl⟩ := hp_45
                    refine A_iload hG 4 dX8_joinAll_48 rfl ?_
                    refine A_iload_n hG 3 dX8_joinAll_50 rfl rfl ?_
                    refine C_Si (as := [vI p, vI n]) (st := [vI (40 * (8 * (p + a) + (n - a) - 1)), vI (40 * (8 * p + a - 1)), .ref gn, .ref 14]) hG dX8_joinAll_51 ml_X8_15 mf_X8_span ms_X8_span (x_span (hm h [] [(15, f)] []) (a := p) (b := n) (by omega) (by omega)) (by decide) (by decide) rfl rfl (Nat.le_of_ble_eq_true rfl) (fun z51 g51 ri_51 hp_51 => ?_)
                    obtain ⟨ra_51, rb_51⟩ := ri_51
                    obtain ⟨rfl, rfl⟩ := hp_51
                    refine C_Uv (as := [.ref gn, vI (40 * (8 * p + a - 1)), vI (40 * (8 * (p + a) + (n - a) - 1)), vI (40 * (8 * p + n - 1))]) (st := []) (k := 14) (c := 4) (owner := RX8) (x := ⟨RX8, yX4_joinSpans.name, yX4_joinSpans.desc⟩) (y := yX4_joinSpans) hG dX8_joinAll_54 lw_X8_19 sm_X8_X8_joinSpans de_X8_joinSpans (by decide) rfl mf_X4_joinSpans mi_X4_joinSpans su_X4_X4_joinSpans rfl (by decide) k14 (x_joinSpans14 (hm h [] [(15, f)] []) hg (g := g) hgx hOk (l := (40 * (8 * p + a - 1))) (r := (40 * (8 * (p + a) + (n - a) - 1))) (b := (40 * (8 * p + n - 1))) (by omega) (by omega) (by omega) (by omega) (by omega)) (by decide) (by decide) rfl rfl (Nat.le_of_ble_eq_true rfl) (fun g54 hp_54 => ?_)
                    have hq_54 : ∃ fx : Int → Int64, ((∀ i, (i < (40 * (8 * p + n - 1)) ∨ (40 * (8 * p + n - 1)) + 40 ≤ i) → fx i = f i) ∧ ∀ k m, 0 ≤ k → k ≤ 9 → 0 ≤ m → m < 4 → ∀ x, 0 ≤ x → x < 64 → (bitL (fx ((40 * (8 * p + n - 1)) + (4 * k + m))) x ↔ bitL (f ((40 * (8 * p + n - 1)) + (4 * k + m))) x ∨ (∃ q, 0 ≤ q ∧ q < g 10 1 ∧ g 4 q = k ∧ jn g (fun q => bitL (h.2.1 16 q) x) q m (fun y => bitL (f ((40 * (8 * p + a - 1)) + (4 * g 5 q + y))) x) (fun y => bitL (f ((40 * (8 * (p + a) + (n - a) - 1)) + (4 * g 6 q + y))) x)))) ∧ g54 = hm (hm h [] [(15, f)] []) [] [(15, fx)] [] := hp_54
                    clear hp_54
                    obtain ⟨f54, ⟨hO54, hJ54⟩, rfl⟩ := hq_54
                    refine A_hm (la := []) (lb := [(15, f54)]) (lc := []) rfl rfl rfl ?_
                    refine A_iinc (L' := [(5, vI (a + 1)), (0, .ref 14), (1, .ref gn), (2, vI N), (3, vI n), (4, vI p)]) hG 5 dX8_joinAll_57 rfl (by decide) rfl ?_
                    refine A_goto hG 21 dX8_joinAll_60 (by decide) ?_
                    refine A_sub hG [1, 2, 3, 4, 5, 0] rfl ?_
                    exact ih_a (a + 1) f54 (by omega) (fun x x0 x1 hx n' f' h1 h2 h3 k m k0 k1 m0 m1 => by
                        have e0 := hI x x0 x1 hx n' f' h1 h2 h3 k m k0 k1 m0 m1
                        by_cases hq : n' = n ∧ f' = p
                        · obtain ⟨rfl, rfl⟩ := hq
                          rw [hJ54 k m k0 k1 m0 m1 x x0 x1, e0]
                          have ej : ∀ q, 0 ≤ q → q < g 10 1 → (jn g (fun q => bitL (h.2.1 16 q) x) q m (fun y => bitL (f (40 * (8 * f' + a - 1) + (4 * g 5 q + y))) x) (fun y => bitL (f (40 * (8 * (f' + a) + (n' - a) - 1) + (4 * g 6 q + y))) x) ↔ jn g (fun q => bitL (h.2.1 16 q) x) q m (rd g (fun q => bitL (h.2.1 16 q) x) (W x) a f' (g 5 q)) (rd g (fun q => bitL (h.2.1 16 q) x) (W x) (n' - a) (f' + a) (g 6 q))) := fun q q0 q1 => by
                            have o := hOk.2.2.2.1 q q0 q1
                            refine jn_congr4 Iff.rfl ⟨m0, m1⟩ (fun y y0 y1 => ?_) (fun y y0 y1 => ?_)
                            · have := hI x x0 x1 hx a f' (by omega) (by omega) (by omega) (g 5 q) y (by omega) (by omega) y0 y1
                              rw [this]
                              exact ⟨fun u => u.elim (fun u => u.2) (fun u => by omega), fun u => Or.inl ⟨by omega, u⟩⟩
                            · have := hI x x0 x1 hx (n' - a) (f' + a) (by omega) (by omega) (by omega) (g 6 q) y (by omega) (by omega) y0 y1
                              rw [this]
                              exact ⟨fun u => u.elim (fun u => u.2) (fun u => by omega), fun u => Or.inl ⟨by omega, u⟩⟩
                          rw [PJ_a (by omega)]
                          constructor
                          · rintro ((⟨q, -⟩ | ⟨-, -, q⟩) | ⟨q, q1, q2, q3, q4⟩)
                            · omega
                            · exact Or.inr ⟨rfl, rfl, Or.inl q⟩
                            · exact Or.inr ⟨rfl, rfl, Or.inr ⟨q, q1, q2, q3, (ej q q1 q2).mp q4⟩⟩
                          · rintro (⟨q, -⟩ | ⟨-, -, q | ⟨q, q1, q2, q3, q4⟩⟩)
                            · omega
                            · exact Or.inl (Or.inr ⟨rfl, rfl, q⟩)
                            · exact Or.inr ⟨q, q1, q2, q3, (ej q q1 q2).mpr q4⟩
                        · rw [hO54 _ (by omega), e0]
                          exact or_congr Iff.rfl ⟨fun q => absurd ⟨q.1, q.2.1⟩ hq, fun q => absurd ⟨q.1, q.2.1⟩ hq⟩) (by omega)
              refine A_sub hG [1, 2, 3, 4, 5, 0] rfl ?_
              exact a_2 _ 1 f (by omega) (fun x x0 x1 hx n' f' h1 h2 h3 k m k0 k1 m0 m1 => by
                  rw [hI x x0 x1 hx n' f' h1 h2 h3 k m k0 k1 m0 m1]
                  refine ⟨Or.inl, fun q => q.elim id (fun ⟨q1, q2, q3⟩ => ?_)⟩
                  rw [PJ_0] at q3
                  omega) (Nat.lt_succ_self _)
        refine A_sub hG [1, 2, 3, 4, 0] rfl ?_
        exact p_1 _ 0 f (by omega) (fun x x0 x1 hx n' f' h1 h2 h3 k m k0 k1 m0 m1 => by
            rw [hI x x0 x1 hx n' f' h1 h2 h3 k m k0 k1 m0 m1]
            exact ⟨fun q => ⟨by omega, q.2⟩, fun q => ⟨by omega, q.2⟩⟩) (Nat.lt_succ_self _)
  refine A_sub hG [1, 2, 3, 0] rfl ?_
  exact n_0 _ 2 (h.2.1 15) (by omega) (fun x x0 x1 hx n' f' h1 h2 h3 k m k0 k1 m0 m1 => by
      rw [hF x x0 x1 hx n' f' h1 h2 h3 k m k0 k1 m0 m1]
      exact ⟨fun q => ⟨by omega, q.2⟩, fun q => ⟨by omega, q.2⟩⟩) (Nat.lt_succ_self _)

end
