/-! the class's face: kept ones (printed by gen) -/
section
/-- what is asked of a kept one's marks -/
def kXP (h : AH) (a k : Int) : Prop := (a = 2 ∧ h.1 (80 + k.toNat) 0 = 1 ∧ h.1 (80 + k.toNat) 1 = 0) ∨ (a ≠ 2 ∧ h.1 (80 + k.toNat) 0 = 0 ∧ h.1 (80 + k.toNat) 1 = 0 ∧ (a ≠ 0 ∨ h.1 (80 + k.toNat) 2 = 0))
def kXR (h : AH) (r k : Int) : Prop := h.1 (80 + k.toNat) 0 = 1 ∧ h.1 (80 + k.toNat) 1 = 0 ∧ hasb (h.1 (80 + k.toNat) 3) r
set_option maxHeartbeats 2000000 in
set_option maxRecDepth 20000 in
theorem x_kept (h : AH) {gn : Nat} {g : Gm} (hCI : CI h gn g) {a : Int} (ha : ir a) : AMet yX11_kept cX11_kept 6 (some .int) 1 22 [.ref 1, vI a] h (Qi (fun z h' => ((z = -1 ∧ (a < 0 ∨ 2 < a)) ∨ ((0 ≤ a ∧ a ≤ 2) ∧ z = cntC (kXP h a) (h.1 1 5).toNat)) ∧ h' = h)) := by
  have hCI0 := hCI
  obtain ⟨hg, ⟨hLd, hTl⟩, hgx, hOk, hL0, hE0, hK0, hWs, hKb, hS, hKr, hPer, hTf, hV13, hCc⟩ := hCI
  have hgw := hOk.1
  have hgr := hOk.2.1
  obtain ⟨ha1, ha2⟩ := ha
  refine AMet.of (by decide) (Nat.le_of_ble_eq_true rfl) (fun G hM => ?_)
  have hG := hM.cx
  refine A_hm0 (G := G) (L := [(0, .ref 1), (1, vI a)]) ?_
  refine A_iload_n hG 1 dX11_kept_0 rfl rfl ?_
  refine A_iconst (n := 0) hG dX11_kept_1 ?_
  refine A_iconst (n := 2) hG dX11_kept_2 ?_
  refine C_Si (as := [vI a, vI 0, vI 2]) (st := []) hG dX11_kept_3 ml_X11_93 mf_X11_isWithin ms_X11_isWithin (x_isWithin (hm h [] [] []) (by constructor <;> omega) (by constructor <;> omega) (by constructor <;> omega)) (by decide) (by decide) rfl rfl (Nat.le_of_ble_eq_true rfl) (fun z3 g3 ri_3 hp_3 => ?_)
  obtain ⟨ra_3, rb_3⟩ := ri_3
  obtain ⟨hz3, rfl⟩ := hp_3
  refine A_if_ne hG 11 dX11_kept_6 (by decide) (by constructor <;> omega) (fun c_6 => ?_) (fun c_6 => ?_)
  ·
    refine A_iconst (n := 0) hG dX11_kept_11 ?_
    refine A_istore_n (L' := [(2, vI 0), (0, .ref 1), (1, vI a)]) hG dX11_kept_12 rfl (by decide) rfl ?_
    refine A_iconst (n := 0) hG dX11_kept_13 ?_
    refine A_istore_n (L' := [(3, vI 0), (2, vI 0), (0, .ref 1), (1, vI a)]) hG dX11_kept_14 rfl (by decide) rfl ?_
    have k_1 : ∀ fu : Nat, ∀ (x : Int) (k : Nat), (k ≤ (h.1 1 5).toNat) → (0 ≤ x ∧ x ≤ k) → (x = cntC (kXP h a) k) → (13 - k) < fu → G 15 [(0, .ref 1), (1, vI a), (2, vI x), (3, vI (k : Int))] [] (hm h [] [] []) := by
      intro fu
      induction fu with
      | zero => intro x k hk hxr hx hfu; exact absurd hfu (Nat.not_lt_zero _)
      | succ fu ih_k =>
        intro x k hk hxr hx hfu
        refine A_iload_n hG 3 dX11_kept_15 rfl rfl ?_
        refine A_aload_n hG 0 dX11_kept_16 rfl rfl ?_
        refine M_getI (z := 5) (v := h.1 1 5) hG dX11_kept_17 fl_X11_38 (by decide) k1 rfl rfl rfl (fun ⟨ra_17, rb_17⟩ => ?_)
        refine A_icmp_ge hG 77 dX11_kept_20 (by decide) (by constructor <;> omega) (by constructor <;> omega) (fun c_20 => ?_) (fun c_20 => ?_)
        ·
          refine A_iload_n hG 2 dX11_kept_77 rfl rfl ?_
          exact Ret_i hM dX11_kept_78 (by constructor <;> omega) (⟨Or.inr ⟨by omega, by rw [hx, show k = (h.1 1 5).toNat by omega]⟩, rfl⟩)
        ·
          obtain ⟨κ, hκe⟩ : ∃ κ : Nat, κ = 80 + ((k : Int)).toNat := ⟨_, rfl⟩
          have hκ : 80 ≤ κ ∧ κ < 92 := by omega
          have hkb := hKb (k : Int) (by omega) (by omega)
          unfold kB at hkb
          rw [← hκe] at hkb
          refine A_aload_n hG 0 dX11_kept_23 rfl rfl ?_
          refine A_getR (r := 6) hG dX11_kept_24 fl_X11_34 (by decide) k1 (by decide) rfl ?_
          refine A_iload_n hG 3 dX11_kept_27 rfl rfl ?_
          refine M_aald (r := κ) hG dX11_kept_28 (Or.inr k6) n6 (by omega) ((hKr (k : Int) (by omega) (by omega)).trans hκe.symm) ?_
          refine A_astore (L' := [(4, .ref κ), (0, .ref 1), (1, vI a), (2, vI x), (3, vI (k : Int))]) hG dX11_kept_29 (by decide) rfl ?_
          have b_2 : ∀ (y : Int), ((y = 0 ∨ y = 1) ∧ (y = 1 ↔ ((a = 2 ∧ h.1 κ 0 = 1 ∧ h.1 κ 1 = 0) ∨ (a ≠ 2 ∧ h.1 κ 0 = 0 ∧ h.1 κ 1 = 0)))) → G 49 [(0, .ref 1), (1, vI a), (2, vI x), (3, vI (k : Int)), (4, .ref κ)] [vI y] (hm h [] [] []) := by
            intro y hy
            refine A_istore (L' := [(5, vI y), (0, .ref 1), (1, vI a), (2, vI x), (3, vI (k : Int)), (4, .ref κ)]) hG dX11_kept_49 (by decide) rfl ?_
            refine A_iload hG 0 dX11_kept_51 rfl ?_
            refine A_if_eq hG 71 dX11_kept_53 (by decide) (by constructor <;> omega) (fun c_53 => ?_) (fun c_53 => ?_)
            ·
              have hno : ¬ kXP h a k := by unfold kXP; rw [← hκe]; omega
              refine A_iinc (L' := [(3, vI ((k : Int) + 1)), (5, vI y), (0, .ref 1), (1, vI a), (2, vI x), (4, .ref κ)]) hG 4 dX11_kept_71 rfl (by decide) rfl ?_
              refine A_goto hG 15 dX11_kept_74 (by decide) ?_
              refine A_sub hG [2, 3, 4, 0] rfl ?_
              exact ih_k x (k + 1) (by omega) (by omega) (by rw [cntC_n hno]; exact hx) (by omega)
            ·
              have d_3 : (kXP h a k) → G 68 [(0, .ref 1), (1, vI a), (2, vI x), (3, vI (k : Int))] [] (hm h [] [] []) := by
                intro  hyes
                refine A_iinc (L' := [(2, vI (x + 1)), (0, .ref 1), (1, vI a), (3, vI (k : Int))]) hG 2 dX11_kept_68 rfl (by decide) rfl ?_
                refine A_iinc (L' := [(3, vI ((k : Int) + 1)), (2, vI (x + 1)), (0, .ref 1), (1, vI a)]) hG 3 dX11_kept_71 rfl (by decide) rfl ?_
                refine A_goto hG 15 dX11_kept_74 (by decide) ?_
                refine A_sub hG [2, 3, 1, 0] rfl ?_
                exact ih_k (x + 1) (k + 1) (by omega) (by omega) (by rw [cntC_y hyes, hx]) (by omega)
              refine A_iload_n hG 2 dX11_kept_56 rfl rfl ?_
              refine A_if_ne hG 68 dX11_kept_57 (by decide) (by constructor <;> omega) (fun c_57 => ?_) (fun c_57 => ?_)
              ·
                refine A_sub hG [1, 2, 3, 4] rfl ?_
                exact d_3 (by unfold kXP; rw [← hκe]; omega)
              ·
                refine A_aload hG 5 dX11_kept_60 rfl ?_
                refine M_getI (z := 2) (v := h.1 κ 2) hG dX11_kept_62 fl_X11_195 (by decide) (obk_kept hκ) rfl rfl rfl (fun ⟨ra_62, rb_62⟩ => ?_)
                refine A_if_ne hG 71 dX11_kept_65 (by decide) (by constructor <;> omega) (fun c_65 => ?_) (fun c_65 => ?_)
                ·
                  have hno : ¬ kXP h a k := by unfold kXP; rw [← hκe]; omega
                  refine A_iinc (L' := [(3, vI ((k : Int) + 1)), (5, vI y), (0, .ref 1), (1, vI a), (2, vI x), (4, .ref κ)]) hG 4 dX11_kept_71 rfl (by decide) rfl ?_
                  refine A_goto hG 15 dX11_kept_74 (by decide) ?_
                  refine A_sub hG [2, 3, 4, 0] rfl ?_
                  exact ih_k x (k + 1) (by omega) (by omega) (by rw [cntC_n hno]; exact hx) (by omega)
                ·
                  refine A_sub hG [1, 2, 3, 4] rfl ?_
                  exact d_3 (by unfold kXP; rw [← hκe]; omega)
          refine A_iload_n hG 2 dX11_kept_31 rfl rfl ?_
          refine A_iconst (n := 2) hG dX11_kept_32 ?_
          refine A_icmp_ne hG 44 dX11_kept_33 (by decide) (by constructor <;> omega) (by constructor <;> omega) (fun c_33 => ?_) (fun c_33 => ?_)
          ·
            refine A_aload hG 0 dX11_kept_44 rfl ?_
            refine C_Vi (as := []) (st := []) (k := κ) (c := 3) hG dX11_kept_46 ml_X11_215 mf_X3_isChangedUnread mi_X3_isChangedUnread se_X3_isChangedUnread rfl (by decide) (obk_kept hκ) (x_isChangedUnread (hm h [] [] []) (k := κ) hκ (a := h.1 κ 0) (b := h.1 κ 1) ⟨rfl, hkb.1⟩ ⟨rfl, hkb.2⟩) (by decide) (by decide) rfl rfl (Nat.le_of_ble_eq_true rfl) (fun z46 g46 ri_46 hp_46 => ?_)
            obtain ⟨ra_46, rb_46⟩ := ri_46
            obtain ⟨hz46, rfl⟩ := hp_46
            refine A_sub hG [1, 2, 3, 4, 0] rfl ?_
            exact b_2 z46 (by omega)
          ·
            refine A_aload hG 0 dX11_kept_36 rfl ?_
            refine C_Vi (as := []) (st := []) (k := κ) (c := 3) hG dX11_kept_38 ml_X11_211 mf_X3_isWronged mi_X3_isWronged se_X3_isWronged rfl (by decide) (obk_kept hκ) (x_isWronged (hm h [] [] []) (k := κ) hκ (a := h.1 κ 0) (b := h.1 κ 1) ⟨rfl, hkb.1⟩ ⟨rfl, hkb.2⟩) (by decide) (by decide) rfl rfl (Nat.le_of_ble_eq_true rfl) (fun z38 g38 ri_38 hp_38 => ?_)
            obtain ⟨ra_38, rb_38⟩ := ri_38
            obtain ⟨hz38, rfl⟩ := hp_38
            refine A_goto hG 49 dX11_kept_41 (by decide) ?_
            refine A_sub hG [1, 2, 3, 4, 0] rfl ?_
            exact b_2 z38 (by omega)
    refine A_sub hG [2, 3, 1, 0] rfl ?_
    exact k_1 _ 0 0 (by omega) (by omega) rfl (Nat.lt_succ_self _)
  ·
    refine A_iconst (n := -1) hG dX11_kept_9 ?_
    exact Ret_i hM dX11_kept_10 (by constructor <;> omega) (⟨Or.inl ⟨rfl, by omega⟩, rfl⟩)

set_option maxHeartbeats 2000000 in
set_option maxRecDepth 20000 in
theorem x_byRule (h : AH) {gn : Nat} {g : Gm} (hCI : CI h gn g) {r : Int} (hr : ir r) : AMet yX11_byRule cX11_byRule 4 (some .int) 1 22 [.ref 1, vI r] h (Qi (fun z h' => ((z = -1 ∧ (r < 0 ∨ g 10 1 ≤ r)) ∨ ((0 ≤ r ∧ r < g 10 1) ∧ z = cntC (kXR h r) (h.1 1 5).toNat)) ∧ h' = h)) := by
  have hCI0 := hCI
  obtain ⟨hg, ⟨hLd, hTl⟩, hgx, hOk, hL0, hE0, hK0, hWs, hKb, hS, hKr, hPer, hTf, hV13, hCc⟩ := hCI
  have hgw := hOk.1
  have hgr := hOk.2.1
  obtain ⟨hr1, hr2⟩ := hr
  refine AMet.of (by decide) (Nat.le_of_ble_eq_true rfl) (fun G hM => ?_)
  have hG := hM.cx
  refine A_hm0 (G := G) (L := [(0, .ref 1), (1, vI r)]) ?_
  refine A_iload_n hG 1 dX11_byRule_0 rfl rfl ?_
  refine A_iconst (n := 0) hG dX11_byRule_1 ?_
  refine A_aload_n hG 0 dX11_byRule_2 rfl rfl ?_
  refine A_getR (r := gn) hG dX11_byRule_3 fl_X11_19 (by decide) k1 (by decide) hLd ?_
  refine M_getI (z := 10) (v := (g 10 1)) hG dX11_byRule_6 fl_X11_218 (by decide) (kg0 hg) rfl rfl ((gx_n hgx).2) (fun ⟨ra_6, rb_6⟩ => ?_)
  refine A_iconst (n := 1) hG dX11_byRule_9 ?_
  refine A_isub hG dX11_byRule_10 ?_
  refine C_Si (as := [vI r, vI 0, vI ((g 10 1) - 1)]) (st := []) hG dX11_byRule_11 ml_X11_93 mf_X11_isWithin ms_X11_isWithin (x_isWithin (hm h [] [] []) (by constructor <;> omega) (by constructor <;> omega) (by constructor <;> omega)) (by decide) (by decide) rfl rfl (Nat.le_of_ble_eq_true rfl) (fun z11 g11 ri_11 hp_11 => ?_)
  obtain ⟨ra_11, rb_11⟩ := ri_11
  obtain ⟨hz11, rfl⟩ := hp_11
  refine A_if_ne hG 19 dX11_byRule_14 (by decide) (by constructor <;> omega) (fun c_14 => ?_) (fun c_14 => ?_)
  ·
    refine A_iconst (n := 0) hG dX11_byRule_19 ?_
    refine A_istore_n (L' := [(2, vI 0), (0, .ref 1), (1, vI r)]) hG dX11_byRule_20 rfl (by decide) rfl ?_
    refine A_iconst (n := 0) hG dX11_byRule_21 ?_
    refine A_istore_n (L' := [(3, vI 0), (2, vI 0), (0, .ref 1), (1, vI r)]) hG dX11_byRule_22 rfl (by decide) rfl ?_
    have k_1 : ∀ fu : Nat, ∀ (x : Int) (k : Nat), (k ≤ (h.1 1 5).toNat) → (0 ≤ x ∧ x ≤ k) → (x = cntC (kXR h r) k) → (13 - k) < fu → G 23 [(0, .ref 1), (1, vI r), (2, vI x), (3, vI (k : Int))] [] (hm h [] [] []) := by
      intro fu
      induction fu with
      | zero => intro x k hk hxr hx hfu; exact absurd hfu (Nat.not_lt_zero _)
      | succ fu ih_k =>
        intro x k hk hxr hx hfu
        refine A_iload_n hG 3 dX11_byRule_23 rfl rfl ?_
        refine A_aload_n hG 0 dX11_byRule_24 rfl rfl ?_
        refine M_getI (z := 5) (v := h.1 1 5) hG dX11_byRule_25 fl_X11_38 (by decide) k1 rfl rfl rfl (fun ⟨ra_25, rb_25⟩ => ?_)
        refine A_icmp_ge hG 68 dX11_byRule_28 (by decide) (by constructor <;> omega) (by constructor <;> omega) (fun c_28 => ?_) (fun c_28 => ?_)
        ·
          refine A_iload_n hG 2 dX11_byRule_68 rfl rfl ?_
          exact Ret_i hM dX11_byRule_69 (by constructor <;> omega) (⟨Or.inr ⟨by omega, by rw [hx, show k = (h.1 1 5).toNat by omega]⟩, rfl⟩)
        ·
          obtain ⟨κ, hκe⟩ : ∃ κ : Nat, κ = 80 + ((k : Int)).toNat := ⟨_, rfl⟩
          have hκ : 80 ≤ κ ∧ κ < 92 := by omega
          have hkb := hKb (k : Int) (by omega) (by omega)
          unfold kB at hkb
          rw [← hκe] at hkb
          refine A_aload_n hG 0 dX11_byRule_31 rfl rfl ?_
          refine A_getR (r := 6) hG dX11_byRule_32 fl_X11_34 (by decide) k1 (by decide) rfl ?_
          refine A_iload_n hG 3 dX11_byRule_35 rfl rfl ?_
          refine M_aald (r := κ) hG dX11_byRule_36 (Or.inr k6) n6 (by omega) ((hKr (k : Int) (by omega) (by omega)).trans hκe.symm) ?_
          refine C_Vi (as := []) (st := []) (k := κ) (c := 3) hG dX11_byRule_37 ml_X11_211 mf_X3_isWronged mi_X3_isWronged se_X3_isWronged rfl (by decide) (obk_kept hκ) (x_isWronged (hm h [] [] []) (k := κ) hκ (a := h.1 κ 0) (b := h.1 κ 1) ⟨rfl, hkb.1⟩ ⟨rfl, hkb.2⟩) (by decide) (by decide) rfl rfl (Nat.le_of_ble_eq_true rfl) (fun z37 g37 ri_37 hp_37 => ?_)
          obtain ⟨ra_37, rb_37⟩ := ri_37
          obtain ⟨hz37, rfl⟩ := hp_37
          refine A_if_eq hG 62 dX11_byRule_40 (by decide) (by constructor <;> omega) (fun c_40 => ?_) (fun c_40 => ?_)
          ·
            have hno : ¬ kXR h r k := by unfold kXR; rw [← hκe]; omega
            refine A_iinc (L' := [(3, vI ((k : Int) + 1)), (0, .ref 1), (1, vI r), (2, vI x)]) hG 3 dX11_byRule_62 rfl (by decide) rfl ?_
            refine A_goto hG 23 dX11_byRule_65 (by decide) ?_
            refine A_sub hG [1, 2, 3, 0] rfl ?_
            exact ih_k x (k + 1) (by omega) (by omega) (by rw [cntC_n hno]; exact hx) (by omega)
          ·
            refine A_aload_n hG 0 dX11_byRule_43 rfl rfl ?_
            refine A_getR (r := 6) hG dX11_byRule_44 fl_X11_34 (by decide) k1 (by decide) rfl ?_
            refine A_iload_n hG 3 dX11_byRule_47 rfl rfl ?_
            refine M_aald (r := κ) hG dX11_byRule_48 (Or.inr k6) n6 (by omega) ((hKr (k : Int) (by omega) (by omega)).trans hκe.symm) ?_
            refine M_getI (z := 3) (v := h.1 κ 3) hG dX11_byRule_49 fl_X11_198 (by decide) (obk_kept hκ) rfl rfl rfl (fun ⟨ra_49, rb_49⟩ => ?_)
            refine A_iload_n hG 1 dX11_byRule_52 rfl rfl ?_
            refine C_Si (as := [vI (h.1 κ 3), vI r]) (st := []) hG dX11_byRule_53 ml_X11_221 mf_X11_hasBit ms_X11_hasBit (x_hasBit (hm h [] [] []) (h.1 κ 3) r) (by decide) (by decide) rfl rfl (Nat.le_of_ble_eq_true rfl) (fun z53 g53 ri_53 hp_53 => ?_)
            obtain ⟨ra_53, rb_53⟩ := ri_53
            obtain ⟨hz53, rfl⟩ := hp_53
            refine A_if_eq hG 62 dX11_byRule_56 (by decide) (by constructor <;> omega) (fun c_56 => ?_) (fun c_56 => ?_)
            ·
              have hno : ¬ kXR h r k := by unfold kXR; rw [← hκe]; exact fun q => has_no hz53 c_56 q.2.2
              refine A_iinc (L' := [(3, vI ((k : Int) + 1)), (0, .ref 1), (1, vI r), (2, vI x)]) hG 3 dX11_byRule_62 rfl (by decide) rfl ?_
              refine A_goto hG 23 dX11_byRule_65 (by decide) ?_
              refine A_sub hG [1, 2, 3, 0] rfl ?_
              exact ih_k x (k + 1) (by omega) (by omega) (by rw [cntC_n hno]; exact hx) (by omega)
            ·
              have hyes : kXR h r k := by unfold kXR; rw [← hκe]; exact ⟨by omega, by omega, has_yes hz53 c_56⟩
              refine A_iinc (L' := [(2, vI (x + 1)), (0, .ref 1), (1, vI r), (3, vI (k : Int))]) hG 2 dX11_byRule_59 rfl (by decide) rfl ?_
              refine A_iinc (L' := [(3, vI ((k : Int) + 1)), (2, vI (x + 1)), (0, .ref 1), (1, vI r)]) hG 3 dX11_byRule_62 rfl (by decide) rfl ?_
              refine A_goto hG 23 dX11_byRule_65 (by decide) ?_
              refine A_sub hG [2, 3, 1, 0] rfl ?_
              exact ih_k (x + 1) (k + 1) (by omega) (by omega) (by rw [cntC_y hyes, hx]) (by omega)
    refine A_sub hG [2, 3, 1, 0] rfl ?_
    exact k_1 _ 0 0 (by omega) (by omega) rfl (Nat.lt_succ_self _)
  ·
    refine A_iconst (n := -1) hG dX11_byRule_17 ?_
    exact Ret_i hM dX11_byRule_18 (by constructor <;> omega) (⟨Or.inl ⟨rfl, by omega⟩, rfl⟩)

set_option maxHeartbeats 2000000 in
set_option maxRecDepth 20000 in
theorem x_theirs (h : AH) {gn : Nat} {g : Gm} (hCI : CI h gn g) {k : Int} (hk : ir k) : AMet yX11_theirs cX11_theirs 2 (some .int) 1 22 [.ref 1, vI k] h (Qi (fun z h' => ((z = -1 ∧ (k < 0 ∨ h.1 1 5 ≤ k)) ∨ ((0 ≤ k ∧ k < h.1 1 5) ∧ ((z = -2 ∧ ¬ (h.1 (80 + k.toNat) 0 = 0 ∧ h.1 (80 + k.toNat) 1 = 0)) ∨ ((h.1 (80 + k.toNat) 0 = 0 ∧ h.1 (80 + k.toNat) 1 = 0) ∧ z = h.1 (80 + k.toNat) 2)))) ∧ h' = h)) := by
  have hCI0 := hCI
  obtain ⟨hg, ⟨hLd, hTl⟩, hgx, hOk, hL0, hE0, hK0, hWs, hKb, hS, hKr, hPer, hTf, hV13, hCc⟩ := hCI
  have hgw := hOk.1
  have hgr := hOk.2.1
  obtain ⟨hk1, hk2⟩ := hk
  refine AMet.of (by decide) (Nat.le_of_ble_eq_true rfl) (fun G hM => ?_)
  have hG := hM.cx
  refine A_hm0 (G := G) (L := [(0, .ref 1), (1, vI k)]) ?_
  refine A_iload_n hG 1 dX11_theirs_0 rfl rfl ?_
  refine A_iconst (n := 0) hG dX11_theirs_1 ?_
  refine A_aload_n hG 0 dX11_theirs_2 rfl rfl ?_
  refine M_getI (z := 5) (v := h.1 1 5) hG dX11_theirs_3 fl_X11_38 (by decide) k1 rfl rfl rfl (fun ⟨ra_3, rb_3⟩ => ?_)
  refine A_iconst (n := 1) hG dX11_theirs_6 ?_
  refine A_isub hG dX11_theirs_7 ?_
  refine C_Si (as := [vI k, vI 0, vI ((h.1 1 5) - 1)]) (st := []) hG dX11_theirs_8 ml_X11_93 mf_X11_isWithin ms_X11_isWithin (x_isWithin (hm h [] [] []) (by constructor <;> omega) (by constructor <;> omega) (by constructor <;> omega)) (by decide) (by decide) rfl rfl (Nat.le_of_ble_eq_true rfl) (fun z8 g8 ri_8 hp_8 => ?_)
  obtain ⟨ra_8, rb_8⟩ := ri_8
  obtain ⟨hz8, rfl⟩ := hp_8
  refine A_if_ne hG 16 dX11_theirs_11 (by decide) (by constructor <;> omega) (fun c_11 => ?_) (fun c_11 => ?_)
  ·
    obtain ⟨κ, hκe⟩ : ∃ κ : Nat, κ = 80 + (k).toNat := ⟨_, rfl⟩
    have hκ : 80 ≤ κ ∧ κ < 92 := by omega
    have hkb := hKb k (by omega) (by omega)
    unfold kB at hkb
    rw [← hκe] at hkb
    refine A_aload_n hG 0 dX11_theirs_16 rfl rfl ?_
    refine A_getR (r := 6) hG dX11_theirs_17 fl_X11_34 (by decide) k1 (by decide) rfl ?_
    refine A_iload_n hG 1 dX11_theirs_20 rfl rfl ?_
    refine M_aald (r := κ) hG dX11_theirs_21 (Or.inr k6) n6 (by omega) ((hKr k (by omega) (by omega)).trans hκe.symm) ?_
    refine C_Vi (as := []) (st := []) (k := κ) (c := 3) hG dX11_theirs_22 ml_X11_215 mf_X3_isChangedUnread mi_X3_isChangedUnread se_X3_isChangedUnread rfl (by decide) (obk_kept hκ) (x_isChangedUnread (hm h [] [] []) (k := κ) hκ (a := h.1 κ 0) (b := h.1 κ 1) ⟨rfl, hkb.1⟩ ⟨rfl, hkb.2⟩) (by decide) (by decide) rfl rfl (Nat.le_of_ble_eq_true rfl) (fun z22 g22 ri_22 hp_22 => ?_)
    obtain ⟨ra_22, rb_22⟩ := ri_22
    obtain ⟨hz22, rfl⟩ := hp_22
    refine A_if_eq hG 40 dX11_theirs_25 (by decide) (by constructor <;> omega) (fun c_25 => ?_) (fun c_25 => ?_)
    ·
      refine A_bipush (n := -2) hG dX11_theirs_40 (by decide) ?_
      exact Ret_i hM dX11_theirs_42 (by constructor <;> omega) (⟨Or.inr ⟨by omega, by rw [← hκe]; omega⟩, rfl⟩)
    ·
      refine A_aload_n hG 0 dX11_theirs_28 rfl rfl ?_
      refine A_getR (r := 6) hG dX11_theirs_29 fl_X11_34 (by decide) k1 (by decide) rfl ?_
      refine A_iload_n hG 1 dX11_theirs_32 rfl rfl ?_
      refine M_aald (r := κ) hG dX11_theirs_33 (Or.inr k6) n6 (by omega) ((hKr k (by omega) (by omega)).trans hκe.symm) ?_
      refine M_getI (z := 2) (v := h.1 κ 2) hG dX11_theirs_34 fl_X11_195 (by decide) (obk_kept hκ) rfl rfl rfl (fun ⟨ra_34, rb_34⟩ => ?_)
      refine A_goto hG 42 dX11_theirs_37 (by decide) ?_
      exact Ret_i hM dX11_theirs_42 (by constructor <;> omega) (⟨Or.inr ⟨by omega, by rw [← hκe]; omega⟩, rfl⟩)
  ·
    refine A_iconst (n := -1) hG dX11_theirs_14 ?_
    exact Ret_i hM dX11_theirs_15 (by constructor <;> omega) (⟨Or.inl ⟨rfl, by omega⟩, rfl⟩)

/-- a kept one's marks say what they should -/
def kFld (h : AH) (κ : Nat) (g : Gm) (ls lt : Int) (ws wt : Int → Int) : Prop := ((h.1 κ 0 = 1 ∧ kRt ls lt ws wt) ∨ (h.1 κ 0 = 0 ∧ ¬ kRt ls lt ws wt)) ∧ ((h.1 κ 1 = 1 ∧ READ g (hasb 0) ws ls) ∨ (h.1 κ 1 = 0 ∧ ¬ READ g (hasb 0) ws ls)) ∧ (¬ READ g (hasb 0) ws ls → ¬ kRt ls lt ws wt → kPl g ls lt ws wt (h.1 κ 2)) ∧ (¬ READ g (hasb 0) ws ls → kRt ls lt ws wt → ∀ q, 0 ≤ q → q < g 10 1 → (hasb (h.1 κ 3) q ↔ READ g (hasb (ishl 1 q)) ws ls))
/-- all but one kept one is as it was -/
def frK (κ : Nat) (h h' : AH) : Prop := (∀ k : Nat, k ≠ κ → (k = 2 ∨ k = 3 ∨ k = 7 ∨ k = 8 ∨ 500 ≤ k ∨ (20 ≤ k ∧ k ≤ 50) ∨ (80 ≤ k ∧ k < 108) ∨ (300 ≤ k ∧ k < 308)) → h'.1 k = h.1 k) ∧ (∀ q : Int, q ≠ 13 → q ≠ 5 → h'.1 1 q = h.1 1 q) ∧ (∀ k : Nat, 500 ≤ k → h'.2.1 k = h.2.1 k) ∧ ∀ k : Nat, k ≠ 61 → h'.2.2 k = h.2.2 k
def frQ (κ : Nat) (h h' : AH) : Prop := (∀ k : Nat, k ≠ κ → k ≠ 17 → k ≠ 18 → h'.1 k = h.1 k) ∧ (∀ k : Nat, k ≠ 11 → k ≠ 15 → k ≠ 16 → h'.2.1 k = h.2.1 k) ∧ h'.2.2 = h.2.2
theorem frQ_K {κ : Nat} {h h' : AH} (hκ : 80 ≤ κ ∧ κ < 92) (a : frQ κ h h') : frK κ h h' := ⟨fun k k1 k2 => a.1 k k1 (by omega) (by omega), fun q _ _ => by rw [a.1 1 (by omega) (by omega) (by omega)], fun k k1 => a.2.1 k (by omega) (by omega) (by omega), fun k _ => by rw [a.2.2]⟩
theorem frQ_sd {κ : Nat} {h h' : AH} {g : Gm} (hκ : 80 ≤ κ ∧ κ < 92) (a : frQ κ h h') (q : sd h g) : sd h' g := by
  obtain ⟨q1, q2, q3, q4, q5, q6⟩ := q
  refine ⟨fun s s0 s1 => by rw [a.2.2]; exact q1 s s0 s1, fun k k0 k1 => by rw [a.2.2]; exact q2 k k0 k1, by rw [a.2.2]; exact q3, fun l l0 l1 => by rw [a.2.2]; exact q4 l l0 l1, fun i i0 i1 => by rw [a.1 13 (by omega) (by omega) (by omega)]; exact q5 i i0 i1, fun s s0 s1 hs => ?_⟩
  rw [a.1 1 (by omega) (by omega) (by omega)] at hs
  have e : cndX h' g s = cndX h g s := by
    unfold cndX rwX lenX qdX
    rw [a.1 (100 + s.toNat) (by omega) (by omega) (by omega), a.1 (100 + s.toNat + 200) (by omega) (by omega) (by omega)]
  rw [e]
  exact mHas_eq (h := h) (by rw [a.1 60 (by omega) (by omega) (by omega)]) (by rw [a.2.2]) (a.1 62 (by omega) (by omega) (by omega)) (fun k k1 k2 => ⟨a.1 k (by omega) (by omega) (by omega), a.1 (k + 200) (by omega) (by omega) (by omega)⟩) (q6 s s0 s1 hs)
theorem sd_5 {h : AH} {g : Gm} {v : Int} (q : sd h g) : sd (hm h [(1, up (h.1 1) 5 v)] [] []) g := by
  obtain ⟨q1, q2, q3, q4, q5, q6⟩ := q
  refine ⟨q1, q2, q3, q4, q5, fun s s0 s1 hs => ?_⟩
  have e1 : ∀ k : Nat, k ≠ 1 → (hm h [(1, up (h.1 1) 5 v)] [] []).1 k = h.1 k := fun k k1 => by simp only [hm, alk, if_neg k1]
  have e : cndX (hm h [(1, up (h.1 1) 5 v)] [] []) g s = cndX h g s := by
    unfold cndX rwX lenX qdX
    rw [e1 (100 + s.toNat) (by omega), e1 (100 + s.toNat + 200) (by omega)]
  rw [e]
  have hs2 : up (h.1 1) 5 v 13 = s := hs
  rw [up_ne _ _ (by omega)] at hs2
  exact mHas_eq (h := h) rfl rfl rfl (fun k k1 k2 => ⟨e1 k (by omega), e1 (k + 200) (by omega)⟩) (q6 s s0 s1 hs2)
theorem sd_m1 {h h' : AH} {g : Gm} (q : sd h g) (e5 : h'.2.2 5 = h.2.2 5) (e6 : h'.2.2 6 = h.2.2 6) (e63 : h'.2.2 63 = h.2.2 63) (hp : mPer (h'.2.2 61)) (e13 : h'.1 13 = h.1 13) (hm : h'.1 1 13 = -1) : sd h' g := by
  obtain ⟨q1, q2, q3, q4, q5, q6⟩ := q
  exact ⟨fun s s0 s1 => by rw [e5]; exact q1 s s0 s1, fun k k0 k1 => by rw [e6]; exact q2 k k0 k1, hp, fun l l0 l1 => by rw [e63]; exact q4 l l0 l1, fun i i0 i1 => by rw [e13]; exact q5 i i0 i1, fun s s0 s1 hs => by omega⟩
set_option maxHeartbeats 2000000 in
set_option maxRecDepth 20000 in
theorem x_keep (h : AH) {gn : Nat} {g : Gm} (hCI : CI h gn g) {s t : Int} (hs : ir s) (ht : ir t) : AMet yX11_keep cX11_keep 6 (some .int) 5 138 [.ref 1, vI s, vI t] h (Qi (fun z h' => (z = -1 ∧ (s < 0 ∨ 7 < s ∨ t < 0 ∨ 7 < t) ∧ h' = h) ∨ (z = -2 ∧ (0 ≤ s ∧ s ≤ 7 ∧ 0 ≤ t ∧ t ≤ 7) ∧ (lenX h s = 0 ∨ lenX h t = 0) ∧ h' = h) ∨ (z = -3 ∧ (0 ≤ s ∧ s ≤ 7 ∧ 0 ≤ t ∧ t ≤ 7) ∧ lenX h s ≠ 0 ∧ lenX h t ≠ 0 ∧ h.1 1 5 = 12 ∧ h' = h) ∨ ((0 ≤ s ∧ s ≤ 7 ∧ 0 ≤ t ∧ t ≤ 7) ∧ lenX h s ≠ 0 ∧ lenX h t ≠ 0 ∧ h.1 1 5 ≠ 12 ∧ z = h.1 1 5 ∧ frK (80 + (h.1 1 5).toNat) h h' ∧ h'.1 1 5 = h.1 1 5 + 1 ∧ sd h' g ∧ kFld h' (80 + (h.1 1 5).toNat) g (lenX h s) (lenX h t) (rwX h s) (rwX h t)))) := by
  have hCI0 := hCI
  obtain ⟨hg, ⟨hLd, hTl⟩, hgx, hOk, hL0, hE0, hK0, hWs, hKb, hS, hKr, hPer, hTf, hV13, hCc⟩ := hCI
  have hgw := hOk.1
  have hgr := hOk.2.1
  obtain ⟨hs1, hs2⟩ := hs
  obtain ⟨ht1, ht2⟩ := ht
  refine AMet.of (by decide) (Nat.le_of_ble_eq_true rfl) (fun G hM => ?_)
  have hG := hM.cx
  refine A_hm0 (G := G) (L := [(0, .ref 1), (1, vI s), (2, vI t)]) ?_
  refine A_iload_n hG 1 dX11_keep_0 rfl rfl ?_
  refine C_Si (as := [vI s]) (st := []) hG dX11_keep_1 ml_X11_119 mf_X11_isSentence ms_X11_isSentence (x_isSentence (hm h [] [] []) (by constructor <;> omega)) (by decide) (by decide) rfl rfl (Nat.le_of_ble_eq_true rfl) (fun z1 g1 ri_1 hp_1 => ?_)
  obtain ⟨ra_1, rb_1⟩ := ri_1
  obtain ⟨hz1, rfl⟩ := hp_1
  refine A_if_eq hG 14 dX11_keep_4 (by decide) (by constructor <;> omega) (fun c_4 => ?_) (fun c_4 => ?_)
  ·
    refine A_iconst (n := -1) hG dX11_keep_14 ?_
    exact Ret_i hM dX11_keep_15 (by constructor <;> omega) (Or.inl ⟨rfl, by omega, rfl⟩)
  ·
    refine A_iload_n hG 2 dX11_keep_7 rfl rfl ?_
    refine C_Si (as := [vI t]) (st := []) hG dX11_keep_8 ml_X11_119 mf_X11_isSentence ms_X11_isSentence (x_isSentence (hm h [] [] []) (by constructor <;> omega)) (by decide) (by decide) rfl rfl (Nat.le_of_ble_eq_true rfl) (fun z8 g8 ri_8 hp_8 => ?_)
    obtain ⟨ra_8, rb_8⟩ := ri_8
    obtain ⟨hz8, rfl⟩ := hp_8
    refine A_if_ne hG 16 dX11_keep_11 (by decide) (by constructor <;> omega) (fun c_11 => ?_) (fun c_11 => ?_)
    ·
      obtain ⟨ru, hreu⟩ : ∃ r : Nat, r = 100 + (s).toNat := ⟨_, rfl⟩
      have hr0u : 100 ≤ ru ∧ ru < 108 := by omega
      have hru : 100 ≤ ru ∧ ru < 212 := by omega
      have hwru : rowX h ru (lenX h s) (rwX h s) := by rw [hreu]; exact rowX_s
      have hqru : h.1 ru 2 = qdX h s := by rw [hreu]; rfl
      have hWu := hWs s (by omega) (by omega)
      have hn8u := hWu.1
      obtain ⟨rt, hret⟩ : ∃ r : Nat, r = 100 + (t).toNat := ⟨_, rfl⟩
      have hr0t : 100 ≤ rt ∧ rt < 108 := by omega
      have hrt : 100 ≤ rt ∧ rt < 212 := by omega
      have hwrt : rowX h rt (lenX h t) (rwX h t) := by rw [hret]; exact rowX_s
      have hqrt : h.1 rt 2 = qdX h t := by rw [hret]; rfl
      have hWt := hWs t (by omega) (by omega)
      have hn8t := hWt.1
      refine A_aload_n hG 0 dX11_keep_16 rfl rfl ?_
      refine A_getR (r := 5) hG dX11_keep_17 fl_X11_28 (by decide) k1 (by decide) rfl ?_
      refine A_iload_n hG 1 dX11_keep_20 rfl rfl ?_
      refine M_aald (r := ru) hG dX11_keep_21 (Or.inl k5) n5 (by omega) ((hS s (by omega) (by omega)).trans hreu.symm) ?_
      refine A_astore_n (L' := [(3, .ref ru), (0, .ref 1), (1, vI s), (2, vI t)]) hG dX11_keep_22 rfl (by decide) rfl ?_
      refine A_aload_n hG 1 dX11_keep_23 rfl rfl ?_
      refine A_getR (r := 5) hG dX11_keep_24 fl_X11_28 (by decide) k1 (by decide) rfl ?_
      refine A_iload_n hG 3 dX11_keep_27 rfl rfl ?_
      refine M_aald (r := rt) hG dX11_keep_28 (Or.inl k5) n5 (by omega) ((hS t (by omega) (by omega)).trans hret.symm) ?_
      refine A_astore (L' := [(4, .ref rt), (3, .ref ru), (0, .ref 1), (1, vI s), (2, vI t)]) hG dX11_keep_29 (by decide) rfl ?_
      refine A_aload_n hG 1 dX11_keep_31 rfl rfl ?_
      refine M_getI (z := 1) (v := (lenX h s)) hG dX11_keep_32 fl_X11_123 (by decide) (obk_row hru) rfl rfl hwru.1 (fun ⟨ra_32, rb_32⟩ => ?_)
      refine A_if_eq hG 46 dX11_keep_35 (by decide) (by constructor <;> omega) (fun c_35 => ?_) (fun c_35 => ?_)
      ·
        refine A_bipush (n := -2) hG dX11_keep_46 (by decide) ?_
        exact Ret_i hM dX11_keep_48 (by constructor <;> omega) (Or.inr (Or.inl ⟨rfl, by omega, by omega, rfl⟩))
      ·
        refine A_aload hG 0 dX11_keep_38 rfl ?_
        refine M_getI (z := 1) (v := (lenX h t)) hG dX11_keep_40 fl_X11_123 (by decide) (obk_row hrt) rfl rfl hwrt.1 (fun ⟨ra_40, rb_40⟩ => ?_)
        refine A_if_ne hG 49 dX11_keep_43 (by decide) (by constructor <;> omega) (fun c_43 => ?_) (fun c_43 => ?_)
        ·
          refine A_aload_n hG 2 dX11_keep_49 rfl rfl ?_
          refine M_getI (z := 5) (v := h.1 1 5) hG dX11_keep_50 fl_X11_38 (by decide) k1 rfl rfl rfl (fun ⟨ra_50, rb_50⟩ => ?_)
          refine A_bipush (n := 12) hG dX11_keep_53 (by decide) ?_
          refine A_icmp_lt hG 61 dX11_keep_55 (by decide) (by constructor <;> omega) (by constructor <;> omega) (fun c_55 => ?_) (fun c_55 => ?_)
          ·
            obtain ⟨κ, hκe⟩ : ∃ κ : Nat, κ = 80 + ((h.1 1 5)).toNat := ⟨_, rfl⟩
            have hκ : 80 ≤ κ ∧ κ < 92 := by omega
            refine A_aload_n hG 2 dX11_keep_61 rfl rfl ?_
            refine A_getR (r := 6) hG dX11_keep_62 fl_X11_34 (by decide) k1 (by decide) rfl ?_
            refine A_aload_n hG 2 dX11_keep_65 rfl rfl ?_
            refine M_getI (z := 5) (v := h.1 1 5) hG dX11_keep_66 fl_X11_38 (by decide) k1 rfl rfl rfl (fun ⟨ra_66, rb_66⟩ => ?_)
            refine M_aald (r := κ) hG dX11_keep_69 (Or.inr k6) n6 (by omega) ((hKr (h.1 1 5) (by omega) (by omega)).trans hκe.symm) ?_
            refine A_astore (L' := [(5, .ref κ), (4, .ref rt), (3, .ref ru), (0, .ref 1), (1, vI s), (2, vI t)]) hG dX11_keep_70 (by decide) rfl ?_
            refine A_aload hG 0 dX11_keep_72 rfl ?_
            have a_2 : ∀ (ri : Int), ((ri = 1 ∧ kRt (lenX h s) (lenX h t) (rwX h s) (rwX h t)) ∨ (ri = 0 ∧ ¬ kRt (lenX h s) (lenX h t) (rwX h s) (rwX h t))) → G 88 [(0, .ref 1), (1, vI s), (2, vI t), (3, .ref ru), (4, .ref rt), (5, .ref κ)] [vI ri, .ref κ] (hm h [] [] []) := by
              intro ri hri
              have hri01 : ri = 0 ∨ ri = 1 := hri.elim (fun q => Or.inr q.1) (fun q => Or.inl q.1)
              refine M_putI (z := 0) (li' := [(κ, up (h.1 κ) 0 ri)]) hG dX11_keep_88 fl_X11_188 (by decide) (obk_kept hκ) nf_3_0 rfl rfl (by constructor <;> omega) (Or.inr ⟨rfl, by omega⟩) rfl ?_
              refine A_aload hG 5 dX11_keep_91 rfl ?_
              refine A_aload_n hG 0 dX11_keep_93 rfl rfl ?_
              refine A_aload_n hG 3 dX11_keep_94 rfl rfl ?_
              refine C_Vi (as := [.ref ru]) (st := [.ref κ]) (k := 1) (c := 10) hG dX11_keep_95 ml_X11_177 mf_X11_isRead mi_X11_isRead se_X11_isRead rfl (by decide) k1 (x_isRead (hm h [(κ, up (h.1 κ) 0 ri)] [] []) hg (g := g) ((gX_li hg (by simp; omega)).trans hgx) hLd hru hOk (n := (lenX h s)) (w := (rwX h s)) (rowX_eq (by simp (disch := omega) only [hm, alk, if_neg, if_pos, ite_true]) (by simp (disch := omega) only [hm, alk, if_neg, if_pos, ite_true]) hwru) hWu (by omega)) (by decide) (by decide) rfl rfl (Nat.le_of_ble_eq_true rfl) (fun z95 g95 ri_95 hp_95 => ?_)
              obtain ⟨ra_95, rb_95⟩ := ri_95
              have hq_95 : ∃ fx : Int → Int64, ((z95 = 1 ∧ READ g (hasb 0) (rwX h s) (lenX h s)) ∨ (z95 = 0 ∧ ¬ READ g (hasb 0) (rwX h s) (lenX h s))) ∧ g95 = hm (hm h [(κ, up (h.1 κ) 0 ri)] [] []) [] [(11, fx)] [] := hp_95
              clear hp_95
              obtain ⟨f95, hz95, rfl⟩ := hq_95
              refine A_hm (la := [(κ, up (h.1 κ) 0 ri)]) (lb := [(11, f95)]) (lc := []) rfl rfl rfl ?_
              refine M_putI (z := 1) (li' := [(κ, up (up (h.1 κ) 0 ri) 1 z95)]) hG dX11_keep_98 fl_X11_192 (by decide) (obk_kept hκ) nf_3_1 rfl rfl (by constructor <;> omega) (Or.inr ⟨rfl, by omega⟩) (by simp (disch := omega) only [amg, aset, alk, if_neg, if_pos, ite_true]) ?_
              refine A_aload hG 5 dX11_keep_101 rfl ?_
              refine A_bipush (n := -4) hG dX11_keep_103 (by decide) ?_
              refine M_putI (z := 2) (li' := [(κ, up (up (up (h.1 κ) 0 ri) 1 z95) 2 (-4))]) hG dX11_keep_105 fl_X11_195 (by decide) (obk_kept hκ) nf_3_2 rfl rfl (by constructor <;> omega) (Or.inl rfl) (by simp (disch := omega) only [amg, aset, alk, if_neg, if_pos, ite_true]) ?_
              refine A_aload hG 5 dX11_keep_108 rfl ?_
              refine A_iconst (n := 0) hG dX11_keep_110 ?_
              refine M_putI (z := 3) (li' := [(κ, up (up (up (up (h.1 κ) 0 ri) 1 z95) 2 (-4)) 3 0)]) hG dX11_keep_111 fl_X11_198 (by decide) (obk_kept hκ) nf_3_3 rfl rfl (by constructor <;> omega) (Or.inl rfl) (by simp (disch := omega) only [amg, aset, alk, if_neg, if_pos, ite_true]) ?_
              have b_4 : ∀ (h2 : AH), (frQ κ h h2) → (h2.1 κ 0 = ri ∧ h2.1 κ 1 = z95 ∧ h2.1 κ 2 = -4 ∧ (z95 = 0 → ri = 1 → ∀ q, 0 ≤ q → q < g 10 1 → (hasb (h2.1 κ 3) q ↔ READ g (hasb (ishl 1 q)) (rwX h s) (lenX h s)))) → G 151 [(0, .ref 1), (1, vI s), (2, vI t), (3, .ref ru), (4, .ref rt), (5, .ref κ)] [] (hm h2 [] [] []) := by
                intro h2 hQ hkf
                refine A_aload hG 5 dX11_keep_151 rfl ?_
                have c_5 : ∀ (h3 : AH), (frK κ h h3) → (h3.1 1 5 = h.1 1 5) → (sd h3 g) → (kFld h3 κ g (lenX h s) (lenX h t) (rwX h s) (rwX h t)) → G 203 [(0, .ref 1), (1, vI s), (2, vI t), (3, .ref ru), (4, .ref rt), (5, .ref κ)] [] (hm h3 [] [] []) := by
                  intro h3 hK h5 hsd hfl
                  refine A_aload_n hG 0 dX11_keep_203 rfl rfl ?_
                  refine A_dup hG dX11_keep_204 rfl ?_
                  refine M_getI (z := 5) (v := (h.1 1 5)) hG dX11_keep_205 fl_X11_38 (by decide) k1 rfl rfl h5 (fun ⟨ra_205, rb_205⟩ => ?_)
                  refine A_iconst (n := 1) hG dX11_keep_208 ?_
                  refine A_iadd hG dX11_keep_209 ?_
                  refine M_putI (z := 5) (li' := [(1, up (h3.1 1) 5 ((h.1 1 5) + 1))]) hG dX11_keep_210 fl_X11_38 (by decide) k1 nf_10_5 rfl rfl (by constructor <;> omega) (Or.inl rfl) rfl ?_
                  refine A_aload_n hG 0 dX11_keep_213 rfl rfl ?_
                  refine M_getI (z := 5) (v := (h.1 1 5 + 1)) hG dX11_keep_214 fl_X11_38 (by decide) k1 rfl rfl rfl (fun ⟨ra_214, rb_214⟩ => ?_)
                  refine A_iconst (n := 1) hG dX11_keep_217 ?_
                  refine A_isub hG dX11_keep_218 ?_
                  exact Ret_i hM dX11_keep_219 (by constructor <;> omega) (by
                      rw [← hκe]
                      refine Or.inr (Or.inr (Or.inr ⟨by omega, by omega, by omega, by omega, by omega, ⟨fun k k1 k2 => ?_, fun q q1 q2 => ?_, hK.2.2.1, hK.2.2.2⟩, rfl, ?_, ?_⟩))
                      · simp (disch := omega) only [hm, alk, if_neg]; exact hK.1 k k1 k2
                      · show up (h3.1 1) 5 (h.1 1 5 + 1) q = _
                        rw [up_ne _ _ q2]; exact hK.2.1 q q1 q2
                      · exact sd_5 hsd
                      · have e : (hm h3 [(1, up (h3.1 1) 5 (h.1 1 5 + 1))] [] []).1 κ = h3.1 κ := by simp (disch := omega) only [hm, alk, if_neg]
                        unfold kFld
                        rw [e]; exact hfl)
                refine M_getI (z := 1) (v := z95) hG dX11_keep_153 fl_X11_192 (by decide) (obk_kept hκ) rfl rfl hkf.2.1 (fun ⟨ra_153, rb_153⟩ => ?_)
                refine A_if_ne hG 203 dX11_keep_156 (by decide) (by constructor <;> omega) (fun c_156 => ?_) (fun c_156 => ?_)
                ·
                  refine A_sub hG [0, 1, 2, 3, 4, 5] rfl ?_
                  exact c_5 h2 (frQ_K hκ hQ) (by rw [hQ.1 1 (by omega) (by omega) (by omega)]) (frQ_sd hκ hQ hCI0.2.2.2.2.2.2.2.2.2) (⟨by rw [hkf.1]; exact hri, by rw [hkf.2.1]; exact hz95, fun q1 q2 => absurd (hz95.elim (fun q => q.2) (fun q => absurd q.1 c_156)) q1, fun q1 q2 => hkf.2.2.2 (hz95.elim (fun q => absurd q.2 q1) (fun q => q.1)) (hri.elim (fun q => q.1) (fun q => absurd q2 q.2))⟩)
                ·
                  refine A_aload hG 5 dX11_keep_159 rfl ?_
                  refine M_getI (z := 0) (v := ri) hG dX11_keep_161 fl_X11_188 (by decide) (obk_kept hκ) rfl rfl hkf.1 (fun ⟨ra_161, rb_161⟩ => ?_)
                  refine A_if_ne hG 203 dX11_keep_164 (by decide) (by constructor <;> omega) (fun c_164 => ?_) (fun c_164 => ?_)
                  ·
                    refine A_sub hG [0, 1, 2, 3, 4, 5] rfl ?_
                    exact c_5 h2 (frQ_K hκ hQ) (by rw [hQ.1 1 (by omega) (by omega) (by omega)]) (frQ_sd hκ hQ hCI0.2.2.2.2.2.2.2.2.2) (⟨by rw [hkf.1]; exact hri, by rw [hkf.2.1]; exact hz95, fun q1 q2 => absurd (hri.elim (fun q => q.2) (fun q => absurd q.1 c_164)) q2, fun q1 q2 => hkf.2.2.2 (hz95.elim (fun q => absurd q.2 q1) (fun q => q.1)) (hri.elim (fun q => q.1) (fun q => absurd q2 q.2))⟩)
                  ·
                    refine A_aload_n hG 0 dX11_keep_167 rfl rfl ?_
                    refine A_iconst (n := -1) hG dX11_keep_168 ?_
                    refine M_putI (z := 13) (li' := [(1, up (h2.1 1) 13 (-1))]) hG dX11_keep_169 fl_X11_88 (by decide) k1 nf_10_13 rfl rfl (by constructor <;> omega) (Or.inl rfl) rfl ?_
                    refine A_aload_n hG 0 dX11_keep_172 rfl rfl ?_
                    refine A_getR (r := 60) hG dX11_keep_173 fl_X11_84 (by decide) k1 (by decide) rfl ?_
                    refine A_aload_n hG 0 dX11_keep_176 rfl rfl ?_
                    refine A_getR (r := gn) hG dX11_keep_177 fl_X11_19 (by decide) k1 (by decide) ((congrFun (congrFun hQ.2.2 1) 1).trans hLd) ?_
                    refine A_aload_n hG 3 dX11_keep_180 rfl rfl ?_
                    refine A_iconst (n := 0) hG dX11_keep_181 ?_
                    refine A_aload_n hG 0 dX11_keep_182 rfl rfl ?_
                    refine A_getR (r := 14) hG dX11_keep_183 fl_X11_70 (by decide) k1 (by decide) rfl ?_
                    refine C_Vv (as := [.ref gn, .ref ru, vI 0, .ref 14]) (st := []) (k := 60) (c := 5) hG dX11_keep_186 ml_X11_204 mf_X5_find mi_X5_find se_X5_find rfl (by decide) k60 (x_find (hm h2 [(1, up (h2.1 1) 13 (-1))] [] []) hg (g := g) ((gX_li hg rfl).trans ((gX_eq (fun k k1 k2 => hQ.1 k (by omega) (by omega) (by omega))).trans hgx)) hOk hr0u (n := (lenX h s)) (qd := 0) (w := (rwX h s)) (rowX_eq ((show (hm h2 [(1, up (h2.1 1) 13 (-1))] [] []).1 ru = h2.1 ru from (by simp (disch := omega) only [hm, alk, if_neg, if_pos, ite_true])).trans (hQ.1 ru (by omega) (by omega) (by omega))) ((show (hm h2 [(1, up (h2.1 1) 13 (-1))] [] []).1 (ru + 200) = h2.1 (ru + 200) from (by simp (disch := omega) only [hm, alk, if_neg, if_pos, ite_true])).trans (hQ.1 (ru + 200) (by omega) (by omega) (by omega))) hwru) hWu (by omega) (by show mPer (h2.2.2 61); rw [hQ.2.2]; exact hPer) (by show tRf h2; unfold tRf; rw [hQ.2.2]; exact hTf)) (by decide) (by decide) rfl rfl (Nat.le_of_ble_eq_true rfl) (fun g186 hp_186 => ?_)
                    have hq_186 : frM (hm h2 [(1, up (h2.1 1) 13 (-1))] [] []) g186 ∧ mHas g186 g (cnd g (rwX h s) (lenX h s) (hasb 0) (fun _ _ _ => True)) := hp_186
                    clear hp_186
                    obtain ⟨hF186, hH186⟩ := hq_186
                    refine A_hm0 ?_
                    obtain ⟨many, ms, hC, hX⟩ := hH186
                    have hA : ∀ k : Nat, k ≠ κ → k ≠ 1 → k ≠ 17 → k ≠ 18 → k ≠ 60 → k ≠ 62 → k ≠ 64 → ¬ (108 ≤ k ∧ k < 212) → ¬ (308 ≤ k ∧ k < 412) → g186.1 k = h.1 k := fun k k1 k2 k3 k4 k5 k6 k7 k8 k9 => (hF186.1 k k5 k6 k7 k8 k9).trans ((show (hm h2 [(1, up (h2.1 1) 13 (-1))] [] []).1 k = h2.1 k by simp only [hm, alk, if_neg k2]).trans (hQ.1 k k1 k3 k4))
                    have hB : g186.1 κ = h2.1 κ := (hF186.1 κ (by omega) (by omega) (by omega) (by omega) (by omega)).trans (show (hm h2 [(1, up (h2.1 1) 13 (-1))] [] []).1 κ = h2.1 κ by simp (disch := omega) only [hm, alk, if_neg])
                    have hD : g186.1 1 = up (h.1 1) 13 (-1) := (hF186.1 1 (by omega) (by omega) (by omega) (by omega) (by omega)).trans (by rw [← hQ.1 1 (by omega) (by omega) (by omega)]; rfl)
                    have hE : ∀ k : Nat, k ≠ 61 → g186.2.2 k = h.2.2 k := fun k k1 => (hF186.2.2 k k1).trans (by rw [← hQ.2.2]; rfl)
                    have hwt : rowX g186 rt (lenX h t) (rwX h t) := rowX_eq (hA rt (by omega) (by omega) (by omega) (by omega) (by omega) (by omega) (by omega) (by omega) (by omega)) (hA (rt + 200) (by omega) (by omega) (by omega) (by omega) (by omega) (by omega) (by omega) (by omega) (by omega)) hwrt
                    refine A_aload hG 5 dX11_keep_189 rfl ?_
                    refine A_aload_n hG 0 dX11_keep_191 rfl rfl ?_
                    refine A_getR (r := 60) hG dX11_keep_192 fl_X11_84 (by decide) k1 (by decide) rfl ?_
                    refine A_aload hG 4 dX11_keep_195 rfl ?_
                    refine C_Vi (as := [.ref rt]) (st := [.ref κ]) (k := 60) (c := 5) hG dX11_keep_197 ml_X11_208 mf_X5_placeOf mi_X5_placeOf se_X5_placeOf rfl (by decide) k60 (x_placeOf (hm g186 [] [] []) (g := g) hOk (many := many) (n := (lenX h t)) (ms := ms) (w := (rwX h t)) hX hC hrt hwt hWt) (by decide) (by decide) rfl rfl (Nat.le_of_ble_eq_true rfl) (fun z197 g197 ri_197 hp_197 => ?_)
                    obtain ⟨ra_197, rb_197⟩ := ri_197
                    obtain ⟨hz197, rfl⟩ := hp_197
                    have hK3 : frK κ h (hm g186 [(κ, up (g186.1 κ) 2 z197)] [] []) := ⟨fun k k1 k2 => by
                        simp only [hm, alk, if_neg k1]
                        exact hA k k1 (by omega) (by omega) (by omega) (by omega) (by omega) (by omega) (by omega) (by omega), fun q q1 q2 => by
                        have e : (hm g186 [(κ, up (g186.1 κ) 2 z197)] [] []).1 1 = g186.1 1 := by simp (disch := omega) only [hm, alk, if_neg]
                        rw [e, hD, up_ne _ _ q1], fun k k1 => (hF186.2.1 k (by omega) (by omega)).trans (hQ.2.1 k (by omega) (by omega) (by omega)), hE⟩
                    have e31 : (hm g186 [(κ, up (g186.1 κ) 2 z197)] [] []).1 1 = up (h.1 1) 13 (-1) := (show (hm g186 [(κ, up (g186.1 κ) 2 z197)] [] []).1 1 = g186.1 1 by simp (disch := omega) only [hm, alk, if_neg]).trans hD
                    have h53 : (hm g186 [(κ, up (g186.1 κ) 2 z197)] [] []).1 1 5 = h.1 1 5 := by rw [e31]; rfl
                    have hsd3 : sd (hm g186 [(κ, up (g186.1 κ) 2 z197)] [] []) g := sd_m1 hCI0.2.2.2.2.2.2.2.2.2 (hE 5 (by omega)) (hE 6 (by omega)) (hE 63 (by omega)) hX.2.1 ((show (hm g186 [(κ, up (g186.1 κ) 2 z197)] [] []).1 13 = g186.1 13 by simp (disch := omega) only [hm, alk, if_neg]).trans (hA 13 (by omega) (by omega) (by omega) (by omega) (by omega) (by omega) (by omega) (by omega) (by omega))) (by rw [e31]; rfl)
                    have e3k : (hm g186 [(κ, up (g186.1 κ) 2 z197)] [] []).1 κ = up (h2.1 κ) 2 z197 := by rw [← hB]; simp only [hm, alk, ite_true]
                    have hfl3 : kFld (hm g186 [(κ, up (g186.1 κ) 2 z197)] [] []) κ g (lenX h s) (lenX h t) (rwX h s) (rwX h t) := by
                        unfold kFld
                        rw [e3k]
                        refine ⟨by rw [up_ne _ _ (by omega), hkf.1]; exact hri, by rw [up_ne _ _ (by omega), hkf.2.1]; exact hz95, fun _ _ => by rw [up_eq]; exact hz197, fun q1 q2 => ?_⟩
                        rw [up_ne _ _ (by omega)]
                        exact hkf.2.2.2 (hz95.elim (fun q => absurd q.2 q1) (fun q => q.1)) (hri.elim (fun q => q.1) (fun q => absurd q2 q.2))
                    refine M_putI (z := 2) (li' := [(κ, up (g186.1 κ) 2 z197)]) hG dX11_keep_200 fl_X11_195 (by decide) (obk_kept hκ) nf_3_2 rfl rfl (by constructor <;> omega) (Or.inl rfl) rfl ?_
                    refine A_sub hG [0, 1, 2, 3, 4, 5] rfl ?_
                    exact c_5 (hm g186 [(κ, up (g186.1 κ) 2 z197)] [] []) hK3 h53 hsd3 hfl3
              refine A_aload hG 5 dX11_keep_114 rfl ?_
              refine M_getI (z := 1) (v := z95) hG dX11_keep_116 fl_X11_192 (by decide) (obk_kept hκ) rfl rfl ((congrFun (show alk [(κ, up (up (up (up (h.1 κ) 0 ri) 1 z95) 2 (-4)) 3 0)] κ (h.1 κ) = up (up (up (up (h.1 κ) 0 ri) 1 z95) 2 (-4)) 3 0 from (by simp (disch := omega) only [alk, if_neg, if_pos, ite_true])) 1).trans ((up_ne (up (up (up (h.1 κ) 0 ri) 1 z95) 2 (-4)) (z := 3) (j := 1) 0 (by decide)).trans ((up_ne (up (up (h.1 κ) 0 ri) 1 z95) (z := 2) (j := 1) (-4) (by decide)).trans (up_eq (up (h.1 κ) 0 ri) 1 z95)))) (fun ⟨ra_116, rb_116⟩ => ?_)
              refine A_if_ne hG 151 dX11_keep_119 (by decide) (by constructor <;> omega) (fun c_119 => ?_) (fun c_119 => ?_)
              ·
                refine A_sub hG [0, 1, 2, 3, 4, 5] rfl ?_
                exact b_4 (hm h [(κ, up (up (up (up (h.1 κ) 0 ri) 1 z95) 2 (-4)) 3 0)] [(11, f95)] []) (⟨fun k k1 k2 k3 => by simp (disch := omega) only [hm, alk, if_neg], fun k k1 k2 k3 => by simp (disch := omega) only [hm, alk, if_neg], rfl⟩) (⟨(by simp (disch := omega) only [hm, alk, if_neg, ite_true]; rfl), (by simp (disch := omega) only [hm, alk, if_neg, ite_true]; rfl), (by simp (disch := omega) only [hm, alk, if_neg, ite_true]; rfl), fun q1 q2 => by omega⟩)
              ·
                refine A_aload hG 5 dX11_keep_122 rfl ?_
                refine M_getI (z := 0) (v := ri) hG dX11_keep_124 fl_X11_188 (by decide) (obk_kept hκ) rfl rfl ((congrFun (show alk [(κ, up (up (up (up (h.1 κ) 0 ri) 1 z95) 2 (-4)) 3 0)] κ (h.1 κ) = up (up (up (up (h.1 κ) 0 ri) 1 z95) 2 (-4)) 3 0 from (by simp (disch := omega) only [alk, if_neg, if_pos, ite_true])) 0).trans ((up_ne (up (up (up (h.1 κ) 0 ri) 1 z95) 2 (-4)) (z := 3) (j := 0) 0 (by decide)).trans ((up_ne (up (up (h.1 κ) 0 ri) 1 z95) (z := 2) (j := 0) (-4) (by decide)).trans ((up_ne (up (h.1 κ) 0 ri) (z := 1) (j := 0) z95 (by decide)).trans (up_eq (h.1 κ) 0 ri))))) (fun ⟨ra_124, rb_124⟩ => ?_)
                refine A_if_eq hG 151 dX11_keep_127 (by decide) (by constructor <;> omega) (fun c_127 => ?_) (fun c_127 => ?_)
                ·
                  refine A_sub hG [0, 1, 2, 3, 4, 5] rfl ?_
                  exact b_4 (hm h [(κ, up (up (up (up (h.1 κ) 0 ri) 1 z95) 2 (-4)) 3 0)] [(11, f95)] []) (⟨fun k k1 k2 k3 => by simp (disch := omega) only [hm, alk, if_neg], fun k k1 k2 k3 => by simp (disch := omega) only [hm, alk, if_neg], rfl⟩) (⟨(by simp (disch := omega) only [hm, alk, if_neg, ite_true]; rfl), (by simp (disch := omega) only [hm, alk, if_neg, ite_true]; rfl), (by simp (disch := omega) only [hm, alk, if_neg, ite_true]; rfl), fun q1 q2 => by omega⟩)
                ·
                  refine A_aload hG 5 dX11_keep_130 rfl ?_
                  refine A_aload_n hG 0 dX11_keep_132 rfl rfl ?_
                  refine A_getR (r := 17) hG dX11_keep_133 fl_X11_77 (by decide) k1 (by decide) rfl ?_
                  refine A_aload_n hG 0 dX11_keep_136 rfl rfl ?_
                  refine A_getR (r := gn) hG dX11_keep_137 fl_X11_19 (by decide) k1 (by decide) hLd ?_
                  refine A_aload_n hG 3 dX11_keep_140 rfl rfl ?_
                  refine A_aload_n hG 0 dX11_keep_141 rfl rfl ?_
                  refine A_getR (r := 14) hG dX11_keep_142 fl_X11_70 (by decide) k1 (by decide) rfl ?_
                  refine C_Vi (as := [.ref gn, .ref ru, .ref 14]) (st := [.ref κ]) (k := 17) (c := 0) hG dX11_keep_145 ml_X11_201 mf_X0_singleRules mi_X0_singleRules se_X0_singleRules rfl (by decide) k17 (x_singleRules (hm h [(κ, up (up (up (up (h.1 κ) 0 ri) 1 z95) 2 (-4)) 3 0)] [(11, f95)] []) hg (g := g) ((gX_li hg (by simp; omega)).trans hgx) hru hOk (n := (lenX h s)) (w := (rwX h s)) (rowX_eq (by simp (disch := omega) only [hm, alk, if_neg, if_pos, ite_true]) (by simp (disch := omega) only [hm, alk, if_neg, if_pos, ite_true]) hwru) hWu (by omega)) (by decide) (by decide) rfl rfl (Nat.le_of_ble_eq_true rfl) (fun z145 g145 ri_145 hp_145 => ?_)
                  obtain ⟨ra_145, rb_145⟩ := ri_145
                  have hq_145 : ∃ (ex sx : Int → Int) (fx fy : Int → Int64), (∀ q, 0 ≤ q → q < g 10 1 → (hasb (z145) q ↔ READ g (hasb (ishl 1 q)) (rwX h s) (lenX h s))) ∧ g145 = hm (hm h [(κ, up (up (up (up (h.1 κ) 0 ri) 1 z95) 2 (-4)) 3 0)] [(11, f95)] []) [(17, ex), (18, sx)] [(15, fx), (16, fy)] [] := hp_145
                  clear hp_145
                  obtain ⟨e145, s145, f145, y145, hz145, rfl⟩ := hq_145
                  refine A_hm (la := [(κ, up (up (up (up (h.1 κ) 0 ri) 1 z95) 2 (-4)) 3 0), (18, s145), (17, e145)]) (lb := [(11, f95), (16, y145), (15, f145)]) (lc := []) (by simp (disch := omega) only [amg, aset, alk, if_neg, if_pos, ite_true]) rfl rfl ?_
                  refine M_putI (z := 3) (li' := [(κ, up (up (up (up (up (h.1 κ) 0 ri) 1 z95) 2 (-4)) 3 0) 3 z145), (18, s145), (17, e145)]) hG dX11_keep_148 fl_X11_198 (by decide) (obk_kept hκ) nf_3_3 rfl rfl (by constructor <;> omega) (Or.inl rfl) (by simp (disch := omega) only [amg, aset, alk, if_neg, if_pos, ite_true]) ?_
                  refine A_sub hG [0, 1, 2, 3, 4, 5] rfl ?_
                  exact b_4 (hm h [(κ, up (up (up (up (up (h.1 κ) 0 ri) 1 z95) 2 (-4)) 3 0) 3 z145), (18, s145), (17, e145)] [(11, f95), (16, y145), (15, f145)] []) (⟨fun k k1 k2 k3 => by simp (disch := omega) only [hm, alk, if_neg], fun k k1 k2 k3 => by simp (disch := omega) only [hm, alk, if_neg], rfl⟩) (⟨(by simp (disch := omega) only [hm, alk, if_neg, ite_true]; rfl), (by simp (disch := omega) only [hm, alk, if_neg, ite_true]; rfl), (by simp (disch := omega) only [hm, alk, if_neg, ite_true]; rfl), fun _ _ => by
                      have e3 : (hm h [(κ, up (up (up (up (up (h.1 κ) 0 ri) 1 z95) 2 (-4)) 3 0) 3 z145), (18, s145), (17, e145)] [(11, f95), (16, y145), (15, f145)] []).1 κ 3 = z145 := by simp (disch := omega) only [hm, alk, if_neg, ite_true]; rfl
                      rw [e3]; exact hz145⟩)
            refine A_aload_n hG 2 dX11_keep_74 rfl rfl ?_
            refine A_aload hG 1 dX11_keep_75 rfl ?_
            refine C_Vi (as := [.ref rt]) (st := [.ref κ]) (k := ru) (c := 7) hG dX11_keep_77 ml_X11_184 mf_X7_orderTo mi_X7_orderTo se_X7_orderTo rfl (by decide) (obk_row hru) (x_orderTo (hm h [] [] []) hru hrt (n := (lenX h s)) (n' := (lenX h t)) (w := (rwX h s)) (w' := (rwX h t)) hwru hwrt hn8u hn8t (fun i i0 i1 => by have := hWu.2 i i0 i1; omega) (fun i i0 i1 => by have := hWt.2 i i0 i1; omega)) (by decide) (by decide) rfl rfl (Nat.le_of_ble_eq_true rfl) (fun z77 g77 ri_77 hp_77 => ?_)
            obtain ⟨ra_77, rb_77⟩ := ri_77
            obtain ⟨hz77, rfl⟩ := hp_77
            refine A_if_ne hG 87 dX11_keep_80 (by decide) (by constructor <;> omega) (fun c_80 => ?_) (fun c_80 => ?_)
            ·
              refine A_iconst (n := 0) hG dX11_keep_87 ?_
              refine A_sub hG [3, 4, 5, 2, 1, 0] rfl ?_
              exact a_2 0 (Or.inr ⟨rfl, by
                  rcases hz77 with ⟨q1, q2⟩ | ⟨q1, q2⟩ | ⟨q1, q2⟩
                  · omega
                  · exact fun q => rlt_ne q2 ⟨q.1, fun i i0 i1 => q.2 i i0 (by have := q.1; omega)⟩
                  · exact fun q => rlt_ne q2 ⟨q.1.symm, fun i i0 i1 => (q.2 i i0 i1).symm⟩⟩)
            ·
              refine A_iconst (n := 1) hG dX11_keep_83 ?_
              refine A_goto hG 88 dX11_keep_84 (by decide) ?_
              refine A_sub hG [3, 4, 5, 2, 1, 0] rfl ?_
              exact a_2 1 (Or.inl ⟨rfl, by
                  rcases hz77 with ⟨q1, q2, q3⟩ | ⟨q1, q2⟩ | ⟨q1, q2⟩
                  · exact ⟨q2, q3⟩
                  · omega
                  · omega⟩)
          ·
            refine A_bipush (n := -3) hG dX11_keep_58 (by decide) ?_
            exact Ret_i hM dX11_keep_60 (by constructor <;> omega) (Or.inr (Or.inr (Or.inl ⟨rfl, by omega, by omega, by omega, by omega, rfl⟩)))
        ·
          refine A_bipush (n := -2) hG dX11_keep_46 (by decide) ?_
          exact Ret_i hM dX11_keep_48 (by constructor <;> omega) (Or.inr (Or.inl ⟨rfl, by omega, by omega, rfl⟩))
    ·
      refine A_iconst (n := -1) hG dX11_keep_14 ?_
      exact Ret_i hM dX11_keep_15 (by constructor <;> omega) (Or.inl ⟨rfl, by omega, rfl⟩)

end
