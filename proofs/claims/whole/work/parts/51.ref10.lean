/-! the reference: figures (printed by gen) -/
section
set_option maxHeartbeats 2000000 in
set_option maxRecDepth 20000 in
theorem r_figures (h : AH) {p : Int} {m : Nat} (hm5 : 1 ≤ m ∧ m ≤ 5) (hlen : 0 ≤ h.1 500 0 ∧ h.1 500 0 ≤ 400) (hp : 0 ≤ p ∧ p ≤ h.1 500 0) (hat : h.1 500 15 = p) : AMet yX12_figures cX12_figures 5 (some .boolean) 1 25 [.ref 500, vI (m : Int)] h (Qi (fun z h' => ∃ nm e : Int → Int, ((∀ q, q ≠ 15 → e q = h.1 500 q) ∧ ((z = 1 ∧ okS (h.1 502) (h.1 500 0) p m ∧ e 15 = np (h.1 502) (h.1 500 0) p m ∧ ∀ i : Nat, i < m → nm (i : Int) = nv (h.1 502) (h.1 500 0) (np (h.1 502) (h.1 500 0) p i)) ∨ (z = 0 ∧ ¬ okS (h.1 502) (h.1 500 0) p m))) ∧ h' = hm h [(517, nm), (500, e)] [] [])) := by
  refine AMet.of (by decide) (Nat.le_of_ble_eq_true rfl) (fun G hM => ?_)
  have hG := hM.cx
  refine A_hm0 (G := G) (L := [(0, .ref 500), (1, vI (m : Int))]) ?_
  refine A_iconst (n := 0) hG dX12_figures_0 ?_
  refine A_istore_n (L' := [(2, vI 0), (0, .ref 500), (1, vI (m : Int))]) hG dX12_figures_1 rfl (by decide) rfl ?_
  refine A_insI 517 (li' := [(517, h.1 517)]) rfl ?_
  refine A_insI 500 (li' := [(517, h.1 517), (500, h.1 500)]) rfl ?_
  have k_0 : ∀ fu : Nat, ∀ (k : Nat) (nm : Int → Int) (e : Int → Int), (k ≤ m) → (np (h.1 502) (h.1 500 0) p k ≤ h.1 500 0) → ((e 15 = np (h.1 502) (h.1 500 0) p k) ∧ ∀ q, q ≠ 15 → e q = h.1 500 q) → (∀ i : Nat, i < k → okN (h.1 502) (h.1 500 0) (np (h.1 502) (h.1 500 0) p i) (if i + 1 < m then 44 else 59)) → (∀ i : Nat, i < k → nm (i : Int) = nv (h.1 502) (h.1 500 0) (np (h.1 502) (h.1 500 0) p i)) → (m - k) < fu → G 2 [(0, .ref 500), (1, vI (m : Int)), (2, vI (k : Int))] [] (hm h [(517, nm), (500, e)] [] []) := by
    intro fu
    induction fu with
    | zero => intro k nm e hk hkl he hok hnm hfu; exact absurd hfu (Nat.not_lt_zero _)
    | succ fu ih_k =>
      intro k nm e hk hkl he hok hnm hfu
      have he0 := he.2 0 (by decide)
      have hpb := np_lt (h.1 502) (h.1 500 0) p k
      refine A_iload_n hG 2 dX12_figures_2 rfl rfl ?_
      refine A_iload_n hG 1 dX12_figures_3 rfl rfl ?_
      refine A_icmp_ge hG 161 dX12_figures_4 (by decide) (by constructor <;> omega) (by constructor <;> omega) (fun c_4 => ?_) (fun c_4 => ?_)
      ·
        refine A_iconst (n := 1) hG dX12_figures_161 ?_
        exact Ret_z hM dX12_figures_162 (by omega) (⟨nm, e, ⟨he.2, Or.inl ⟨rfl, fun i hi => hok i (by omega), by rw [he.1, show k = m by omega], fun i hi => hnm i (by omega)⟩⟩, rfl⟩)
      ·
        refine A_iconst (n := 0) hG dX12_figures_7 ?_
        refine A_istore_n (L' := [(3, vI 0), (0, .ref 500), (1, vI (m : Int)), (2, vI (k : Int))]) hG dX12_figures_8 rfl (by decide) rfl ?_
        refine A_iconst (n := 0) hG dX12_figures_9 ?_
        refine A_istore (L' := [(4, vI 0), (3, vI 0), (0, .ref 500), (1, vI (m : Int)), (2, vI (k : Int))]) hG dX12_figures_10 (by decide) rfl ?_
        have d_1 : ∀ fu : Nat, ∀ (n : Int) (v : Int) (e : Int → Int), (0 ≤ n ∧ n ≤ 3) → (np (h.1 502) (h.1 500 0) p k + n ≤ h.1 500 0) → ((e 15 = np (h.1 502) (h.1 500 0) p k + n) ∧ ∀ q, q ≠ 15 → e q = h.1 500 q) → (∀ j, 0 ≤ j → j < n → np (h.1 502) (h.1 500 0) p k + j < (h.1 500 0) ∧ 48 ≤ h.1 502 (np (h.1 502) (h.1 500 0) p k + j) ∧ h.1 502 (np (h.1 502) (h.1 500 0) p k + j) ≤ 57) → ((n = 0 → v = 0) ∧ (n = 1 → v = h.1 502 (np (h.1 502) (h.1 500 0) p k) - 48) ∧ (n = 2 → v = 10 * (h.1 502 (np (h.1 502) (h.1 500 0) p k) - 48) + (h.1 502 (np (h.1 502) (h.1 500 0) p k + 1) - 48)) ∧ 0 ≤ v ∧ v ≤ 999) → ((3 - n).toNat) < fu → G 12 [(0, .ref 500), (1, vI (m : Int)), (2, vI (k : Int)), (3, vI n), (4, vI v)] [] (hm h [(517, nm), (500, e)] [] []) := by
          intro fu
          induction fu with
          | zero => intro n v e hn hnl he hdg hv hfu; exact absurd hfu (Nat.not_lt_zero _)
          | succ fu ih_d =>
            intro n v e hn hnl he hdg hv hfu
            have he0 := he.2 0 (by decide)
            refine A_aload_n hG 0 dX12_figures_12 rfl rfl ?_
            refine M_getI (z := 15) (v := e 15) hG dX12_figures_13 fl_X12_90 (by decide) k500 rfl rfl rfl (fun ⟨ra_13, rb_13⟩ => ?_)
            have x_2 : (n = 3 ∨ ¬ (np (h.1 502) (h.1 500 0) p k + n < (h.1 500 0) ∧ 48 ≤ h.1 502 (np (h.1 502) (h.1 500 0) p k + n) ∧ h.1 502 (np (h.1 502) (h.1 500 0) p k + n) ≤ 57)) → G 86 [(0, .ref 500), (1, vI (m : Int)), (2, vI (k : Int)), (3, vI n), (4, vI v)] [] (hm h [(517, nm), (500, e)] [] []) := by
              intro  hst
              have hI : ∀ s : Int, s = 44 ∨ s = 59 → _ := fun s hs => num_iff (t := (h.1 502)) (L := (h.1 500 0)) (P0 := np (h.1 502) (h.1 500 0) p k) (s := s) hn hdg hst hs
              refine A_iload_n hG 3 dX12_figures_86 rfl rfl ?_
              refine A_i2l hG dX12_figures_87 ?_
              refine A_lconst (v := i2l 1) hG dX12_figures_88 (by decide) ?_
              refine A_ldc2 (v := i2l 2) hG dX12_figures_89 (by rw [show i2l 2 = (2 : Int64) by decide]; exact kl_X12_97) ?_
              refine C_Si (as := [.long (i2l n), .long (i2l 1), .long (i2l 2)]) (st := []) hG dX12_figures_92 ml_X12_80 mf_X12_in ms_X12_in (r_in (hm h [(517, nm), (500, e)] [] []) (by constructor <;> omega) (by constructor <;> omega) (by constructor <;> omega)) (by decide) (by decide) rfl rfl (Nat.le_of_ble_eq_true rfl) (fun z92 g92 ri_92 hp_92 => ?_)
              obtain ⟨ra_92, rb_92⟩ := ri_92
              obtain ⟨hz92, rfl⟩ := hp_92
              refine A_if_eq hG 135 dX12_figures_95 (by decide) (by constructor <;> omega) (fun c_95 => ?_) (fun c_95 => ?_)
              ·
                refine A_iconst (n := 0) hG dX12_figures_135 ?_
                exact Ret_z hM dX12_figures_136 (by omega) (⟨nm, e, ⟨he.2, Or.inr ⟨rfl, fun hall => by have hq := hall k (by omega); first | (rw [hsp, hI _ (by omega), ← he.1] at hq; omega) | (rw [hI _ (by split <;> omega)] at hq; omega)⟩⟩, rfl⟩)
              ·
                refine A_aload_n hG 0 dX12_figures_98 rfl rfl ?_
                refine M_getI (z := 15) (v := e 15) hG dX12_figures_99 fl_X12_90 (by decide) k500 rfl rfl rfl (fun ⟨ra_99, rb_99⟩ => ?_)
                refine A_aload_n hG 0 dX12_figures_102 rfl rfl ?_
                refine M_getI (z := 0) (v := e 0) hG dX12_figures_103 fl_X12_84 (by decide) k500 rfl rfl rfl (fun ⟨ra_103, rb_103⟩ => ?_)
                refine A_icmp_eq hG 135 dX12_figures_106 (by decide) (by constructor <;> omega) (by constructor <;> omega) (fun c_106 => ?_) (fun c_106 => ?_)
                ·
                  refine A_iconst (n := 0) hG dX12_figures_135 ?_
                  exact Ret_z hM dX12_figures_136 (by omega) (⟨nm, e, ⟨he.2, Or.inr ⟨rfl, fun hall => by have hq := hall k (by omega); first | (rw [hsp, hI _ (by omega), ← he.1] at hq; omega) | (rw [hI _ (by split <;> omega)] at hq; omega)⟩⟩, rfl⟩)
                ·
                  refine A_aload_n hG 0 dX12_figures_109 rfl rfl ?_
                  refine A_getR (r := 502) hG dX12_figures_110 fl_X12_7 (by decide) k500 (by decide) rfl ?_
                  refine A_aload_n hG 0 dX12_figures_113 rfl rfl ?_
                  refine M_getI (z := 15) (v := e 15) hG dX12_figures_114 fl_X12_90 (by decide) k500 rfl rfl rfl (fun ⟨ra_114, rb_114⟩ => ?_)
                  refine M_iald (v := h.1 502 (e 15)) hG dX12_figures_117 k502 n502 (by omega) rfl (fun ⟨ra_117, rb_117⟩ => ?_)
                  refine A_iload_n hG 2 dX12_figures_118 rfl rfl ?_
                  refine A_iload_n hG 1 dX12_figures_119 rfl rfl ?_
                  refine A_iconst (n := 1) hG dX12_figures_120 ?_
                  refine A_isub hG dX12_figures_121 ?_
                  refine A_icmp_ge hG 130 dX12_figures_122 (by decide) (by constructor <;> omega) (by constructor <;> omega) (fun c_122 => ?_) (fun c_122 => ?_)
                  ·
                    refine A_bipush (n := 59) hG dX12_figures_130 (by decide) ?_
                    have hsp : (if k + 1 < m then (44 : Int) else 59) = 59 := if_neg (by omega)
                    refine A_icmp_eq hG 137 dX12_figures_132 (by decide) (by constructor <;> omega) (by constructor <;> omega) (fun c_132 => ?_) (fun c_132 => ?_)
                    ·
                      have hvv := num_val (L := (h.1 500 0)) (v := v) (by omega) hdg hst ⟨hv.2.1, hv.2.2.1⟩
                      have hokk : okN (h.1 502) (h.1 500 0) (np (h.1 502) (h.1 500 0) p k) (if k + 1 < m then 44 else 59) := by rw [hsp]; exact (hI _ (by omega)).mpr ⟨by omega, by omega, by rw [← he.1]; omega⟩
                      refine A_aload_n hG 0 dX12_figures_137 rfl rfl ?_
                      refine A_getR (r := 517) hG dX12_figures_138 fl_X12_46 (by decide) k500 (by decide) rfl ?_
                      refine A_iload_n hG 2 dX12_figures_141 rfl rfl ?_
                      refine A_iload hG 4 dX12_figures_142 rfl ?_
                      refine M_iast (li' := [(517, up nm (k : Int) v), (500, e)]) hG dX12_figures_144 k517 n517 (by omega) (by constructor <;> omega) rfl ?_
                      refine A_aload_n hG 0 dX12_figures_145 rfl rfl ?_
                      refine A_dup hG dX12_figures_146 rfl ?_
                      refine M_getI (z := 15) (v := e 15) hG dX12_figures_147 fl_X12_90 (by decide) k500 rfl rfl rfl (fun ⟨ra_147, rb_147⟩ => ?_)
                      refine A_iconst (n := 1) hG dX12_figures_150 ?_
                      refine A_iadd hG dX12_figures_151 ?_
                      refine M_putI (z := 15) (li' := [(517, up nm (k : Int) v), (500, up e 15 ((e 15) + 1))]) hG dX12_figures_152 fl_X12_90 (by decide) k500 nf_11_15 rfl rfl (by constructor <;> omega) (Or.inl rfl) rfl ?_
                      refine A_iinc (L' := [(2, vI ((k : Int) + 1)), (0, .ref 500), (1, vI (m : Int)), (3, vI n), (4, vI v)]) hG 2 dX12_figures_155 rfl (by decide) rfl ?_
                      refine A_goto hG 2 dX12_figures_158 (by decide) ?_
                      refine A_sub hG [1, 2, 0] rfl ?_
                      exact ih_k (k + 1) (up nm (k : Int) v) (up e 15 ((e 15) + 1)) (by omega) (by simp only [np]; omega) (⟨by rw [up_eq]; simp only [np]; omega, fun q hq => by rw [up_ne _ _ hq]; exact he.2 q hq⟩) (fun i hi => by
                          by_cases hq : i = k
                          · subst hq; exact hokk
                          · exact hok i (by omega)) (fun i hi => by
                          by_cases hq : i = k
                          · subst hq; rw [up_eq]; omega
                          · rw [up_ne _ _ (by omega)]; exact hnm i (by omega)) (by omega)
                    ·
                      refine A_iconst (n := 0) hG dX12_figures_135 ?_
                      exact Ret_z hM dX12_figures_136 (by omega) (⟨nm, e, ⟨he.2, Or.inr ⟨rfl, fun hall => by have hq := hall k (by omega); first | (rw [hsp, hI _ (by omega), ← he.1] at hq; omega) | (rw [hI _ (by split <;> omega)] at hq; omega)⟩⟩, rfl⟩)
                  ·
                    refine A_bipush (n := 44) hG dX12_figures_125 (by decide) ?_
                    refine A_goto hG 132 dX12_figures_127 (by decide) ?_
                    have hsp : (if k + 1 < m then (44 : Int) else 59) = 44 := if_pos (by omega)
                    refine A_icmp_eq hG 137 dX12_figures_132 (by decide) (by constructor <;> omega) (by constructor <;> omega) (fun c_132 => ?_) (fun c_132 => ?_)
                    ·
                      have hvv := num_val (L := (h.1 500 0)) (v := v) (by omega) hdg hst ⟨hv.2.1, hv.2.2.1⟩
                      have hokk : okN (h.1 502) (h.1 500 0) (np (h.1 502) (h.1 500 0) p k) (if k + 1 < m then 44 else 59) := by rw [hsp]; exact (hI _ (by omega)).mpr ⟨by omega, by omega, by rw [← he.1]; omega⟩
                      refine A_aload_n hG 0 dX12_figures_137 rfl rfl ?_
                      refine A_getR (r := 517) hG dX12_figures_138 fl_X12_46 (by decide) k500 (by decide) rfl ?_
                      refine A_iload_n hG 2 dX12_figures_141 rfl rfl ?_
                      refine A_iload hG 4 dX12_figures_142 rfl ?_
                      refine M_iast (li' := [(517, up nm (k : Int) v), (500, e)]) hG dX12_figures_144 k517 n517 (by omega) (by constructor <;> omega) rfl ?_
                      refine A_aload_n hG 0 dX12_figures_145 rfl rfl ?_
                      refine A_dup hG dX12_figures_146 rfl ?_
                      refine M_getI (z := 15) (v := e 15) hG dX12_figures_147 fl_X12_90 (by decide) k500 rfl rfl rfl (fun ⟨ra_147, rb_147⟩ => ?_)
                      refine A_iconst (n := 1) hG dX12_figures_150 ?_
                      refine A_iadd hG dX12_figures_151 ?_
                      refine M_putI (z := 15) (li' := [(517, up nm (k : Int) v), (500, up e 15 ((e 15) + 1))]) hG dX12_figures_152 fl_X12_90 (by decide) k500 nf_11_15 rfl rfl (by constructor <;> omega) (Or.inl rfl) rfl ?_
                      refine A_iinc (L' := [(2, vI ((k : Int) + 1)), (0, .ref 500), (1, vI (m : Int)), (3, vI n), (4, vI v)]) hG 2 dX12_figures_155 rfl (by decide) rfl ?_
                      refine A_goto hG 2 dX12_figures_158 (by decide) ?_
                      refine A_sub hG [1, 2, 0] rfl ?_
                      exact ih_k (k + 1) (up nm (k : Int) v) (up e 15 ((e 15) + 1)) (by omega) (by simp only [np]; omega) (⟨by rw [up_eq]; simp only [np]; omega, fun q hq => by rw [up_ne _ _ hq]; exact he.2 q hq⟩) (fun i hi => by
                          by_cases hq : i = k
                          · subst hq; exact hokk
                          · exact hok i (by omega)) (fun i hi => by
                          by_cases hq : i = k
                          · subst hq; rw [up_eq]; omega
                          · rw [up_ne _ _ (by omega)]; exact hnm i (by omega)) (by omega)
                    ·
                      refine A_iconst (n := 0) hG dX12_figures_135 ?_
                      exact Ret_z hM dX12_figures_136 (by omega) (⟨nm, e, ⟨he.2, Or.inr ⟨rfl, fun hall => by have hq := hall k (by omega); first | (rw [hsp, hI _ (by omega), ← he.1] at hq; omega) | (rw [hI _ (by split <;> omega)] at hq; omega)⟩⟩, rfl⟩)
            refine A_aload_n hG 0 dX12_figures_16 rfl rfl ?_
            refine M_getI (z := 0) (v := e 0) hG dX12_figures_17 fl_X12_84 (by decide) k500 rfl rfl rfl (fun ⟨ra_17, rb_17⟩ => ?_)
            refine A_icmp_ge hG 86 dX12_figures_20 (by decide) (by constructor <;> omega) (by constructor <;> omega) (fun c_20 => ?_) (fun c_20 => ?_)
            ·
              refine A_sub hG [0, 1, 2, 3, 4] rfl ?_
              exact x_2 (by rw [← he.1]; omega)
            ·
              refine A_aload_n hG 0 dX12_figures_23 rfl rfl ?_
              refine A_getR (r := 502) hG dX12_figures_24 fl_X12_7 (by decide) k500 (by decide) rfl ?_
              refine A_aload_n hG 0 dX12_figures_27 rfl rfl ?_
              refine M_getI (z := 15) (v := e 15) hG dX12_figures_28 fl_X12_90 (by decide) k500 rfl rfl rfl (fun ⟨ra_28, rb_28⟩ => ?_)
              refine M_iald (v := h.1 502 (e 15)) hG dX12_figures_31 k502 n502 (by omega) rfl (fun ⟨ra_31, rb_31⟩ => ?_)
              refine A_i2l hG dX12_figures_32 ?_
              refine A_ldc2 (v := i2l 48) hG dX12_figures_33 (by rw [show i2l 48 = (48 : Int64) by decide]; exact kl_X12_93) ?_
              refine A_ldc2 (v := i2l 57) hG dX12_figures_36 (by rw [show i2l 57 = (57 : Int64) by decide]; exact kl_X12_95) ?_
              refine C_Si (as := [.long (i2l (h.1 502 (e 15))), .long (i2l 48), .long (i2l 57)]) (st := []) hG dX12_figures_39 ml_X12_80 mf_X12_in ms_X12_in (r_in (hm h [(517, nm), (500, e)] [] []) (by constructor <;> omega) (by constructor <;> omega) (by constructor <;> omega)) (by decide) (by decide) rfl rfl (Nat.le_of_ble_eq_true rfl) (fun z39 g39 ri_39 hp_39 => ?_)
              obtain ⟨ra_39, rb_39⟩ := ri_39
              obtain ⟨hz39, rfl⟩ := hp_39
              refine A_if_eq hG 86 dX12_figures_42 (by decide) (by constructor <;> omega) (fun c_42 => ?_) (fun c_42 => ?_)
              ·
                refine A_sub hG [0, 1, 2, 3, 4] rfl ?_
                exact x_2 (by rw [← he.1]; omega)
              ·
                refine A_iload_n hG 3 dX12_figures_45 rfl rfl ?_
                refine A_iconst (n := 3) hG dX12_figures_46 ?_
                refine A_icmp_ge hG 86 dX12_figures_47 (by decide) (by constructor <;> omega) (by constructor <;> omega) (fun c_47 => ?_) (fun c_47 => ?_)
                ·
                  refine A_sub hG [0, 1, 2, 3, 4] rfl ?_
                  exact x_2 (by rw [← he.1]; omega)
                ·
                  refine A_bipush (n := 10) hG dX12_figures_50 (by decide) ?_
                  refine A_iload hG 4 dX12_figures_52 rfl ?_
                  refine A_imul hG dX12_figures_54 ?_
                  refine A_aload_n hG 0 dX12_figures_55 rfl rfl ?_
                  refine A_getR (r := 502) hG dX12_figures_56 fl_X12_7 (by decide) k500 (by decide) rfl ?_
                  refine A_aload_n hG 0 dX12_figures_59 rfl rfl ?_
                  refine M_getI (z := 15) (v := e 15) hG dX12_figures_60 fl_X12_90 (by decide) k500 rfl rfl rfl (fun ⟨ra_60, rb_60⟩ => ?_)
                  refine M_iald (v := h.1 502 (e 15)) hG dX12_figures_63 k502 n502 (by omega) rfl (fun ⟨ra_63, rb_63⟩ => ?_)
                  refine A_iadd hG dX12_figures_64 ?_
                  refine A_bipush (n := 48) hG dX12_figures_65 (by decide) ?_
                  refine A_isub hG dX12_figures_67 ?_
                  refine A_istore (L' := [(4, vI (((10 * v) + (h.1 502 (e 15))) - 48)), (0, .ref 500), (1, vI (m : Int)), (2, vI (k : Int)), (3, vI n)]) hG dX12_figures_68 (by decide) rfl ?_
                  refine A_iinc (L' := [(3, vI (n + 1)), (4, vI (((10 * v) + (h.1 502 (e 15))) - 48)), (0, .ref 500), (1, vI (m : Int)), (2, vI (k : Int))]) hG 4 dX12_figures_70 rfl (by decide) rfl ?_
                  refine A_aload_n hG 2 dX12_figures_73 rfl rfl ?_
                  refine A_dup hG dX12_figures_74 rfl ?_
                  refine M_getI (z := 15) (v := e 15) hG dX12_figures_75 fl_X12_90 (by decide) k500 rfl rfl rfl (fun ⟨ra_75, rb_75⟩ => ?_)
                  refine A_iconst (n := 1) hG dX12_figures_78 ?_
                  refine A_iadd hG dX12_figures_79 ?_
                  refine M_putI (z := 15) (li' := [(517, nm), (500, up e 15 ((e 15) + 1))]) hG dX12_figures_80 fl_X12_90 (by decide) k500 nf_11_15 rfl rfl (by constructor <;> omega) (Or.inl rfl) rfl ?_
                  refine A_goto hG 12 dX12_figures_83 (by decide) ?_
                  refine A_sub hG [2, 3, 4, 0, 1] rfl ?_
                  exact ih_d (n + 1) (((10 * v) + (h.1 502 (e 15))) - 48) (up e 15 ((e 15) + 1)) (by omega) (by omega) (⟨by rw [up_eq]; omega, fun q hq => by rw [up_ne _ _ hq]; exact he.2 q hq⟩) (fun j j1 j2 => by
                      by_cases hq : j = n
                      · subst hq; rw [← he.1]; omega
                      · exact hdg j j1 (by omega)) (by
                      have w0 : n = 0 → h.1 502 (e 15) = h.1 502 (np (h.1 502) (h.1 500 0) p k) := fun q => by rw [he.1, q, Int.add_zero]
                      have w1 : n = 1 → h.1 502 (e 15) = h.1 502 (np (h.1 502) (h.1 500 0) p k + 1) := fun q => by rw [he.1, q]
                      have w2 : n = 2 → v ≤ 99 := fun q => by have := hdg 0 (by omega) (by omega); have := hdg 1 (by omega) (by omega); rw [Int.add_zero] at *; omega
                      have w3 : n = 1 → v ≤ 9 := fun q => by have := hdg 0 (by omega) (by omega); rw [Int.add_zero] at this; omega
                      omega) (by omega)
        refine A_sub hG [2, 3, 4, 1, 0] rfl ?_
        exact d_1 _ 0 0 e (by omega) (by omega) (⟨by omega, he.2⟩) (fun j j1 j2 => by omega) (by omega) (Nat.lt_succ_self _)
  refine A_sub hG [1, 2, 0] rfl ?_
  exact k_0 _ 0 (h.1 517) (h.1 500) (by omega) hp.2 (⟨hat, fun _ _ => rfl⟩) (fun i hi => by omega) (fun i hi => by omega) (Nat.lt_succ_self _)

end
