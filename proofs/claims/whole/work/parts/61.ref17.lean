/-! the reference: layTried (printed by gen) -/
section
theorem rc_v {w : Int → Int} {c p v : Int} (hc : c = 0 ∨ c = 2) : rowC w c p v p = v := by
  rcases hc with rfl | rfl
  · show swp w p v p = v
    unfold swp; rw [if_pos rfl]
  · show insr w p v p = v
    unfold insr; rw [if_neg (by omega), if_pos rfl]
theorem rc_w {w : Int → Int} {c p v i j : Int} (h : (c = 0 ∧ j = i ∧ i ≠ p) ∨ (c = 1 ∧ ((i < p ∧ j = i) ∨ (p < i ∧ j = i - 1))) ∨ (c = 2 ∧ ((i < p ∧ j = i) ∨ (p ≤ i ∧ j = i + 1)))) : rowC w c p v j = w i := by
  rcases h with ⟨rfl, rfl, h⟩ | ⟨rfl, h⟩ | ⟨rfl, h⟩
  · show swp w p v j = w j
    unfold swp; rw [if_neg h]
  · show del w p j = w i
    unfold del
    rcases h with ⟨h, rfl⟩ | ⟨h, rfl⟩
    · rw [if_pos h]
    · rw [if_neg (by omega), show i - 1 + 1 = i by omega]
  · show insr w p v j = w i
    unfold insr
    rcases h with ⟨h, rfl⟩ | ⟨h, rfl⟩
    · rw [if_pos h]
    · rw [if_neg (by omega), if_neg (by omega), show i + 1 - 1 = i by omega]
theorem lenC_e {n c : Int} (hc : c = 0 ∨ c = 1 ∨ c = 2) : (c = 0 ∧ lenC n c = n) ∨ (c = 1 ∧ lenC n c = n - 1) ∨ (c = 2 ∧ lenC n c = n + 1) := by
  rcases hc with rfl | rfl | rfl
  · exact Or.inl ⟨rfl, rfl⟩
  · exact Or.inr (Or.inl ⟨rfl, rfl⟩)
  · exact Or.inr (Or.inr ⟨rfl, rfl⟩)
set_option maxHeartbeats 2000000 in
set_option maxRecDepth 20000 in
theorem r_layTried (h : AH) {s p u mo c v : Int} (hs : 0 ≤ s ∧ s ≤ 8) (hn : 0 ≤ h.1 508 s ∧ h.1 508 s ≤ 8) (hp : 0 ≤ p ∧ p ≤ h.1 508 s) (hc : (c = 0 ∧ u = v ∧ 0 ≤ v ∧ v < 16 ∧ mo = 0 ∧ p < h.1 508 s) ∨ (c = 1 ∧ u = -4 ∧ mo = 0 ∧ p < h.1 508 s) ∨ (c = 2 ∧ u = v ∧ 0 ≤ v ∧ v < 16 ∧ mo = 1 ∧ h.1 508 s < 8)) : AMet yX12_layTried cX12_layTried 6 none 0 0 [.ref 500, vI s, vI p, vI u, vI mo] h (Qv (fun h' => ∃ e f : Int → Int, (e 9 = lenC (h.1 508 s) c ∧ (∀ q, q ≠ 9 → e q = h.1 508 q) ∧ (∀ j, j < 90 → f j = h.1 509 j) ∧ ∀ j, 0 ≤ j → j < e 9 → f (90 + j) = rowC (fun i => h.1 509 (10 * s + i)) c p v j) ∧ h' = hm h [(508, e), (509, f)] [] [])) := by
  have hlC := lenC_e (n := h.1 508 s) (c := c) (by omega)
  refine AMet.of (by decide) (Nat.le_of_ble_eq_true rfl) (fun G hM => ?_)
  have hG := hM.cx
  refine A_hm0 (G := G) (L := [(0, .ref 500), (1, vI s), (2, vI p), (3, vI u), (4, vI mo)]) ?_
  refine A_aload_n hG 0 dX12_layTried_0 rfl rfl ?_
  refine A_getR (r := 508) hG dX12_layTried_1 fl_X12_28 (by decide) k500 (by decide) rfl ?_
  refine A_bipush (n := 9) hG dX12_layTried_4 (by decide) ?_
  refine A_iconst (n := 0) hG dX12_layTried_6 ?_
  refine M_iast (li' := [(508, up (h.1 508) 9 0)]) hG dX12_layTried_7 k508 n508 (by omega) (by constructor <;> omega) rfl ?_
  refine A_iconst (n := 0) hG dX12_layTried_8 ?_
  refine A_istore (L' := [(5, vI 0), (0, .ref 500), (1, vI s), (2, vI p), (3, vI u), (4, vI mo)]) hG dX12_layTried_9 (by decide) rfl ?_
  refine A_insI 509 (li' := [(508, up (h.1 508) 9 0), (509, h.1 509)]) rfl ?_
  have i_0 : ∀ fu : Nat, ∀ (i : Int) (e : Int → Int) (f : Int → Int), (0 ≤ i ∧ i ≤ h.1 508 s) → ((c = 0 ∧ e 9 = i) ∨ (c = 1 ∧ ((p < i ∧ e 9 = i - 1) ∨ (i ≤ p ∧ e 9 = i))) ∨ (c = 2 ∧ ((p < i ∧ e 9 = i + 1) ∨ (i ≤ p ∧ e 9 = i)))) → (∀ q, q ≠ 9 → e q = h.1 508 q) → (∀ j, j < 90 → f j = h.1 509 j) → (∀ j, 0 ≤ j → j < e 9 → f (90 + j) = rowC (fun i => h.1 509 (10 * s + i)) c p v j) → ((9 - i).toNat) < fu → G 11 [(0, .ref 500), (1, vI s), (2, vI p), (3, vI u), (4, vI mo), (5, vI i)] [] (hm h [(508, e), (509, f)] [] []) := by
    intro fu
    induction fu with
    | zero => intro i e f hi hL hE hF hB hfu; exact absurd hfu (Nat.not_lt_zero _)
    | succ fu ih_i =>
      intro i e f hi hL hE hF hB hfu
      have hes : e s = h.1 508 s := hE s (by omega)
      refine A_iload hG 5 dX12_layTried_11 rfl ?_
      refine A_aload_n hG 0 dX12_layTried_13 rfl rfl ?_
      refine A_getR (r := 508) hG dX12_layTried_14 fl_X12_28 (by decide) k500 (by decide) rfl ?_
      refine A_iload_n hG 1 dX12_layTried_17 rfl rfl ?_
      refine M_iald (v := e s) hG dX12_layTried_18 k508 n508 (by omega) rfl (fun ⟨ra_18, rb_18⟩ => ?_)
      refine A_icmp_ge hG 114 dX12_layTried_19 (by decide) (by constructor <;> omega) (by constructor <;> omega) (fun c_19 => ?_) (fun c_19 => ?_)
      ·
        refine A_iload_n hG 2 dX12_layTried_114 rfl rfl ?_
        refine A_aload_n hG 0 dX12_layTried_115 rfl rfl ?_
        refine A_getR (r := 508) hG dX12_layTried_116 fl_X12_28 (by decide) k500 (by decide) rfl ?_
        refine A_iload_n hG 1 dX12_layTried_119 rfl rfl ?_
        refine M_iald (v := e s) hG dX12_layTried_120 k508 n508 (by omega) rfl (fun ⟨ra_120, rb_120⟩ => ?_)
        refine A_icmp_ne hG 151 dX12_layTried_121 (by decide) (by constructor <;> omega) (by constructor <;> omega) (fun c_121 => ?_) (fun c_121 => ?_)
        ·
          exact Ret_v hM dX12_layTried_151 (⟨_, _, ⟨by omega, hE, hF, hB⟩, rfl⟩)
        ·
          refine A_aload_n hG 0 dX12_layTried_124 rfl rfl ?_
          refine A_getR (r := 509) hG dX12_layTried_125 fl_X12_31 (by decide) k500 (by decide) rfl ?_
          refine A_bipush (n := 90) hG dX12_layTried_128 (by decide) ?_
          refine A_aload_n hG 0 dX12_layTried_130 rfl rfl ?_
          refine A_getR (r := 508) hG dX12_layTried_131 fl_X12_28 (by decide) k500 (by decide) rfl ?_
          refine A_bipush (n := 9) hG dX12_layTried_134 (by decide) ?_
          refine M_iald (v := e 9) hG dX12_layTried_136 k508 n508 (by omega) rfl (fun ⟨ra_136, rb_136⟩ => ?_)
          refine A_iadd hG dX12_layTried_137 ?_
          refine A_iload_n hG 3 dX12_layTried_138 rfl rfl ?_
          refine M_iast (li' := [(508, e), (509, up f (90 + (e 9)) u)]) hG dX12_layTried_139 k509 n509 (by omega) (by constructor <;> omega) rfl ?_
          refine A_aload_n hG 0 dX12_layTried_140 rfl rfl ?_
          refine A_getR (r := 508) hG dX12_layTried_141 fl_X12_28 (by decide) k500 (by decide) rfl ?_
          refine A_bipush (n := 9) hG dX12_layTried_144 (by decide) ?_
          refine A_dup2 hG dX12_layTried_146 rfl rfl ?_
          refine M_iald (v := e 9) hG dX12_layTried_147 k508 n508 (by omega) rfl (fun ⟨ra_147, rb_147⟩ => ?_)
          refine A_iconst (n := 1) hG dX12_layTried_148 ?_
          refine A_iadd hG dX12_layTried_149 ?_
          refine M_iast (li' := [(508, up e 9 ((e 9) + 1)), (509, up f (90 + (e 9)) u)]) hG dX12_layTried_150 k508 n508 (by omega) (by constructor <;> omega) rfl ?_
          exact Ret_v hM dX12_layTried_151 (⟨_, _, ⟨by rw [up_eq]; omega, (fun q hq => by first | exact up_ne _ _ hq | (rw [up_ne _ _ hq]; exact hE q hq)), (fun j hj => by rw [up_ne _ _ (by omega)]; exact hF j hj), (fun j j0 j1 => by
              rw [up_eq] at j1
              by_cases hq : j = e 9
              · rw [hq, up_eq, show e 9 = p by omega, rc_v (by omega)]; omega
              · rw [up_ne _ _ (by omega)]; exact hB j j0 (by omega))⟩, rfl⟩)
      ·
        have g_1 : ∀ (e : Int → Int) (f : Int → Int), ((i ≠ p ∧ ((c = 0 ∧ e 9 = i) ∨ (c = 1 ∧ ((p < i ∧ e 9 = i - 1) ∨ (i ≤ p ∧ e 9 = i))) ∨ (c = 2 ∧ ((p < i ∧ e 9 = i + 1) ∨ (i ≤ p ∧ e 9 = i))))) ∨ (i = p ∧ ((c = 1 ∧ e 9 = i) ∨ (c ≠ 1 ∧ e 9 = i + 1)))) → (∀ q, q ≠ 9 → e q = h.1 508 q) → (∀ j, j < 90 → f j = h.1 509 j) → (∀ j, 0 ≤ j → j < e 9 → f (90 + j) = rowC (fun i => h.1 509 (10 * s + i)) c p v j) → G 59 [(0, .ref 500), (1, vI s), (2, vI p), (3, vI u), (4, vI mo), (5, vI i)] [] (hm h [(508, e), (509, f)] [] []) := by
          intro e f hA hE hF hB
          have hes : e s = h.1 508 s := hE s (by omega)
          refine A_iload hG 5 dX12_layTried_59 rfl ?_
          refine A_iload_n hG 2 dX12_layTried_61 rfl rfl ?_
          refine A_icmp_ne hG 70 dX12_layTried_62 (by decide) (by constructor <;> omega) (by constructor <;> omega) (fun c_62 => ?_) (fun c_62 => ?_)
          ·
            refine A_aload_n hG 0 dX12_layTried_70 rfl rfl ?_
            refine A_getR (r := 509) hG dX12_layTried_71 fl_X12_31 (by decide) k500 (by decide) rfl ?_
            refine A_bipush (n := 90) hG dX12_layTried_74 (by decide) ?_
            refine A_aload_n hG 0 dX12_layTried_76 rfl rfl ?_
            refine A_getR (r := 508) hG dX12_layTried_77 fl_X12_28 (by decide) k500 (by decide) rfl ?_
            refine A_bipush (n := 9) hG dX12_layTried_80 (by decide) ?_
            refine M_iald (v := e 9) hG dX12_layTried_82 k508 n508 (by omega) rfl (fun ⟨ra_82, rb_82⟩ => ?_)
            refine A_iadd hG dX12_layTried_83 ?_
            refine A_aload_n hG 0 dX12_layTried_84 rfl rfl ?_
            refine A_getR (r := 509) hG dX12_layTried_85 fl_X12_31 (by decide) k500 (by decide) rfl ?_
            refine A_bipush (n := 10) hG dX12_layTried_88 (by decide) ?_
            refine A_iload_n hG 1 dX12_layTried_90 rfl rfl ?_
            refine A_imul hG dX12_layTried_91 ?_
            refine A_iload hG 5 dX12_layTried_92 rfl ?_
            refine A_iadd hG dX12_layTried_94 ?_
            refine M_iald (v := f ((10 * s) + i)) hG dX12_layTried_95 k509 n509 (by omega) rfl (fun ⟨ra_95, rb_95⟩ => ?_)
            refine M_iast (li' := [(508, e), (509, up f (90 + (e 9)) (f ((10 * s) + i)))]) hG dX12_layTried_96 k509 n509 (by omega) (by constructor <;> omega) rfl ?_
            refine A_aload_n hG 0 dX12_layTried_97 rfl rfl ?_
            refine A_getR (r := 508) hG dX12_layTried_98 fl_X12_28 (by decide) k500 (by decide) rfl ?_
            refine A_bipush (n := 9) hG dX12_layTried_101 (by decide) ?_
            refine A_dup2 hG dX12_layTried_103 rfl rfl ?_
            refine M_iald (v := e 9) hG dX12_layTried_104 k508 n508 (by omega) rfl (fun ⟨ra_104, rb_104⟩ => ?_)
            refine A_iconst (n := 1) hG dX12_layTried_105 ?_
            refine A_iadd hG dX12_layTried_106 ?_
            refine M_iast (li' := [(508, up e 9 ((e 9) + 1)), (509, up f (90 + (e 9)) (f ((10 * s) + i)))]) hG dX12_layTried_107 k508 n508 (by omega) (by constructor <;> omega) rfl ?_
            refine A_iinc (L' := [(5, vI (i + 1)), (0, .ref 500), (1, vI s), (2, vI p), (3, vI u), (4, vI mo)]) hG 5 dX12_layTried_108 rfl (by decide) rfl ?_
            refine A_goto hG 11 dX12_layTried_111 (by decide) ?_
            refine A_sub hG [1, 2, 3, 4, 5, 0] rfl ?_
            exact ih_i (i + 1) (up e 9 ((e 9) + 1)) (up f (90 + (e 9)) (f ((10 * s) + i))) (by omega) (by first | omega | (rw [up_eq]; omega)) (fun q hq => by first | exact up_ne _ _ hq | (rw [up_ne _ _ hq]; exact hE q hq)) (fun j hj => by rw [up_ne _ _ (by omega)]; exact hF j hj) (fun j j0 j1 => by
                rw [up_eq] at j1
                by_cases hq : j = e 9
                · rw [hq, up_eq, rc_w (i := i) (by omega)]; exact hF _ (by omega)
                · rw [up_ne _ _ (by omega)]; exact hB j j0 (by omega)) (by omega)
          ·
            refine A_iload hG 4 dX12_layTried_65 rfl ?_
            refine A_if_eq hG 108 dX12_layTried_67 (by decide) (by constructor <;> omega) (fun c_67 => ?_) (fun c_67 => ?_)
            ·
              refine A_iinc (L' := [(5, vI (i + 1)), (0, .ref 500), (1, vI s), (2, vI p), (3, vI u), (4, vI mo)]) hG 5 dX12_layTried_108 rfl (by decide) rfl ?_
              refine A_goto hG 11 dX12_layTried_111 (by decide) ?_
              refine A_sub hG [1, 2, 3, 4, 5, 0] rfl ?_
              exact ih_i (i + 1) e f (by omega) (by first | omega | (rw [up_eq]; omega)) hE hF hB (by omega)
            ·
              refine A_aload_n hG 0 dX12_layTried_70 rfl rfl ?_
              refine A_getR (r := 509) hG dX12_layTried_71 fl_X12_31 (by decide) k500 (by decide) rfl ?_
              refine A_bipush (n := 90) hG dX12_layTried_74 (by decide) ?_
              refine A_aload_n hG 0 dX12_layTried_76 rfl rfl ?_
              refine A_getR (r := 508) hG dX12_layTried_77 fl_X12_28 (by decide) k500 (by decide) rfl ?_
              refine A_bipush (n := 9) hG dX12_layTried_80 (by decide) ?_
              refine M_iald (v := e 9) hG dX12_layTried_82 k508 n508 (by omega) rfl (fun ⟨ra_82, rb_82⟩ => ?_)
              refine A_iadd hG dX12_layTried_83 ?_
              refine A_aload_n hG 0 dX12_layTried_84 rfl rfl ?_
              refine A_getR (r := 509) hG dX12_layTried_85 fl_X12_31 (by decide) k500 (by decide) rfl ?_
              refine A_bipush (n := 10) hG dX12_layTried_88 (by decide) ?_
              refine A_iload_n hG 1 dX12_layTried_90 rfl rfl ?_
              refine A_imul hG dX12_layTried_91 ?_
              refine A_iload hG 5 dX12_layTried_92 rfl ?_
              refine A_iadd hG dX12_layTried_94 ?_
              refine M_iald (v := f ((10 * s) + i)) hG dX12_layTried_95 k509 n509 (by omega) rfl (fun ⟨ra_95, rb_95⟩ => ?_)
              refine M_iast (li' := [(508, e), (509, up f (90 + (e 9)) (f ((10 * s) + i)))]) hG dX12_layTried_96 k509 n509 (by omega) (by constructor <;> omega) rfl ?_
              refine A_aload_n hG 0 dX12_layTried_97 rfl rfl ?_
              refine A_getR (r := 508) hG dX12_layTried_98 fl_X12_28 (by decide) k500 (by decide) rfl ?_
              refine A_bipush (n := 9) hG dX12_layTried_101 (by decide) ?_
              refine A_dup2 hG dX12_layTried_103 rfl rfl ?_
              refine M_iald (v := e 9) hG dX12_layTried_104 k508 n508 (by omega) rfl (fun ⟨ra_104, rb_104⟩ => ?_)
              refine A_iconst (n := 1) hG dX12_layTried_105 ?_
              refine A_iadd hG dX12_layTried_106 ?_
              refine M_iast (li' := [(508, up e 9 ((e 9) + 1)), (509, up f (90 + (e 9)) (f ((10 * s) + i)))]) hG dX12_layTried_107 k508 n508 (by omega) (by constructor <;> omega) rfl ?_
              refine A_iinc (L' := [(5, vI (i + 1)), (0, .ref 500), (1, vI s), (2, vI p), (3, vI u), (4, vI mo)]) hG 5 dX12_layTried_108 rfl (by decide) rfl ?_
              refine A_goto hG 11 dX12_layTried_111 (by decide) ?_
              refine A_sub hG [1, 2, 3, 4, 5, 0] rfl ?_
              exact ih_i (i + 1) (up e 9 ((e 9) + 1)) (up f (90 + (e 9)) (f ((10 * s) + i))) (by omega) (by first | omega | (rw [up_eq]; omega)) (fun q hq => by first | exact up_ne _ _ hq | (rw [up_ne _ _ hq]; exact hE q hq)) (fun j hj => by rw [up_ne _ _ (by omega)]; exact hF j hj) (fun j j0 j1 => by
                  rw [up_eq] at j1
                  by_cases hq : j = e 9
                  · rw [hq, up_eq, rc_w (i := i) (by omega)]; exact hF _ (by omega)
                  · rw [up_ne _ _ (by omega)]; exact hB j j0 (by omega)) (by omega)
        refine A_iload hG 5 dX12_layTried_22 rfl ?_
        refine A_iload_n hG 2 dX12_layTried_24 rfl rfl ?_
        refine A_icmp_ne hG 59 dX12_layTried_25 (by decide) (by constructor <;> omega) (by constructor <;> omega) (fun c_25 => ?_) (fun c_25 => ?_)
        ·
          refine A_sub hG [0, 1, 2, 3, 4, 5] rfl ?_
          exact g_1 e f (by first | omega | (rw [up_eq]; omega)) hE hF hB
        ·
          refine A_iload_n hG 3 dX12_layTried_28 rfl rfl ?_
          refine A_if_lt hG 59 dX12_layTried_29 (by decide) (by constructor <;> omega) (fun c_29 => ?_) (fun c_29 => ?_)
          ·
            refine A_sub hG [0, 1, 2, 3, 4, 5] rfl ?_
            exact g_1 e f (by first | omega | (rw [up_eq]; omega)) hE hF hB
          ·
            refine A_aload_n hG 0 dX12_layTried_32 rfl rfl ?_
            refine A_getR (r := 509) hG dX12_layTried_33 fl_X12_31 (by decide) k500 (by decide) rfl ?_
            refine A_bipush (n := 90) hG dX12_layTried_36 (by decide) ?_
            refine A_aload_n hG 0 dX12_layTried_38 rfl rfl ?_
            refine A_getR (r := 508) hG dX12_layTried_39 fl_X12_28 (by decide) k500 (by decide) rfl ?_
            refine A_bipush (n := 9) hG dX12_layTried_42 (by decide) ?_
            refine M_iald (v := e 9) hG dX12_layTried_44 k508 n508 (by omega) rfl (fun ⟨ra_44, rb_44⟩ => ?_)
            refine A_iadd hG dX12_layTried_45 ?_
            refine A_iload_n hG 3 dX12_layTried_46 rfl rfl ?_
            refine M_iast (li' := [(508, e), (509, up f (90 + (e 9)) u)]) hG dX12_layTried_47 k509 n509 (by omega) (by constructor <;> omega) rfl ?_
            refine A_aload_n hG 0 dX12_layTried_48 rfl rfl ?_
            refine A_getR (r := 508) hG dX12_layTried_49 fl_X12_28 (by decide) k500 (by decide) rfl ?_
            refine A_bipush (n := 9) hG dX12_layTried_52 (by decide) ?_
            refine A_dup2 hG dX12_layTried_54 rfl rfl ?_
            refine M_iald (v := e 9) hG dX12_layTried_55 k508 n508 (by omega) rfl (fun ⟨ra_55, rb_55⟩ => ?_)
            refine A_iconst (n := 1) hG dX12_layTried_56 ?_
            refine A_iadd hG dX12_layTried_57 ?_
            refine M_iast (li' := [(508, up e 9 ((e 9) + 1)), (509, up f (90 + (e 9)) u)]) hG dX12_layTried_58 k508 n508 (by omega) (by constructor <;> omega) rfl ?_
            refine A_sub hG [0, 1, 2, 3, 4, 5] rfl ?_
            exact g_1 (up e 9 ((e 9) + 1)) (up f (90 + (e 9)) u) (by first | omega | (rw [up_eq]; omega)) (fun q hq => by first | exact up_ne _ _ hq | (rw [up_ne _ _ hq]; exact hE q hq)) (fun j hj => by rw [up_ne _ _ (by omega)]; exact hF j hj) (fun j j0 j1 => by
                rw [up_eq] at j1
                by_cases hq : j = e 9
                · rw [hq, up_eq, show e 9 = p by omega, rc_v (by omega)]; omega
                · rw [up_ne _ _ (by omega)]; exact hB j j0 (by omega))
  refine A_sub hG [1, 2, 3, 4, 5, 0] rfl ?_
  exact i_0 _ 0 (up (h.1 508) 9 0) (h.1 509) (by omega) (by first | omega | (rw [up_eq]; omega)) (fun q hq => by first | exact up_ne _ _ hq | (rw [up_ne _ _ hq]; exact hE q hq)) (fun _ _ => rfl) (fun j j0 j1 => by rw [up_eq] at j1; omega) (Nat.lt_succ_self _)

end
