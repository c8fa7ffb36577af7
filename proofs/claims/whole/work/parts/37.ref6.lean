/-! the reference: prices of changes (printed by gen) -/
section
theorem hm_selfI (h : AH) (k : Nat) : hm h [(k, h.1 k)] [] [] = h := by
  have e : (fun q => alk [(k, h.1 k)] q (h.1 q)) = h.1 := by
    funext q
    simp only [alk]
    by_cases hq : q = k
    · subst hq; simp
    · simp [hq]
  unfold hm
  rw [e]
  rfl
set_option maxHeartbeats 2000000 in
set_option maxRecDepth 20000 in
theorem r_changes (h : AH) {u v : Int} (hu : 0 ≤ u ∧ u < 16) (hv : 0 ≤ v ∧ v < 16) (h0 : 0 ≤ h.1 521 0 ∧ h.1 521 0 ≤ 99) (h1 : 0 ≤ h.1 521 1 ∧ h.1 521 1 ≤ 99) (h2 : 0 ≤ h.1 521 2 ∧ h.1 521 2 ≤ 99) : AMet yX12_changes cX12_changes 8 (some .int) 0 0 [.ref 500, vI u, vI v] h (Qi (fun z h' => ((u = v ∧ z = 0) ∨ (u ≠ v ∧ (0 ≤ z ∧ z ≤ 100000) ∧ (h.1 504 (4 * u + 2) = h.1 504 (4 * v + 2) → z ≤ h.1 521 0) ∧ (h.1 504 (4 * u + 3) = h.1 504 (4 * v + 3) → z ≤ h.1 521 1) ∧ (h.1 504 (4 * u + 0) = h.1 504 (4 * v + 0) → z ≤ h.1 521 2) ∧ (z = 100000 ∨ (h.1 504 (4 * u + 2) = h.1 504 (4 * v + 2) ∧ z = h.1 521 0) ∨ (h.1 504 (4 * u + 3) = h.1 504 (4 * v + 3) ∧ z = h.1 521 1) ∨ (h.1 504 (4 * u + 0) = h.1 504 (4 * v + 0) ∧ z = h.1 521 2)))) ∧ h' = h)) := by
  refine AMet.of (by decide) (Nat.le_of_ble_eq_true rfl) (fun G hM => ?_)
  have hG := hM.cx
  refine A_hm0 (G := G) (L := [(0, .ref 500), (1, vI u), (2, vI v)]) ?_
  refine A_iconst (n := 4) hG dX12_changes_0 ?_
  refine A_iload_n hG 1 dX12_changes_1 rfl rfl ?_
  refine A_imul hG dX12_changes_2 ?_
  refine A_istore_n (L' := [(3, vI (4 * u)), (0, .ref 500), (1, vI u), (2, vI v)]) hG dX12_changes_3 rfl (by decide) rfl ?_
  refine A_iconst (n := 4) hG dX12_changes_4 ?_
  refine A_iload_n hG 3 dX12_changes_5 rfl rfl ?_
  refine A_imul hG dX12_changes_6 ?_
  refine A_istore (L' := [(4, vI (4 * v)), (3, vI (4 * u)), (0, .ref 500), (1, vI u), (2, vI v)]) hG dX12_changes_7 (by decide) rfl ?_
  refine A_ldc (n := 100000) hG dX12_changes_9 kc_X12_166 ?_
  refine A_istore (L' := [(5, vI 100000), (4, vI (4 * v)), (3, vI (4 * u)), (0, .ref 500), (1, vI u), (2, vI v)]) hG dX12_changes_11 (by decide) rfl ?_
  refine A_iconst (n := 0) hG dX12_changes_13 ?_
  refine A_istore (L' := [(6, vI 0), (5, vI 100000), (4, vI (4 * v)), (3, vI (4 * u)), (0, .ref 500), (1, vI u), (2, vI v)]) hG dX12_changes_14 (by decide) rfl ?_
  have c_0 : ∀ fu : Nat, ∀ (x : Int) (c : Int), (0 ≤ c ∧ c ≤ 3) → ((0 ≤ x ∧ x ≤ 100000) ∧ (1 ≤ c → h.1 504 (4 * u + 2) = h.1 504 (4 * v + 2) → x ≤ h.1 521 0) ∧ (2 ≤ c → h.1 504 (4 * u + 3) = h.1 504 (4 * v + 3) → x ≤ h.1 521 1) ∧ (3 ≤ c → h.1 504 (4 * u + 0) = h.1 504 (4 * v + 0) → x ≤ h.1 521 2) ∧ (x = 100000 ∨ (h.1 504 (4 * u + 2) = h.1 504 (4 * v + 2) ∧ x = h.1 521 0) ∨ (h.1 504 (4 * u + 3) = h.1 504 (4 * v + 3) ∧ x = h.1 521 1) ∨ (h.1 504 (4 * u + 0) = h.1 504 (4 * v + 0) ∧ x = h.1 521 2))) → ((3 - c).toNat) < fu → G 16 [(0, .ref 500), (1, vI u), (2, vI v), (3, vI (4 * u)), (4, vI (4 * v)), (5, vI x), (6, vI c)] [] (hm h [] [] []) := by
    intro fu
    induction fu with
    | zero => intro x c hc hx hfu; exact absurd hfu (Nat.not_lt_zero _)
    | succ fu ih_c =>
      intro x c hc hx hfu
      have e0 : c = 0 → h.1 521 c = h.1 521 0 := fun q => by rw [q]
      have e1 : c = 1 → h.1 521 c = h.1 521 1 := fun q => by rw [q]
      have e2 : c = 2 → h.1 521 c = h.1 521 2 := fun q => by rw [q]
      refine A_iload hG 6 dX12_changes_16 rfl ?_
      refine A_iconst (n := 3) hG dX12_changes_18 ?_
      refine A_icmp_ge hG 103 dX12_changes_19 (by decide) (by constructor <;> omega) (by constructor <;> omega) (fun c_19 => ?_) (fun c_19 => ?_)
      ·
        refine A_iload_n hG 1 dX12_changes_103 rfl rfl ?_
        refine A_iload_n hG 2 dX12_changes_104 rfl rfl ?_
        refine A_icmp_ne hG 112 dX12_changes_105 (by decide) (by constructor <;> omega) (by constructor <;> omega) (fun c_105 => ?_) (fun c_105 => ?_)
        ·
          refine A_iload hG 5 dX12_changes_112 rfl ?_
          exact Ret_i hM dX12_changes_114 (by constructor <;> omega) (⟨by omega, rfl⟩)
        ·
          refine A_iconst (n := 0) hG dX12_changes_108 ?_
          refine A_goto hG 114 dX12_changes_109 (by decide) ?_
          exact Ret_i hM dX12_changes_114 (by constructor <;> omega) (⟨by omega, rfl⟩)
      ·
        refine A_iload_n hG 1 dX12_changes_22 rfl rfl ?_
        refine A_iload_n hG 2 dX12_changes_23 rfl rfl ?_
        refine A_icmp_eq hG 103 dX12_changes_24 (by decide) (by constructor <;> omega) (by constructor <;> omega) (fun c_24 => ?_) (fun c_24 => ?_)
        ·
          refine A_iload_n hG 1 dX12_changes_103 rfl rfl ?_
          refine A_iload_n hG 2 dX12_changes_104 rfl rfl ?_
          refine A_icmp_ne hG 112 dX12_changes_105 (by decide) (by constructor <;> omega) (by constructor <;> omega) (fun c_105 => ?_) (fun c_105 => ?_)
          ·
            refine A_iload hG 5 dX12_changes_112 rfl ?_
            exact Ret_i hM dX12_changes_114 (by constructor <;> omega) (⟨by omega, rfl⟩)
          ·
            refine A_iconst (n := 0) hG dX12_changes_108 ?_
            refine A_goto hG 114 dX12_changes_109 (by decide) ?_
            exact Ret_i hM dX12_changes_114 (by constructor <;> omega) (⟨by omega, rfl⟩)
        ·
          refine A_iload hG 6 dX12_changes_27 rfl ?_
          refine A_if_ne hG 36 dX12_changes_29 (by decide) (by constructor <;> omega) (fun c_29 => ?_) (fun c_29 => ?_)
          ·
            refine A_iload hG 6 dX12_changes_36 rfl ?_
            refine A_iconst (n := 1) hG dX12_changes_38 ?_
            refine A_icmp_ne hG 46 dX12_changes_39 (by decide) (by constructor <;> omega) (by constructor <;> omega) (fun c_39 => ?_) (fun c_39 => ?_)
            ·
              refine A_iconst (n := 0) hG dX12_changes_46 ?_
              refine A_istore (L' := [(7, vI 0), (0, .ref 500), (1, vI u), (2, vI v), (3, vI (4 * u)), (4, vI (4 * v)), (5, vI x), (6, vI c)]) hG dX12_changes_47 (by decide) rfl ?_
              refine A_aload_n hG 1 dX12_changes_49 rfl rfl ?_
              refine A_getR (r := 504) hG dX12_changes_50 fl_X12_16 (by decide) k500 (by decide) rfl ?_
              refine A_iload_n hG 4 dX12_changes_53 rfl rfl ?_
              refine A_iload hG 0 dX12_changes_54 rfl ?_
              refine A_iadd hG dX12_changes_56 ?_
              refine M_iald (v := h.1 504 ((4 * u) + 0)) hG dX12_changes_57 k504 n504 (by omega) rfl (fun ⟨ra_57, rb_57⟩ => ?_)
              refine A_aload_n hG 1 dX12_changes_58 rfl rfl ?_
              refine A_getR (r := 504) hG dX12_changes_59 fl_X12_16 (by decide) k500 (by decide) rfl ?_
              refine A_iload hG 5 dX12_changes_62 rfl ?_
              refine A_iload hG 0 dX12_changes_64 rfl ?_
              refine A_iadd hG dX12_changes_66 ?_
              refine M_iald (v := h.1 504 ((4 * v) + 0)) hG dX12_changes_67 k504 n504 (by omega) rfl (fun ⟨ra_67, rb_67⟩ => ?_)
              refine A_icmp_ne hG 93 dX12_changes_68 (by decide) (by constructor <;> omega) (by constructor <;> omega) (fun c_68 => ?_) (fun c_68 => ?_)
              ·
                refine A_iload hG 6 dX12_changes_93 rfl ?_
                refine A_istore (L' := [(5, vI x), (7, vI 0), (0, .ref 500), (1, vI u), (2, vI v), (3, vI (4 * u)), (4, vI (4 * v)), (6, vI c)]) hG dX12_changes_95 (by decide) rfl ?_
                refine A_iinc (L' := [(6, vI (c + 1)), (5, vI x), (7, vI 0), (0, .ref 500), (1, vI u), (2, vI v), (3, vI (4 * u)), (4, vI (4 * v))]) hG 7 dX12_changes_97 rfl (by decide) rfl ?_
                refine A_goto hG 16 dX12_changes_100 (by decide) ?_
                refine A_sub hG [3, 4, 5, 6, 7, 1, 0] rfl ?_
                exact ih_c x (c + 1) (by omega) (by omega) (by omega)
              ·
                refine A_aload_n hG 1 dX12_changes_71 rfl rfl ?_
                refine A_getR (r := 521) hG dX12_changes_72 fl_X12_59 (by decide) k500 (by decide) rfl ?_
                refine A_iload hG 7 dX12_changes_75 rfl ?_
                refine M_iald (v := h.1 521 c) hG dX12_changes_77 k521 n521 (by omega) rfl (fun ⟨ra_77, rb_77⟩ => ?_)
                refine A_iload hG 6 dX12_changes_78 rfl ?_
                refine A_icmp_ge hG 93 dX12_changes_80 (by decide) (by constructor <;> omega) (by constructor <;> omega) (fun c_80 => ?_) (fun c_80 => ?_)
                ·
                  refine A_iload hG 6 dX12_changes_93 rfl ?_
                  refine A_istore (L' := [(5, vI x), (7, vI 0), (0, .ref 500), (1, vI u), (2, vI v), (3, vI (4 * u)), (4, vI (4 * v)), (6, vI c)]) hG dX12_changes_95 (by decide) rfl ?_
                  refine A_iinc (L' := [(6, vI (c + 1)), (5, vI x), (7, vI 0), (0, .ref 500), (1, vI u), (2, vI v), (3, vI (4 * u)), (4, vI (4 * v))]) hG 7 dX12_changes_97 rfl (by decide) rfl ?_
                  refine A_goto hG 16 dX12_changes_100 (by decide) ?_
                  refine A_sub hG [3, 4, 5, 6, 7, 1, 0] rfl ?_
                  exact ih_c x (c + 1) (by omega) (by omega) (by omega)
                ·
                  refine A_aload_n hG 1 dX12_changes_83 rfl rfl ?_
                  refine A_getR (r := 521) hG dX12_changes_84 fl_X12_59 (by decide) k500 (by decide) rfl ?_
                  refine A_iload hG 7 dX12_changes_87 rfl ?_
                  refine M_iald (v := h.1 521 c) hG dX12_changes_89 k521 n521 (by omega) rfl (fun ⟨ra_89, rb_89⟩ => ?_)
                  refine A_goto hG 95 dX12_changes_90 (by decide) ?_
                  refine A_istore (L' := [(5, vI (h.1 521 c)), (7, vI 0), (0, .ref 500), (1, vI u), (2, vI v), (3, vI (4 * u)), (4, vI (4 * v)), (6, vI c)]) hG dX12_changes_95 (by decide) rfl ?_
                  refine A_iinc (L' := [(6, vI (c + 1)), (5, vI (h.1 521 c)), (7, vI 0), (0, .ref 500), (1, vI u), (2, vI v), (3, vI (4 * u)), (4, vI (4 * v))]) hG 7 dX12_changes_97 rfl (by decide) rfl ?_
                  refine A_goto hG 16 dX12_changes_100 (by decide) ?_
                  refine A_sub hG [3, 4, 5, 6, 7, 1, 0] rfl ?_
                  exact ih_c (h.1 521 c) (c + 1) (by omega) (by omega) (by omega)
            ·
              refine A_iconst (n := 3) hG dX12_changes_42 ?_
              refine A_goto hG 47 dX12_changes_43 (by decide) ?_
              refine A_istore (L' := [(7, vI 3), (0, .ref 500), (1, vI u), (2, vI v), (3, vI (4 * u)), (4, vI (4 * v)), (5, vI x), (6, vI c)]) hG dX12_changes_47 (by decide) rfl ?_
              refine A_aload_n hG 1 dX12_changes_49 rfl rfl ?_
              refine A_getR (r := 504) hG dX12_changes_50 fl_X12_16 (by decide) k500 (by decide) rfl ?_
              refine A_iload_n hG 4 dX12_changes_53 rfl rfl ?_
              refine A_iload hG 0 dX12_changes_54 rfl ?_
              refine A_iadd hG dX12_changes_56 ?_
              refine M_iald (v := h.1 504 ((4 * u) + 3)) hG dX12_changes_57 k504 n504 (by omega) rfl (fun ⟨ra_57, rb_57⟩ => ?_)
              refine A_aload_n hG 1 dX12_changes_58 rfl rfl ?_
              refine A_getR (r := 504) hG dX12_changes_59 fl_X12_16 (by decide) k500 (by decide) rfl ?_
              refine A_iload hG 5 dX12_changes_62 rfl ?_
              refine A_iload hG 0 dX12_changes_64 rfl ?_
              refine A_iadd hG dX12_changes_66 ?_
              refine M_iald (v := h.1 504 ((4 * v) + 3)) hG dX12_changes_67 k504 n504 (by omega) rfl (fun ⟨ra_67, rb_67⟩ => ?_)
              refine A_icmp_ne hG 93 dX12_changes_68 (by decide) (by constructor <;> omega) (by constructor <;> omega) (fun c_68 => ?_) (fun c_68 => ?_)
              ·
                refine A_iload hG 6 dX12_changes_93 rfl ?_
                refine A_istore (L' := [(5, vI x), (7, vI 3), (0, .ref 500), (1, vI u), (2, vI v), (3, vI (4 * u)), (4, vI (4 * v)), (6, vI c)]) hG dX12_changes_95 (by decide) rfl ?_
                refine A_iinc (L' := [(6, vI (c + 1)), (5, vI x), (7, vI 3), (0, .ref 500), (1, vI u), (2, vI v), (3, vI (4 * u)), (4, vI (4 * v))]) hG 7 dX12_changes_97 rfl (by decide) rfl ?_
                refine A_goto hG 16 dX12_changes_100 (by decide) ?_
                refine A_sub hG [3, 4, 5, 6, 7, 1, 0] rfl ?_
                exact ih_c x (c + 1) (by omega) (by omega) (by omega)
              ·
                refine A_aload_n hG 1 dX12_changes_71 rfl rfl ?_
                refine A_getR (r := 521) hG dX12_changes_72 fl_X12_59 (by decide) k500 (by decide) rfl ?_
                refine A_iload hG 7 dX12_changes_75 rfl ?_
                refine M_iald (v := h.1 521 c) hG dX12_changes_77 k521 n521 (by omega) rfl (fun ⟨ra_77, rb_77⟩ => ?_)
                refine A_iload hG 6 dX12_changes_78 rfl ?_
                refine A_icmp_ge hG 93 dX12_changes_80 (by decide) (by constructor <;> omega) (by constructor <;> omega) (fun c_80 => ?_) (fun c_80 => ?_)
                ·
                  refine A_iload hG 6 dX12_changes_93 rfl ?_
                  refine A_istore (L' := [(5, vI x), (7, vI 3), (0, .ref 500), (1, vI u), (2, vI v), (3, vI (4 * u)), (4, vI (4 * v)), (6, vI c)]) hG dX12_changes_95 (by decide) rfl ?_
                  refine A_iinc (L' := [(6, vI (c + 1)), (5, vI x), (7, vI 3), (0, .ref 500), (1, vI u), (2, vI v), (3, vI (4 * u)), (4, vI (4 * v))]) hG 7 dX12_changes_97 rfl (by decide) rfl ?_
                  refine A_goto hG 16 dX12_changes_100 (by decide) ?_
                  refine A_sub hG [3, 4, 5, 6, 7, 1, 0] rfl ?_
                  exact ih_c x (c + 1) (by omega) (by omega) (by omega)
                ·
                  refine A_aload_n hG 1 dX12_changes_83 rfl rfl ?_
                  refine A_getR (r := 521) hG dX12_changes_84 fl_X12_59 (by decide) k500 (by decide) rfl ?_
                  refine A_iload hG 7 dX12_changes_87 rfl ?_
                  refine M_iald (v := h.1 521 c) hG dX12_changes_89 k521 n521 (by omega) rfl (fun ⟨ra_89, rb_89⟩ => ?_)
                  refine A_goto hG 95 dX12_changes_90 (by decide) ?_
                  refine A_istore (L' := [(5, vI (h.1 521 c)), (7, vI 3), (0, .ref 500), (1, vI u), (2, vI v), (3, vI (4 * u)), (4, vI (4 * v)), (6, vI c)]) hG dX12_changes_95 (by decide) rfl ?_
                  refine A_iinc (L' := [(6, vI (c + 1)), (5, vI (h.1 521 c)), (7, vI 3), (0, .ref 500), (1, vI u), (2, vI v), (3, vI (4 * u)), (4, vI (4 * v))]) hG 7 dX12_changes_97 rfl (by decide) rfl ?_
                  refine A_goto hG 16 dX12_changes_100 (by decide) ?_
                  refine A_sub hG [3, 4, 5, 6, 7, 1, 0] rfl ?_
                  exact ih_c (h.1 521 c) (c + 1) (by omega) (by omega) (by omega)
          ·
            refine A_iconst (n := 2) hG dX12_changes_32 ?_
            refine A_goto hG 47 dX12_changes_33 (by decide) ?_
            refine A_istore (L' := [(7, vI 2), (0, .ref 500), (1, vI u), (2, vI v), (3, vI (4 * u)), (4, vI (4 * v)), (5, vI x), (6, vI c)]) hG dX12_changes_47 (by decide) rfl ?_
            refine A_aload_n hG 1 dX12_changes_49 rfl rfl ?_
            refine A_getR (r := 504) hG dX12_changes_50 fl_X12_16 (by decide) k500 (by decide) rfl ?_
            refine A_iload_n hG 4 dX12_changes_53 rfl rfl ?_
            refine A_iload hG 0 dX12_changes_54 rfl ?_
            refine A_iadd hG dX12_changes_56 ?_
            refine M_iald (v := h.1 504 ((4 * u) + 2)) hG dX12_changes_57 k504 n504 (by omega) rfl (fun ⟨ra_57, rb_57⟩ => ?_)
            refine A_aload_n hG 1 dX12_changes_58 rfl rfl ?_
            refine A_getR (r := 504) hG dX12_changes_59 fl_X12_16 (by decide) k500 (by decide) rfl ?_
            refine A_iload hG 5 dX12_changes_62 rfl ?_
            refine A_iload hG 0 dX12_changes_64 rfl ?_
            refine A_iadd hG dX12_changes_66 ?_
            refine M_iald (v := h.1 504 ((4 * v) + 2)) hG dX12_changes_67 k504 n504 (by omega) rfl (fun ⟨ra_67, rb_67⟩ => ?_)
            refine A_icmp_ne hG 93 dX12_changes_68 (by decide) (by constructor <;> omega) (by constructor <;> omega) (fun c_68 => ?_) (fun c_68 => ?_)
            ·
              refine A_iload hG 6 dX12_changes_93 rfl ?_
              refine A_istore (L' := [(5, vI x), (7, vI 2), (0, .ref 500), (1, vI u), (2, vI v), (3, vI (4 * u)), (4, vI (4 * v)), (6, vI c)]) hG dX12_changes_95 (by decide) rfl ?_
              refine A_iinc (L' := [(6, vI (c + 1)), (5, vI x), (7, vI 2), (0, .ref 500), (1, vI u), (2, vI v), (3, vI (4 * u)), (4, vI (4 * v))]) hG 7 dX12_changes_97 rfl (by decide) rfl ?_
              refine A_goto hG 16 dX12_changes_100 (by decide) ?_
              refine A_sub hG [3, 4, 5, 6, 7, 1, 0] rfl ?_
              exact ih_c x (c + 1) (by omega) (by omega) (by omega)
            ·
              refine A_aload_n hG 1 dX12_changes_71 rfl rfl ?_
              refine A_getR (r := 521) hG dX12_changes_72 fl_X12_59 (by decide) k500 (by decide) rfl ?_
              refine A_iload hG 7 dX12_changes_75 rfl ?_
              refine M_iald (v := h.1 521 c) hG dX12_changes_77 k521 n521 (by omega) rfl (fun ⟨ra_77, rb_77⟩ => ?_)
              refine A_iload hG 6 dX12_changes_78 rfl ?_
              refine A_icmp_ge hG 93 dX12_changes_80 (by decide) (by constructor <;> omega) (by constructor <;> omega) (fun c_80 => ?_) (fun c_80 => ?_)
              ·
                refine A_iload hG 6 dX12_changes_93 rfl ?_
                refine A_istore (L' := [(5, vI x), (7, vI 2), (0, .ref 500), (1, vI u), (2, vI v), (3, vI (4 * u)), (4, vI (4 * v)), (6, vI c)]) hG dX12_changes_95 (by decide) rfl ?_
                refine A_iinc (L' := [(6, vI (c + 1)), (5, vI x), (7, vI 2), (0, .ref 500), (1, vI u), (2, vI v), (3, vI (4 * u)), (4, vI (4 * v))]) hG 7 dX12_changes_97 rfl (by decide) rfl ?_
                refine A_goto hG 16 dX12_changes_100 (by decide) ?_
                refine A_sub hG [3, 4, 5, 6, 7, 1, 0] rfl ?_
                exact ih_c x (c + 1) (by omega) (by omega) (by omega)
              ·
                refine A_aload_n hG 1 dX12_changes_83 rfl rfl ?_
                refine A_getR (r := 521) hG dX12_changes_84 fl_X12_59 (by decide) k500 (by decide) rfl ?_
                refine A_iload hG 7 dX12_changes_87 rfl ?_
                refine M_iald (v := h.1 521 c) hG dX12_changes_89 k521 n521 (by omega) rfl (fun ⟨ra_89, rb_89⟩ => ?_)
                refine A_goto hG 95 dX12_changes_90 (by decide) ?_
                refine A_istore (L' := [(5, vI (h.1 521 c)), (7, vI 2), (0, .ref 500), (1, vI u), (2, vI v), (3, vI (4 * u)), (4, vI (4 * v)), (6, vI c)]) hG dX12_changes_95 (by decide) rfl ?_
                refine A_iinc (L' := [(6, vI (c + 1)), (5, vI (h.1 521 c)), (7, vI 2), (0, .ref 500), (1, vI u), (2, vI v), (3, vI (4 * u)), (4, vI (4 * v))]) hG 7 dX12_changes_97 rfl (by decide) rfl ?_
                refine A_goto hG 16 dX12_changes_100 (by decide) ?_
                refine A_sub hG [3, 4, 5, 6, 7, 1, 0] rfl ?_
                exact ih_c (h.1 521 c) (c + 1) (by omega) (by omega) (by omega)
  refine A_sub hG [4, 5, 6, 3, 2, 1, 0] rfl ?_
  exact c_0 _ 100000 0 (by omega) (by omega) (Nat.lt_succ_self _)

set_option maxHeartbeats 2000000 in
set_option maxRecDepth 20000 in
theorem r_costAt (h : AH) {a b : Int} (ha : 0 ≤ a ∧ a ≤ 10) (hb : 0 ≤ b ∧ b ≤ 10) : AMet yX12_costAt cX12_costAt 3 (some .int) 0 0 [.ref 500, vI a, vI b] h (Qi (fun z h' => z = 40 * (10 * a + b) ∧ h' = h)) := by
  refine AMet.of (by decide) (Nat.le_of_ble_eq_true rfl) (fun G hM => ?_)
  have hG := hM.cx
  refine A_hm0 (G := G) (L := [(0, .ref 500), (1, vI a), (2, vI b)]) ?_
  refine A_bipush (n := 40) hG dX12_costAt_0 (by decide) ?_
  refine A_bipush (n := 10) hG dX12_costAt_2 (by decide) ?_
  refine A_iload_n hG 1 dX12_costAt_4 rfl rfl ?_
  refine A_imul hG dX12_costAt_5 ?_
  refine A_iload_n hG 2 dX12_costAt_6 rfl rfl ?_
  refine A_iadd hG dX12_costAt_7 ?_
  refine A_imul hG dX12_costAt_8 ?_
  exact Ret_i hM dX12_costAt_9 (by constructor <;> omega) (⟨rfl, rfl⟩)

set_option maxHeartbeats 2000000 in
set_option maxRecDepth 20000 in
theorem r_cheaper (h : AH) {p v : Int} (hp : 0 ≤ p ∧ p < 4050) (hv : ir v) : AMet yX12_cheaper cX12_cheaper 3 (some .boolean) 0 0 [.ref 500, vI p, vI v] h (Qi (fun z h' => ∃ f : Int → Int, ((∀ i, i ≠ p → f i = h.1 520 i) ∧ ((z = 0 ∧ h.1 520 p ≤ v ∧ f p = h.1 520 p) ∨ (z = 1 ∧ v < h.1 520 p ∧ f p = v))) ∧ h' = hm h [(520, f)] [] [])) := by
  obtain ⟨hv1, hv2⟩ := hv
  refine AMet.of (by decide) (Nat.le_of_ble_eq_true rfl) (fun G hM => ?_)
  have hG := hM.cx
  refine A_hm0 (G := G) (L := [(0, .ref 500), (1, vI p), (2, vI v)]) ?_
  refine A_iload_n hG 2 dX12_cheaper_0 rfl rfl ?_
  refine A_aload_n hG 0 dX12_cheaper_1 rfl rfl ?_
  refine A_getR (r := 520) hG dX12_cheaper_2 fl_X12_56 (by decide) k500 (by decide) rfl ?_
  refine A_iload_n hG 1 dX12_cheaper_5 rfl rfl ?_
  refine M_iald (v := h.1 520 p) hG dX12_cheaper_6 k520 n520 (by omega) rfl (fun ⟨ra_6, rb_6⟩ => ?_)
  refine A_icmp_lt hG 12 dX12_cheaper_7 (by decide) (by constructor <;> omega) (by constructor <;> omega) (fun c_7 => ?_) (fun c_7 => ?_)
  ·
    refine A_aload_n hG 0 dX12_cheaper_12 rfl rfl ?_
    refine A_getR (r := 520) hG dX12_cheaper_13 fl_X12_56 (by decide) k500 (by decide) rfl ?_
    refine A_iload_n hG 1 dX12_cheaper_16 rfl rfl ?_
    refine A_iload_n hG 2 dX12_cheaper_17 rfl rfl ?_
    refine M_iast (li' := [(520, up (h.1 520) p v)]) hG dX12_cheaper_18 k520 n520 (by omega) (by constructor <;> omega) rfl ?_
    refine A_iconst (n := 1) hG dX12_cheaper_19 ?_
    exact Ret_z hM dX12_cheaper_20 (by omega) (⟨_, ⟨fun i hi => up_ne _ _ hi, Or.inr ⟨rfl, c_7, up_eq _ _ _⟩⟩, rfl⟩)
  ·
    refine A_iconst (n := 0) hG dX12_cheaper_10 ?_
    exact Ret_z hM dX12_cheaper_11 (by omega) (⟨h.1 520, ⟨fun _ _ => rfl, Or.inl ⟨rfl, c_7, rfl⟩⟩, (hm_selfI h 520).symm⟩)

end
