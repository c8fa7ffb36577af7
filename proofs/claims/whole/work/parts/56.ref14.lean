/-! the reference: keep, look, isRight (printed by gen) -/
section
set_option maxHeartbeats 2000000 in
set_option maxRecDepth 20000 in
theorem r_look (h : AH) {k : Int} (hk : 0 ≤ k ∧ k < 12) : AMet yX12_look cX12_look 3 none 0 0 [.ref 500, vI k] h (Qv (fun h' => ∃ f : Int → Int, ((∀ j, 0 ≤ j → j < 8 → f (80 + j) = h.1 513 (16 * k + j)) ∧ ∀ j, j < 80 ∨ 88 ≤ j → f j = h.1 509 j) ∧ h' = hm h [(508, up (h.1 508) 8 (h.1 512 (2 * k))), (510, up (h.1 510) 8 0), (509, f)] [] [])) := by
  refine AMet.of (by decide) (Nat.le_of_ble_eq_true rfl) (fun G hM => ?_)
  have hG := hM.cx
  refine A_hm0 (G := G) (L := [(0, .ref 500), (1, vI k)]) ?_
  refine A_aload_n hG 0 dX12_look_0 rfl rfl ?_
  refine A_getR (r := 508) hG dX12_look_1 fl_X12_28 (by decide) k500 (by decide) rfl ?_
  refine A_bipush (n := 8) hG dX12_look_4 (by decide) ?_
  refine A_aload_n hG 0 dX12_look_6 rfl rfl ?_
  refine A_getR (r := 512) hG dX12_look_7 fl_X12_37 (by decide) k500 (by decide) rfl ?_
  refine A_iconst (n := 2) hG dX12_look_10 ?_
  refine A_iload_n hG 1 dX12_look_11 rfl rfl ?_
  refine A_imul hG dX12_look_12 ?_
  refine M_iald (v := h.1 512 (2 * k)) hG dX12_look_13 k512 n512 (by omega) rfl (fun ⟨ra_13, rb_13⟩ => ?_)
  refine M_iast (li' := [(508, up (h.1 508) 8 (h.1 512 (2 * k)))]) hG dX12_look_14 k508 n508 (by omega) (by constructor <;> omega) rfl ?_
  refine A_aload_n hG 0 dX12_look_15 rfl rfl ?_
  refine A_getR (r := 510) hG dX12_look_16 fl_X12_34 (by decide) k500 (by decide) rfl ?_
  refine A_bipush (n := 8) hG dX12_look_19 (by decide) ?_
  refine A_iconst (n := 0) hG dX12_look_21 ?_
  refine M_iast (li' := [(508, up (h.1 508) 8 (h.1 512 (2 * k))), (510, up (h.1 510) 8 0)]) hG dX12_look_22 k510 n510 (by omega) (by constructor <;> omega) rfl ?_
  refine A_iconst (n := 0) hG dX12_look_23 ?_
  refine A_istore_n (L' := [(2, vI 0), (0, .ref 500), (1, vI k)]) hG dX12_look_24 rfl (by decide) rfl ?_
  refine A_insI 509 (li' := [(508, up (h.1 508) 8 (h.1 512 (2 * k))), (510, up (h.1 510) 8 0), (509, h.1 509)]) rfl ?_
  have i_0 : ∀ fu : Nat, ∀ (i : Int) (f : Int → Int), (0 ≤ i ∧ i ≤ 8) → (∀ j, 0 ≤ j → j < i → f (80 + j) = h.1 513 (16 * k + j)) → (∀ j, j < 80 ∨ 88 ≤ j → f j = h.1 509 j) → ((8 - i).toNat) < fu → G 25 [(0, .ref 500), (1, vI k), (2, vI i)] [] (hm h [(508, up (h.1 508) 8 (h.1 512 (2 * k))), (510, up (h.1 510) 8 0), (509, f)] [] []) := by
    intro fu
    induction fu with
    | zero => intro i f hi hf hf2 hfu; exact absurd hfu (Nat.not_lt_zero _)
    | succ fu ih_i =>
      intro i f hi hf hf2 hfu
      refine A_iload_n hG 2 dX12_look_25 rfl rfl ?_
      refine A_bipush (n := 8) hG dX12_look_26 (by decide) ?_
      refine A_icmp_ge hG 57 dX12_look_28 (by decide) (by constructor <;> omega) (by constructor <;> omega) (fun c_28 => ?_) (fun c_28 => ?_)
      ·
        exact Ret_v hM dX12_look_57 (⟨f, ⟨fun j j1 j2 => hf j j1 (by omega), hf2⟩, rfl⟩)
      ·
        refine A_aload_n hG 0 dX12_look_31 rfl rfl ?_
        refine A_getR (r := 509) hG dX12_look_32 fl_X12_31 (by decide) k500 (by decide) rfl ?_
        refine A_bipush (n := 80) hG dX12_look_35 (by decide) ?_
        refine A_iload_n hG 2 dX12_look_37 rfl rfl ?_
        refine A_iadd hG dX12_look_38 ?_
        refine A_aload_n hG 0 dX12_look_39 rfl rfl ?_
        refine A_getR (r := 513) hG dX12_look_40 fl_X12_40 (by decide) k500 (by decide) rfl ?_
        refine A_bipush (n := 16) hG dX12_look_43 (by decide) ?_
        refine A_iload_n hG 1 dX12_look_45 rfl rfl ?_
        refine A_imul hG dX12_look_46 ?_
        refine A_iload_n hG 2 dX12_look_47 rfl rfl ?_
        refine A_iadd hG dX12_look_48 ?_
        refine M_iald (v := h.1 513 ((16 * k) + i)) hG dX12_look_49 k513 n513 (by omega) rfl (fun ⟨ra_49, rb_49⟩ => ?_)
        refine M_iast (li' := [(508, up (h.1 508) 8 (h.1 512 (2 * k))), (510, up (h.1 510) 8 0), (509, up f (80 + i) (h.1 513 ((16 * k) + i)))]) hG dX12_look_50 k509 n509 (by omega) (by constructor <;> omega) rfl ?_
        refine A_iinc (L' := [(2, vI (i + 1)), (0, .ref 500), (1, vI k)]) hG 2 dX12_look_51 rfl (by decide) rfl ?_
        refine A_goto hG 25 dX12_look_54 (by decide) ?_
        refine A_sub hG [1, 2, 0] rfl ?_
        exact ih_i (i + 1) (up f (80 + i) (h.1 513 ((16 * k) + i))) (by omega) (fun j j1 j2 => by
            by_cases hq : j = i
            · rw [hq, up_eq]
            · rw [up_ne _ _ (by omega)]; exact hf j j1 (by omega)) (fun j hj => by rw [up_ne _ _ (by omega)]; exact hf2 j hj) (by omega)
  refine A_sub hG [1, 2, 0] rfl ?_
  exact i_0 _ 0 (h.1 509) (by omega) (fun j j1 j2 => by omega) (fun _ _ => rfl) (Nat.lt_succ_self _)

/-- the two rows of a kept one are alike so far -/
def eqT (f : Int → Int) (k i : Int) : Prop := ∀ j, 0 ≤ j → j < i → f (16 * k + j) = f (16 * k + 8 + j)
theorem eqT_0 {f : Int → Int} {k : Int} : eqT f k 0 := fun j j1 j2 => by omega
theorem eqT_s {f : Int → Int} {k i : Int} (h : eqT f k i) (e : f (16 * k + i) = f (16 * k + 8 + i)) : eqT f k (i + 1) := fun j j1 j2 => by
  by_cases hq : j = i
  · rw [hq]; exact e
  · exact h j j1 (by omega)
set_option maxHeartbeats 2000000 in
set_option maxRecDepth 20000 in
theorem r_isRight (h : AH) {k : Int} (hk : 0 ≤ k ∧ k < 12) (hl : 0 ≤ h.1 512 (2 * k) ∧ h.1 512 (2 * k) ≤ 8) : AMet yX12_isRight cX12_isRight 4 (some .boolean) 0 0 [.ref 500, vI k] h (Qi (fun z h' => ((z = 1 ∧ h.1 512 (2 * k) = h.1 512 (2 * k + 1) ∧ eqT (h.1 513) k (h.1 512 (2 * k))) ∨ (z = 0 ∧ ¬ (h.1 512 (2 * k) = h.1 512 (2 * k + 1) ∧ eqT (h.1 513) k (h.1 512 (2 * k))))) ∧ h' = h)) := by
  refine AMet.of (by decide) (Nat.le_of_ble_eq_true rfl) (fun G hM => ?_)
  have hG := hM.cx
  refine A_hm0 (G := G) (L := [(0, .ref 500), (1, vI k)]) ?_
  refine A_aload_n hG 0 dX12_isRight_0 rfl rfl ?_
  refine A_getR (r := 512) hG dX12_isRight_1 fl_X12_37 (by decide) k500 (by decide) rfl ?_
  refine A_iconst (n := 2) hG dX12_isRight_4 ?_
  refine A_iload_n hG 1 dX12_isRight_5 rfl rfl ?_
  refine A_imul hG dX12_isRight_6 ?_
  refine M_iald (v := h.1 512 (2 * k)) hG dX12_isRight_7 k512 n512 (by omega) rfl (fun ⟨ra_7, rb_7⟩ => ?_)
  refine A_aload_n hG 0 dX12_isRight_8 rfl rfl ?_
  refine A_getR (r := 512) hG dX12_isRight_9 fl_X12_37 (by decide) k500 (by decide) rfl ?_
  refine A_iconst (n := 2) hG dX12_isRight_12 ?_
  refine A_iload_n hG 1 dX12_isRight_13 rfl rfl ?_
  refine A_imul hG dX12_isRight_14 ?_
  refine A_iconst (n := 1) hG dX12_isRight_15 ?_
  refine A_iadd hG dX12_isRight_16 ?_
  refine M_iald (v := h.1 512 ((2 * k) + 1)) hG dX12_isRight_17 k512 n512 (by omega) rfl (fun ⟨ra_17, rb_17⟩ => ?_)
  refine A_icmp_ne hG 25 dX12_isRight_18 (by decide) (by constructor <;> omega) (by constructor <;> omega) (fun c_18 => ?_) (fun c_18 => ?_)
  ·
    refine A_iconst (n := 0) hG dX12_isRight_25 ?_
    refine A_istore_n (L' := [(2, vI 0), (0, .ref 500), (1, vI k)]) hG dX12_isRight_26 rfl (by decide) rfl ?_
    refine A_iconst (n := 0) hG dX12_isRight_27 ?_
    refine A_istore_n (L' := [(3, vI 0), (2, vI 0), (0, .ref 500), (1, vI k)]) hG dX12_isRight_28 rfl (by decide) rfl ?_
    have i_0 : ∀ fu : Nat, ∀ (x : Int) (i : Int), (0 ≤ i) → ((h.1 512 (2 * k) = h.1 512 (2 * k + 1) → i ≤ h.1 512 (2 * k)) ∧ i ≤ 9) → ((x = 1 ∧ h.1 512 (2 * k) = h.1 512 (2 * k + 1) ∧ eqT (h.1 513) k i) ∨ (x = 0 ∧ ¬ (h.1 512 (2 * k) = h.1 512 (2 * k + 1) ∧ eqT (h.1 513) k (h.1 512 (2 * k))))) → ((9 - i).toNat) < fu → G 29 [(0, .ref 500), (1, vI k), (2, vI x), (3, vI i)] [] (hm h [] [] []) := by
      intro fu
      induction fu with
      | zero => intro x i hi hi2 hx hfu; exact absurd hfu (Nat.not_lt_zero _)
      | succ fu ih_i =>
        intro x i hi hi2 hx hfu
        have hx01 : x = 0 ∨ x = 1 := hx.elim (fun q => Or.inr q.1) (fun q => Or.inl q.1)
        refine A_iload_n hG 3 dX12_isRight_29 rfl rfl ?_
        refine A_aload_n hG 0 dX12_isRight_30 rfl rfl ?_
        refine A_getR (r := 512) hG dX12_isRight_31 fl_X12_37 (by decide) k500 (by decide) rfl ?_
        refine A_iconst (n := 2) hG dX12_isRight_34 ?_
        refine A_iload_n hG 1 dX12_isRight_35 rfl rfl ?_
        refine A_imul hG dX12_isRight_36 ?_
        refine M_iald (v := h.1 512 (2 * k)) hG dX12_isRight_37 k512 n512 (by omega) rfl (fun ⟨ra_37, rb_37⟩ => ?_)
        refine A_icmp_ge hG 85 dX12_isRight_38 (by decide) (by constructor <;> omega) (by constructor <;> omega) (fun c_38 => ?_) (fun c_38 => ?_)
        ·
          refine A_iload_n hG 2 dX12_isRight_85 rfl rfl ?_
          exact Ret_z hM dX12_isRight_86 hx01 (⟨by
              rcases hx with q | q
              · exact Or.inl ⟨q.1, q.2.1, fun j j1 j2 => q.2.2 j j1 (by have := hx01; first | omega | (have hii := hi2.1 q.2.1; omega))⟩
              · exact Or.inr q, rfl⟩)
        ·
          refine A_iload_n hG 2 dX12_isRight_41 rfl rfl ?_
          refine A_if_eq hG 85 dX12_isRight_42 (by decide) (by constructor <;> omega) (fun c_42 => ?_) (fun c_42 => ?_)
          ·
            refine A_iload_n hG 2 dX12_isRight_85 rfl rfl ?_
            exact Ret_z hM dX12_isRight_86 hx01 (⟨by
                rcases hx with q | q
                · exact Or.inl ⟨q.1, q.2.1, fun j j1 j2 => q.2.2 j j1 (by have := hx01; first | omega | (have hii := hi2.1 q.2.1; omega))⟩
                · exact Or.inr q, rfl⟩)
          ·
            refine A_aload_n hG 0 dX12_isRight_45 rfl rfl ?_
            refine A_getR (r := 513) hG dX12_isRight_46 fl_X12_40 (by decide) k500 (by decide) rfl ?_
            refine A_bipush (n := 16) hG dX12_isRight_49 (by decide) ?_
            refine A_iload_n hG 1 dX12_isRight_51 rfl rfl ?_
            refine A_imul hG dX12_isRight_52 ?_
            refine A_iload_n hG 3 dX12_isRight_53 rfl rfl ?_
            refine A_iadd hG dX12_isRight_54 ?_
            refine M_iald (v := h.1 513 ((16 * k) + i)) hG dX12_isRight_55 k513 n513 (by omega) rfl (fun ⟨ra_55, rb_55⟩ => ?_)
            refine A_aload_n hG 0 dX12_isRight_56 rfl rfl ?_
            refine A_getR (r := 513) hG dX12_isRight_57 fl_X12_40 (by decide) k500 (by decide) rfl ?_
            refine A_bipush (n := 16) hG dX12_isRight_60 (by decide) ?_
            refine A_iload_n hG 1 dX12_isRight_62 rfl rfl ?_
            refine A_imul hG dX12_isRight_63 ?_
            refine A_bipush (n := 8) hG dX12_isRight_64 (by decide) ?_
            refine A_iadd hG dX12_isRight_66 ?_
            refine A_iload_n hG 3 dX12_isRight_67 rfl rfl ?_
            refine A_iadd hG dX12_isRight_68 ?_
            refine M_iald (v := h.1 513 (((16 * k) + 8) + i)) hG dX12_isRight_69 k513 n513 (by omega) rfl (fun ⟨ra_69, rb_69⟩ => ?_)
            refine A_icmp_ne hG 77 dX12_isRight_70 (by decide) (by constructor <;> omega) (by constructor <;> omega) (fun c_70 => ?_) (fun c_70 => ?_)
            ·
              refine A_iconst (n := 0) hG dX12_isRight_77 ?_
              refine A_istore_n (L' := [(2, vI 0), (0, .ref 500), (1, vI k), (3, vI i)]) hG dX12_isRight_78 rfl (by decide) rfl ?_
              refine A_iinc (L' := [(3, vI (i + 1)), (2, vI 0), (0, .ref 500), (1, vI k)]) hG 3 dX12_isRight_79 rfl (by decide) rfl ?_
              refine A_goto hG 29 dX12_isRight_82 (by decide) ?_
              refine A_sub hG [2, 3, 1, 0] rfl ?_
              exact ih_i 0 (i + 1) (by omega) (by omega) (Or.inr ⟨rfl, fun q => c_70 (q.2 i (by omega) (by omega))⟩) (by omega)
            ·
              refine A_iconst (n := 1) hG dX12_isRight_73 ?_
              refine A_goto hG 78 dX12_isRight_74 (by decide) ?_
              refine A_istore_n (L' := [(2, vI 1), (0, .ref 500), (1, vI k), (3, vI i)]) hG dX12_isRight_78 rfl (by decide) rfl ?_
              refine A_iinc (L' := [(3, vI (i + 1)), (2, vI 1), (0, .ref 500), (1, vI k)]) hG 3 dX12_isRight_79 rfl (by decide) rfl ?_
              refine A_goto hG 29 dX12_isRight_82 (by decide) ?_
              refine A_sub hG [2, 3, 1, 0] rfl ?_
              exact ih_i 1 (i + 1) (by omega) (by omega) (Or.inl ⟨rfl, (hx.resolve_right (fun q => c_42 q.1)).2.1, eqT_s (hx.resolve_right (fun q => c_42 q.1)).2.2 c_70⟩) (by omega)
    refine A_sub hG [2, 3, 1, 0] rfl ?_
    exact i_0 _ 0 0 (by omega) (by omega) (Or.inr ⟨rfl, fun q => c_18 q.1⟩) (Nat.lt_succ_self _)
  ·
    refine A_iconst (n := 1) hG dX12_isRight_21 ?_
    refine A_goto hG 26 dX12_isRight_22 (by decide) ?_
    refine A_istore_n (L' := [(2, vI 1), (0, .ref 500), (1, vI k)]) hG dX12_isRight_26 rfl (by decide) rfl ?_
    refine A_iconst (n := 0) hG dX12_isRight_27 ?_
    refine A_istore_n (L' := [(3, vI 0), (2, vI 1), (0, .ref 500), (1, vI k)]) hG dX12_isRight_28 rfl (by decide) rfl ?_
    have i_1 : ∀ fu : Nat, ∀ (x : Int) (i : Int), (0 ≤ i) → ((h.1 512 (2 * k) = h.1 512 (2 * k + 1) → i ≤ h.1 512 (2 * k)) ∧ i ≤ 9) → ((x = 1 ∧ h.1 512 (2 * k) = h.1 512 (2 * k + 1) ∧ eqT (h.1 513) k i) ∨ (x = 0 ∧ ¬ (h.1 512 (2 * k) = h.1 512 (2 * k + 1) ∧ eqT (h.1 513) k (h.1 512 (2 * k))))) → ((9 - i).toNat) < fu → G 29 [(0, .ref 500), (1, vI k), (2, vI x), (3, vI i)] [] (hm h [] [] []) := by
      intro fu
      induction fu with
      | zero => intro x i hi hi2 hx hfu; exact absurd hfu (Nat.not_lt_zero _)
      | succ fu ih_i =>
        intro x i hi hi2 hx hfu
        have hx01 : x = 0 ∨ x = 1 := hx.elim (fun q => Or.inr q.1) (fun q => Or.inl q.1)
        refine A_iload_n hG 3 dX12_isRight_29 rfl rfl ?_
        refine A_aload_n hG 0 dX12_isRight_30 rfl rfl ?_
        refine A_getR (r := 512) hG dX12_isRight_31 fl_X12_37 (by decide) k500 (by decide) rfl ?_
        refine A_iconst (n := 2) hG dX12_isRight_34 ?_
        refine A_iload_n hG 1 dX12_isRight_35 rfl rfl ?_
        refine A_imul hG dX12_isRight_36 ?_
        refine M_iald (v := h.1 512 (2 * k)) hG dX12_isRight_37 k512 n512 (by omega) rfl (fun ⟨ra_37, rb_37⟩ => ?_)
        refine A_icmp_ge hG 85 dX12_isRight_38 (by decide) (by constructor <;> omega) (by constructor <;> omega) (fun c_38 => ?_) (fun c_38 => ?_)
        ·
          refine A_iload_n hG 2 dX12_isRight_85 rfl rfl ?_
          exact Ret_z hM dX12_isRight_86 hx01 (⟨by
              rcases hx with q | q
              · exact Or.inl ⟨q.1, q.2.1, fun j j1 j2 => q.2.2 j j1 (by have := hx01; first | omega | (have hii := hi2.1 q.2.1; omega))⟩
              · exact Or.inr q, rfl⟩)
        ·
          refine A_iload_n hG 2 dX12_isRight_41 rfl rfl ?_
          refine A_if_eq hG 85 dX12_isRight_42 (by decide) (by constructor <;> omega) (fun c_42 => ?_) (fun c_42 => ?_)
          ·
            refine A_iload_n hG 2 dX12_isRight_85 rfl rfl ?_
            exact Ret_z hM dX12_isRight_86 hx01 (⟨by
                rcases hx with q | q
                · exact Or.inl ⟨q.1, q.2.1, fun j j1 j2 => q.2.2 j j1 (by have := hx01; first | omega | (have hii := hi2.1 q.2.1; omega))⟩
                · exact Or.inr q, rfl⟩)
          ·
            refine A_aload_n hG 0 dX12_isRight_45 rfl rfl ?_
            refine A_getR (r := 513) hG dX12_isRight_46 fl_X12_40 (by decide) k500 (by decide) rfl ?_
            refine A_bipush (n := 16) hG dX12_isRight_49 (by decide) ?_
            refine A_iload_n hG 1 dX12_isRight_51 rfl rfl ?_
            refine A_imul hG dX12_isRight_52 ?_
            refine A_iload_n hG 3 dX12_isRight_53 rfl rfl ?_
            refine A_iadd hG dX12_isRight_54 ?_
            refine M_iald (v := h.1 513 ((16 * k) + i)) hG dX12_isRight_55 k513 n513 (by omega) rfl (fun ⟨ra_55, rb_55⟩ => ?_)
            refine A_aload_n hG 0 dX12_isRight_56 rfl rfl ?_
            refine A_getR (r := 513) hG dX12_isRight_57 fl_X12_40 (by decide) k500 (by decide) rfl ?_
            refine A_bipush (n := 16) hG dX12_isRight_60 (by decide) ?_
            refine A_iload_n hG 1 dX12_isRight_62 rfl rfl ?_
            refine A_imul hG dX12_isRight_63 ?_
            refine A_bipush (n := 8) hG dX12_isRight_64 (by decide) ?_
            refine A_iadd hG dX12_isRight_66 ?_
            refine A_iload_n hG 3 dX12_isRight_67 rfl rfl ?_
            refine A_iadd hG dX12_isRight_68 ?_
            refine M_iald (v := h.1 513 (((16 * k) + 8) + i)) hG dX12_isRight_69 k513 n513 (by omega) rfl (fun ⟨ra_69, rb_69⟩ => ?_)
            refine A_icmp_ne hG 77 dX12_isRight_70 (by decide) (by constructor <;> omega) (by constructor <;> omega) (fun c_70 => ?_) (fun c_70 => ?_)
            ·
              refine A_iconst (n := 0) hG dX12_isRight_77 ?_
              refine A_istore_n (L' := [(2, vI 0), (0, .ref 500), (1, vI k), (3, vI i)]) hG dX12_isRight_78 rfl (by decide) rfl ?_
              refine A_iinc (L' := [(3, vI (i + 1)), (2, vI 0), (0, .ref 500), (1, vI k)]) hG 3 dX12_isRight_79 rfl (by decide) rfl ?_
              refine A_goto hG 29 dX12_isRight_82 (by decide) ?_
              refine A_sub hG [2, 3, 1, 0] rfl ?_
              exact ih_i 0 (i + 1) (by omega) (by omega) (Or.inr ⟨rfl, fun q => c_70 (q.2 i (by omega) (by omega))⟩) (by omega)
            ·
              refine A_iconst (n := 1) hG dX12_isRight_73 ?_
              refine A_goto hG 78 dX12_isRight_74 (by decide) ?_
              refine A_istore_n (L' := [(2, vI 1), (0, .ref 500), (1, vI k), (3, vI i)]) hG dX12_isRight_78 rfl (by decide) rfl ?_
              refine A_iinc (L' := [(3, vI (i + 1)), (2, vI 1), (0, .ref 500), (1, vI k)]) hG 3 dX12_isRight_79 rfl (by decide) rfl ?_
              refine A_goto hG 29 dX12_isRight_82 (by decide) ?_
              refine A_sub hG [2, 3, 1, 0] rfl ?_
              exact ih_i 1 (i + 1) (by omega) (by omega) (Or.inl ⟨rfl, (hx.resolve_right (fun q => c_42 q.1)).2.1, eqT_s (hx.resolve_right (fun q => c_42 q.1)).2.2 c_70⟩) (by omega)
    refine A_sub hG [2, 3, 1, 0] rfl ?_
    exact i_1 _ 1 0 (by omega) (by omega) (Or.inl ⟨rfl, c_18, eqT_0⟩) (Nat.lt_succ_self _)

set_option maxHeartbeats 2000000 in
set_option maxRecDepth 20000 in
theorem r_keep (h : AH) {s t : Int} (hs : ir s) (ht : ir t) (hn : 0 ≤ h.1 500 10 ∧ h.1 500 10 ≤ 12) : AMet yX12_keep cX12_keep 4 (some .int) 2 45 [.ref 500, vI s, vI t] h (Qi (fun z h' => (z = -1 ∧ (s < 0 ∨ 7 < s ∨ t < 0 ∨ 7 < t) ∧ h' = h) ∨ (z = -2 ∧ (0 ≤ s ∧ s ≤ 7 ∧ 0 ≤ t ∧ t ≤ 7) ∧ (h.1 508 s = 0 ∨ h.1 508 t = 0) ∧ h' = h) ∨ (z = -3 ∧ (0 ≤ s ∧ s ≤ 7 ∧ 0 ≤ t ∧ t ≤ 7) ∧ h.1 508 s ≠ 0 ∧ h.1 508 t ≠ 0 ∧ h.1 500 10 = 12 ∧ h' = h) ∨ (∃ f : Int → Int, ((0 ≤ s ∧ s ≤ 7 ∧ 0 ≤ t ∧ t ≤ 7) ∧ h.1 508 s ≠ 0 ∧ h.1 508 t ≠ 0 ∧ h.1 500 10 ≠ 12 ∧ z = h.1 500 10 ∧ (∀ j, 0 ≤ j → j < 8 → f (16 * h.1 500 10 + j) = h.1 509 (10 * s + j) ∧ f (16 * h.1 500 10 + 8 + j) = h.1 509 (10 * t + j)) ∧ ∀ j, j < 16 * h.1 500 10 → f j = h.1 513 j) ∧ h' = hm h [(512, up (up (h.1 512) (2 * h.1 500 10) (h.1 508 s)) (2 * h.1 500 10 + 1) (h.1 508 t)), (513, f), (500, up (h.1 500) 10 (h.1 500 10 + 1))] [] []))) := by
  obtain ⟨hs1, hs2⟩ := hs
  obtain ⟨ht1, ht2⟩ := ht
  refine AMet.of (by decide) (Nat.le_of_ble_eq_true rfl) (fun G hM => ?_)
  have hG := hM.cx
  refine A_hm0 (G := G) (L := [(0, .ref 500), (1, vI s), (2, vI t)]) ?_
  refine A_iload_n hG 1 dX12_keep_0 rfl rfl ?_
  refine C_Si (as := [vI s]) (st := []) hG dX12_keep_1 ml_X12_134 mf_X12_isSentence ms_X12_isSentence (r_isSentence (hm h [] [] []) (by constructor <;> omega)) (by decide) (by decide) rfl rfl (Nat.le_of_ble_eq_true rfl) (fun z1 g1 ri_1 hp_1 => ?_)
  obtain ⟨ra_1, rb_1⟩ := ri_1
  obtain ⟨hz1, rfl⟩ := hp_1
  refine A_if_eq hG 14 dX12_keep_4 (by decide) (by constructor <;> omega) (fun c_4 => ?_) (fun c_4 => ?_)
  ·
    refine A_iconst (n := -1) hG dX12_keep_14 ?_
    exact Ret_i hM dX12_keep_15 (by constructor <;> omega) (Or.inl ⟨rfl, by omega, rfl⟩)
  ·
    refine A_iload_n hG 2 dX12_keep_7 rfl rfl ?_
    refine C_Si (as := [vI t]) (st := []) hG dX12_keep_8 ml_X12_134 mf_X12_isSentence ms_X12_isSentence (r_isSentence (hm h [] [] []) (by constructor <;> omega)) (by decide) (by decide) rfl rfl (Nat.le_of_ble_eq_true rfl) (fun z8 g8 ri_8 hp_8 => ?_)
    obtain ⟨ra_8, rb_8⟩ := ri_8
    obtain ⟨hz8, rfl⟩ := hp_8
    refine A_if_ne hG 16 dX12_keep_11 (by decide) (by constructor <;> omega) (fun c_11 => ?_) (fun c_11 => ?_)
    ·
      refine A_aload_n hG 0 dX12_keep_16 rfl rfl ?_
      refine A_getR (r := 508) hG dX12_keep_17 fl_X12_28 (by decide) k500 (by decide) rfl ?_
      refine A_iload_n hG 1 dX12_keep_20 rfl rfl ?_
      refine M_iald (v := h.1 508 s) hG dX12_keep_21 k508 n508 (by omega) rfl (fun ⟨ra_21, rb_21⟩ => ?_)
      refine A_if_eq hG 34 dX12_keep_22 (by decide) (by constructor <;> omega) (fun c_22 => ?_) (fun c_22 => ?_)
      ·
        refine A_bipush (n := -2) hG dX12_keep_34 (by decide) ?_
        exact Ret_i hM dX12_keep_36 (by constructor <;> omega) (Or.inr (Or.inl ⟨rfl, by omega, by omega, rfl⟩))
      ·
        refine A_aload_n hG 0 dX12_keep_25 rfl rfl ?_
        refine A_getR (r := 508) hG dX12_keep_26 fl_X12_28 (by decide) k500 (by decide) rfl ?_
        refine A_iload_n hG 2 dX12_keep_29 rfl rfl ?_
        refine M_iald (v := h.1 508 t) hG dX12_keep_30 k508 n508 (by omega) rfl (fun ⟨ra_30, rb_30⟩ => ?_)
        refine A_if_ne hG 37 dX12_keep_31 (by decide) (by constructor <;> omega) (fun c_31 => ?_) (fun c_31 => ?_)
        ·
          refine A_aload_n hG 0 dX12_keep_37 rfl rfl ?_
          refine M_getI (z := 10) (v := h.1 500 10) hG dX12_keep_38 fl_X12_117 (by decide) k500 rfl rfl rfl (fun ⟨ra_38, rb_38⟩ => ?_)
          refine A_bipush (n := 12) hG dX12_keep_41 (by decide) ?_
          refine A_icmp_ne hG 49 dX12_keep_43 (by decide) (by constructor <;> omega) (by constructor <;> omega) (fun c_43 => ?_) (fun c_43 => ?_)
          ·
            refine A_aload_n hG 0 dX12_keep_49 rfl rfl ?_
            refine A_getR (r := 512) hG dX12_keep_50 fl_X12_37 (by decide) k500 (by decide) rfl ?_
            refine A_iconst (n := 2) hG dX12_keep_53 ?_
            refine A_aload_n hG 0 dX12_keep_54 rfl rfl ?_
            refine M_getI (z := 10) (v := h.1 500 10) hG dX12_keep_55 fl_X12_117 (by decide) k500 rfl rfl rfl (fun ⟨ra_55, rb_55⟩ => ?_)
            refine A_imul hG dX12_keep_58 ?_
            refine A_aload_n hG 0 dX12_keep_59 rfl rfl ?_
            refine A_getR (r := 508) hG dX12_keep_60 fl_X12_28 (by decide) k500 (by decide) rfl ?_
            refine A_iload_n hG 1 dX12_keep_63 rfl rfl ?_
            refine M_iald (v := h.1 508 s) hG dX12_keep_64 k508 n508 (by omega) rfl (fun ⟨ra_64, rb_64⟩ => ?_)
            refine M_iast (li' := [(512, up (h.1 512) (2 * (h.1 500 10)) (h.1 508 s))]) hG dX12_keep_65 k512 n512 (by omega) (by constructor <;> omega) rfl ?_
            refine A_aload_n hG 0 dX12_keep_66 rfl rfl ?_
            refine A_getR (r := 512) hG dX12_keep_67 fl_X12_37 (by decide) k500 (by decide) rfl ?_
            refine A_iconst (n := 2) hG dX12_keep_70 ?_
            refine A_aload_n hG 0 dX12_keep_71 rfl rfl ?_
            refine M_getI (z := 10) (v := h.1 500 10) hG dX12_keep_72 fl_X12_117 (by decide) k500 rfl rfl rfl (fun ⟨ra_72, rb_72⟩ => ?_)
            refine A_imul hG dX12_keep_75 ?_
            refine A_iconst (n := 1) hG dX12_keep_76 ?_
            refine A_iadd hG dX12_keep_77 ?_
            refine A_aload_n hG 0 dX12_keep_78 rfl rfl ?_
            refine A_getR (r := 508) hG dX12_keep_79 fl_X12_28 (by decide) k500 (by decide) rfl ?_
            refine A_iload_n hG 2 dX12_keep_82 rfl rfl ?_
            refine M_iald (v := h.1 508 t) hG dX12_keep_83 k508 n508 (by omega) rfl (fun ⟨ra_83, rb_83⟩ => ?_)
            refine M_iast (li' := [(512, up (up (h.1 512) (2 * (h.1 500 10)) (h.1 508 s)) ((2 * (h.1 500 10)) + 1) (h.1 508 t))]) hG dX12_keep_84 k512 n512 (by omega) (by constructor <;> omega) rfl ?_
            refine A_iconst (n := 0) hG dX12_keep_85 ?_
            refine A_istore_n (L' := [(3, vI 0), (0, .ref 500), (1, vI s), (2, vI t)]) hG dX12_keep_86 rfl (by decide) rfl ?_
            refine A_insI 513 (li' := [(512, up (up (h.1 512) (2 * (h.1 500 10)) (h.1 508 s)) ((2 * (h.1 500 10)) + 1) (h.1 508 t)), (513, h.1 513)]) rfl ?_
            have i_2 : ∀ fu : Nat, ∀ (i : Int) (f : Int → Int), (0 ≤ i ∧ i ≤ 8) → (∀ j, 0 ≤ j → j < i → f (16 * h.1 500 10 + j) = h.1 509 (10 * s + j) ∧ f (16 * h.1 500 10 + 8 + j) = h.1 509 (10 * t + j)) → (∀ j, j < 16 * h.1 500 10 → f j = h.1 513 j) → ((8 - i).toNat) < fu → G 87 [(0, .ref 500), (1, vI s), (2, vI t), (3, vI i)] [] (hm h [(512, up (up (h.1 512) (2 * (h.1 500 10)) (h.1 508 s)) ((2 * (h.1 500 10)) + 1) (h.1 508 t)), (513, f)] [] []) := by
              intro fu
              induction fu with
              | zero => intro i f hi hf hf2 hfu; exact absurd hfu (Nat.not_lt_zero _)
              | succ fu ih_i =>
                intro i f hi hf hf2 hfu
                refine A_iload_n hG 3 dX12_keep_87 rfl rfl ?_
                refine A_bipush (n := 8) hG dX12_keep_88 (by decide) ?_
                refine A_icmp_ge hG 152 dX12_keep_90 (by decide) (by constructor <;> omega) (by constructor <;> omega) (fun c_90 => ?_) (fun c_90 => ?_)
                ·
                  refine A_aload_n hG 0 dX12_keep_152 rfl rfl ?_
                  refine A_dup hG dX12_keep_153 rfl ?_
                  refine M_getI (z := 10) (v := h.1 500 10) hG dX12_keep_154 fl_X12_117 (by decide) k500 rfl rfl rfl (fun ⟨ra_154, rb_154⟩ => ?_)
                  refine A_iconst (n := 1) hG dX12_keep_157 ?_
                  refine A_iadd hG dX12_keep_158 ?_
                  refine M_putI (z := 10) (li' := [(512, up (up (h.1 512) (2 * (h.1 500 10)) (h.1 508 s)) ((2 * (h.1 500 10)) + 1) (h.1 508 t)), (513, f), (500, up (h.1 500) 10 ((h.1 500 10) + 1))]) hG dX12_keep_159 fl_X12_117 (by decide) k500 nf_11_10 rfl rfl (by constructor <;> omega) (Or.inl rfl) rfl ?_
                  refine A_aload_n hG 0 dX12_keep_162 rfl rfl ?_
                  refine M_getI (z := 10) (v := (h.1 500 10) + 1) hG dX12_keep_163 fl_X12_117 (by decide) k500 rfl rfl (up_eq (h.1 500) 10 ((h.1 500 10) + 1)) (fun ⟨ra_163, rb_163⟩ => ?_)
                  refine A_iconst (n := 1) hG dX12_keep_166 ?_
                  refine A_isub hG dX12_keep_167 ?_
                  exact Ret_i hM dX12_keep_168 (by constructor <;> omega) (Or.inr (Or.inr (Or.inr ⟨f, ⟨by omega, by omega, by omega, by omega, by omega, fun j j1 j2 => hf j j1 (by omega), hf2⟩, rfl⟩)))
                ·
                  refine A_aload_n hG 0 dX12_keep_93 rfl rfl ?_
                  refine A_getR (r := 513) hG dX12_keep_94 fl_X12_40 (by decide) k500 (by decide) rfl ?_
                  refine A_bipush (n := 16) hG dX12_keep_97 (by decide) ?_
                  refine A_aload_n hG 0 dX12_keep_99 rfl rfl ?_
                  refine M_getI (z := 10) (v := h.1 500 10) hG dX12_keep_100 fl_X12_117 (by decide) k500 rfl rfl rfl (fun ⟨ra_100, rb_100⟩ => ?_)
                  refine A_imul hG dX12_keep_103 ?_
                  refine A_iload_n hG 3 dX12_keep_104 rfl rfl ?_
                  refine A_iadd hG dX12_keep_105 ?_
                  refine A_aload_n hG 0 dX12_keep_106 rfl rfl ?_
                  refine A_getR (r := 509) hG dX12_keep_107 fl_X12_31 (by decide) k500 (by decide) rfl ?_
                  refine A_bipush (n := 10) hG dX12_keep_110 (by decide) ?_
                  refine A_iload_n hG 1 dX12_keep_112 rfl rfl ?_
                  refine A_imul hG dX12_keep_113 ?_
                  refine A_iload_n hG 3 dX12_keep_114 rfl rfl ?_
                  refine A_iadd hG dX12_keep_115 ?_
                  refine M_iald (v := h.1 509 ((10 * s) + i)) hG dX12_keep_116 k509 n509 (by omega) rfl (fun ⟨ra_116, rb_116⟩ => ?_)
                  refine M_iast (li' := [(512, up (up (h.1 512) (2 * (h.1 500 10)) (h.1 508 s)) ((2 * (h.1 500 10)) + 1) (h.1 508 t)), (513, up f ((16 * (h.1 500 10)) + i) (h.1 509 ((10 * s) + i)))]) hG dX12_keep_117 k513 n513 (by omega) (by constructor <;> omega) rfl ?_
                  refine A_aload_n hG 0 dX12_keep_118 rfl rfl ?_
                  refine A_getR (r := 513) hG dX12_keep_119 fl_X12_40 (by decide) k500 (by decide) rfl ?_
                  refine A_bipush (n := 16) hG dX12_keep_122 (by decide) ?_
                  refine A_aload_n hG 0 dX12_keep_124 rfl rfl ?_
                  refine M_getI (z := 10) (v := h.1 500 10) hG dX12_keep_125 fl_X12_117 (by decide) k500 rfl rfl rfl (fun ⟨ra_125, rb_125⟩ => ?_)
                  refine A_imul hG dX12_keep_128 ?_
                  refine A_bipush (n := 8) hG dX12_keep_129 (by decide) ?_
                  refine A_iadd hG dX12_keep_131 ?_
                  refine A_iload_n hG 3 dX12_keep_132 rfl rfl ?_
                  refine A_iadd hG dX12_keep_133 ?_
                  refine A_aload_n hG 0 dX12_keep_134 rfl rfl ?_
                  refine A_getR (r := 509) hG dX12_keep_135 fl_X12_31 (by decide) k500 (by decide) rfl ?_
                  refine A_bipush (n := 10) hG dX12_keep_138 (by decide) ?_
                  refine A_iload_n hG 2 dX12_keep_140 rfl rfl ?_
                  refine A_imul hG dX12_keep_141 ?_
                  refine A_iload_n hG 3 dX12_keep_142 rfl rfl ?_
                  refine A_iadd hG dX12_keep_143 ?_
                  refine M_iald (v := h.1 509 ((10 * t) + i)) hG dX12_keep_144 k509 n509 (by omega) rfl (fun ⟨ra_144, rb_144⟩ => ?_)
                  refine M_iast (li' := [(512, up (up (h.1 512) (2 * (h.1 500 10)) (h.1 508 s)) ((2 * (h.1 500 10)) + 1) (h.1 508 t)), (513, up (up f ((16 * (h.1 500 10)) + i) (h.1 509 ((10 * s) + i))) (((16 * (h.1 500 10)) + 8) + i) (h.1 509 ((10 * t) + i)))]) hG dX12_keep_145 k513 n513 (by omega) (by constructor <;> omega) rfl ?_
                  refine A_iinc (L' := [(3, vI (i + 1)), (0, .ref 500), (1, vI s), (2, vI t)]) hG 3 dX12_keep_146 rfl (by decide) rfl ?_
                  refine A_goto hG 87 dX12_keep_149 (by decide) ?_
                  refine A_sub hG [1, 2, 3, 0] rfl ?_
                  exact ih_i (i + 1) (up (up f ((16 * (h.1 500 10)) + i) (h.1 509 ((10 * s) + i))) (((16 * (h.1 500 10)) + 8) + i) (h.1 509 ((10 * t) + i))) (by omega) (fun j j1 j2 => by
                      by_cases hq : j = i
                      · rw [hq, up_ne _ _ (by omega), up_eq, up_eq]; exact ⟨rfl, rfl⟩
                      · rw [up_ne _ _ (by omega), up_ne _ _ (by omega), up_ne _ _ (by omega), up_ne _ _ (by omega)]; exact hf j j1 (by omega)) (fun j hj => by rw [up_ne _ _ (by omega), up_ne _ _ (by omega)]; exact hf2 j hj) (by omega)
            refine A_sub hG [1, 2, 3, 0] rfl ?_
            exact i_2 _ 0 (h.1 513) (by omega) (fun j j1 j2 => by omega) (fun _ _ => rfl) (Nat.lt_succ_self _)
          ·
            refine A_bipush (n := -3) hG dX12_keep_46 (by decide) ?_
            exact Ret_i hM dX12_keep_48 (by constructor <;> omega) (Or.inr (Or.inr (Or.inl ⟨rfl, by omega, by omega, by omega, by omega, rfl⟩)))
        ·
          refine A_bipush (n := -2) hG dX12_keep_34 (by decide) ?_
          exact Ret_i hM dX12_keep_36 (by constructor <;> omega) (Or.inr (Or.inl ⟨rfl, by omega, by omega, rfl⟩))
    ·
      refine A_iconst (n := -1) hG dX12_keep_14 ?_
      exact Ret_i hM dX12_keep_15 (by constructor <;> omega) (Or.inl ⟨rfl, by omega, rfl⟩)

def agrR (h : AH) (r : Int) : Prop := r < h.1 505 0 ∧ h.1 506 (5 * r + 3) = 1
set_option maxHeartbeats 2000000 in
set_option maxRecDepth 20000 in
theorem r_isAgreeing (h : AH) {r : Int} (hr : 0 ≤ r ∧ r < 24) (hn : 0 ≤ h.1 505 0 ∧ h.1 505 0 ≤ 24) : AMet yX12_isAgreeing cX12_isAgreeing 2 (some .boolean) 0 0 [.ref 500, vI r] h (Qi (fun z h' => ((z = 1 ∧ agrR h r) ∨ (z = 0 ∧ ¬ agrR h r)) ∧ h' = h)) := by
  refine AMet.of (by decide) (Nat.le_of_ble_eq_true rfl) (fun G hM => ?_)
  have hG := hM.cx
  refine A_hm0 (G := G) (L := [(0, .ref 500), (1, vI r)]) ?_
  refine A_iload_n hG 1 dX12_isAgreeing_0 rfl rfl ?_
  refine A_aload_n hG 0 dX12_isAgreeing_1 rfl rfl ?_
  refine A_getR (r := 505) hG dX12_isAgreeing_2 fl_X12_19 (by decide) k500 (by decide) rfl ?_
  refine A_iconst (n := 0) hG dX12_isAgreeing_5 ?_
  refine M_iald (v := h.1 505 0) hG dX12_isAgreeing_6 k505 n505 (by omega) rfl (fun ⟨ra_6, rb_6⟩ => ?_)
  refine A_icmp_ge hG 28 dX12_isAgreeing_7 (by decide) (by constructor <;> omega) (by constructor <;> omega) (fun c_7 => ?_) (fun c_7 => ?_)
  ·
    refine A_iconst (n := 0) hG dX12_isAgreeing_28 ?_
    exact Ret_z hM dX12_isAgreeing_29 (by omega) (by first | exact ⟨Or.inl ⟨rfl, by omega, by omega⟩, rfl⟩ | exact ⟨Or.inr ⟨rfl, fun q => by have := q.1; have := q.2; omega⟩, rfl⟩)
  ·
    refine A_aload_n hG 0 dX12_isAgreeing_10 rfl rfl ?_
    refine A_getR (r := 506) hG dX12_isAgreeing_11 fl_X12_22 (by decide) k500 (by decide) rfl ?_
    refine A_iconst (n := 5) hG dX12_isAgreeing_14 ?_
    refine A_iload_n hG 1 dX12_isAgreeing_15 rfl rfl ?_
    refine A_imul hG dX12_isAgreeing_16 ?_
    refine A_iconst (n := 3) hG dX12_isAgreeing_17 ?_
    refine A_iadd hG dX12_isAgreeing_18 ?_
    refine M_iald (v := h.1 506 ((5 * r) + 3)) hG dX12_isAgreeing_19 k506 n506 (by omega) rfl (fun ⟨ra_19, rb_19⟩ => ?_)
    refine A_iconst (n := 1) hG dX12_isAgreeing_20 ?_
    refine A_icmp_ne hG 28 dX12_isAgreeing_21 (by decide) (by constructor <;> omega) (by constructor <;> omega) (fun c_21 => ?_) (fun c_21 => ?_)
    ·
      refine A_iconst (n := 0) hG dX12_isAgreeing_28 ?_
      exact Ret_z hM dX12_isAgreeing_29 (by omega) (by first | exact ⟨Or.inl ⟨rfl, by omega, by omega⟩, rfl⟩ | exact ⟨Or.inr ⟨rfl, fun q => by have := q.1; have := q.2; omega⟩, rfl⟩)
    ·
      refine A_iconst (n := 1) hG dX12_isAgreeing_24 ?_
      refine A_goto hG 29 dX12_isAgreeing_25 (by decide) ?_
      exact Ret_z hM dX12_isAgreeing_29 (by omega) (by first | exact ⟨Or.inl ⟨rfl, by omega, by omega⟩, rfl⟩ | exact ⟨Or.inr ⟨rfl, fun q => by have := q.1; have := q.2; omega⟩, rfl⟩)

end
