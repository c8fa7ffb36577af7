/-! the library's small methods, views of the class's objects (printed by gen) -/
section
theorem kg0 {gn : Nat} (h : gn = 20 ∨ gn = 40) : obk gn = 2 := by rcases h with rfl | rfl <;> rfl
theorem kg1 {gn : Nat} (h : gn = 20 ∨ gn = 40) : obk (gn + 1) = 20 := by rcases h with rfl | rfl <;> rfl
theorem ng1 {gn : Nat} (h : gn = 20 ∨ gn = 40) : obn (gn + 1) = 16 := by rcases h with rfl | rfl <;> rfl
theorem kg2 {gn : Nat} (h : gn = 20 ∨ gn = 40) : obk (gn + 2) = 20 := by rcases h with rfl | rfl <;> rfl
theorem ng2 {gn : Nat} (h : gn = 20 ∨ gn = 40) : obn (gn + 2) = 16 := by rcases h with rfl | rfl <;> rfl
theorem kg3 {gn : Nat} (h : gn = 20 ∨ gn = 40) : obk (gn + 3) = 20 := by rcases h with rfl | rfl <;> rfl
theorem ng3 {gn : Nat} (h : gn = 20 ∨ gn = 40) : obn (gn + 3) = 16 := by rcases h with rfl | rfl <;> rfl
theorem kg4 {gn : Nat} (h : gn = 20 ∨ gn = 40) : obk (gn + 4) = 20 := by rcases h with rfl | rfl <;> rfl
theorem ng4 {gn : Nat} (h : gn = 20 ∨ gn = 40) : obn (gn + 4) = 16 := by rcases h with rfl | rfl <;> rfl
theorem kg5 {gn : Nat} (h : gn = 20 ∨ gn = 40) : obk (gn + 5) = 20 := by rcases h with rfl | rfl <;> rfl
theorem ng5 {gn : Nat} (h : gn = 20 ∨ gn = 40) : obn (gn + 5) = 24 := by rcases h with rfl | rfl <;> rfl
theorem kg6 {gn : Nat} (h : gn = 20 ∨ gn = 40) : obk (gn + 6) = 20 := by rcases h with rfl | rfl <;> rfl
theorem ng6 {gn : Nat} (h : gn = 20 ∨ gn = 40) : obn (gn + 6) = 24 := by rcases h with rfl | rfl <;> rfl
theorem kg7 {gn : Nat} (h : gn = 20 ∨ gn = 40) : obk (gn + 7) = 20 := by rcases h with rfl | rfl <;> rfl
theorem ng7 {gn : Nat} (h : gn = 20 ∨ gn = 40) : obn (gn + 7) = 24 := by rcases h with rfl | rfl <;> rfl
theorem kg8 {gn : Nat} (h : gn = 20 ∨ gn = 40) : obk (gn + 8) = 21 := by rcases h with rfl | rfl <;> rfl
theorem ng8 {gn : Nat} (h : gn = 20 ∨ gn = 40) : obn (gn + 8) = 24 := by rcases h with rfl | rfl <;> rfl
theorem kg9 {gn : Nat} (h : gn = 20 ∨ gn = 40) : obk (gn + 9) = 21 := by rcases h with rfl | rfl <;> rfl
theorem ng9 {gn : Nat} (h : gn = 20 ∨ gn = 40) : obn (gn + 9) = 24 := by rcases h with rfl | rfl <;> rfl
theorem kg10 {gn : Nat} (h : gn = 20 ∨ gn = 40) : obk (gn + 10) = 20 := by rcases h with rfl | rfl <;> rfl
theorem ng10 {gn : Nat} (h : gn = 20 ∨ gn = 40) : obn (gn + 10) = 5 := by rcases h with rfl | rfl <;> rfl
/-- the grammar that an object of the class holds -/
def gX (h : AH) (gn : Nat) : Gm := fun c => match c with
  | 0 => clip (h.1 gn 4) (h.1 (gn + 1))
  | 1 => clip (h.1 gn 4) (h.1 (gn + 2))
  | 2 => clip (h.1 gn 4) (h.1 (gn + 3))
  | 3 => clip (h.1 gn 4) (h.1 (gn + 4))
  | 4 => clip (h.1 gn 10) (h.1 (gn + 5))
  | 5 => clip (h.1 gn 10) (h.1 (gn + 6))
  | 6 => clip (h.1 gn 10) (h.1 (gn + 7))
  | 7 => clip (h.1 gn 10) (h.1 (gn + 8))
  | 8 => clip (h.1 gn 10) (h.1 (gn + 9))
  | 9 => clip 5 (h.1 (gn + 10))
  | _ => fun j => if j = 0 then h.1 gn 4 else h.1 gn 10
theorem gX_n (h : AH) (gn : Nat) : gX h gn 10 0 = h.1 gn 4 ∧ gX h gn 10 1 = h.1 gn 10 := ⟨rfl, rfl⟩
theorem gX_w {h : AH} {gn : Nat} {j : Int} (hj : 0 ≤ j ∧ j < h.1 gn 4) : gX h gn 0 j = h.1 (gn + 1) j ∧ gX h gn 1 j = h.1 (gn + 2) j ∧ gX h gn 2 j = h.1 (gn + 3) j ∧ gX h gn 3 j = h.1 (gn + 4) j := by simp only [gX, clip, if_pos hj, and_self]
theorem gX_r {h : AH} {gn : Nat} {j : Int} (hj : 0 ≤ j ∧ j < h.1 gn 10) : gX h gn 4 j = h.1 (gn + 5) j ∧ gX h gn 5 j = h.1 (gn + 6) j ∧ gX h gn 6 j = h.1 (gn + 7) j ∧ gX h gn 7 j = h.1 (gn + 8) j ∧ gX h gn 8 j = h.1 (gn + 9) j := by simp only [gX, clip, if_pos hj, and_self]
theorem gX_p {h : AH} {gn : Nat} {j : Int} (hj : 0 ≤ j ∧ j < 5) : gX h gn 9 j = h.1 (gn + 10) j := clip_in hj
/-- the words of a row of the class -/
def rX (h : AH) (r : Nat) : Int → Int := clip (h.1 r 1) (h.1 (r + 200))
theorem rX_in {h : AH} {r : Nat} {i : Int} (hi : 0 ≤ i ∧ i < h.1 r 1) : rX h r i = h.1 (r + 200) i := clip_in hi
set_option maxHeartbeats 2000000 in
set_option maxRecDepth 20000 in
theorem j_fill11 (h : AH) (v : Int64) : AMet yJ7_fill_d0a16 cJ7_fill_d0a16 5 none 0 0 [.ref 11, .long v] h (Qv (fun h' => ∃ f : Int → Int64, (∀ j, 0 ≤ j → j < 2560 → f j = v) ∧ h' = hm h [] [(11, f)] [])) := by
  refine AMet.of (by decide) (Nat.le_of_ble_eq_true rfl) (fun G hM => ?_)
  have hG := hM.cx
  refine A_hm0 (G := G) (L := [(0, .ref 11), (1, .long v)]) ?_
  refine A_iconst (n := 0) hG dJ7_fill_d0a16_0 ?_
  refine A_istore_n (L' := [(3, vI 0), (0, .ref 11), (1, .long v)]) hG dJ7_fill_d0a16_1 rfl (by decide) rfl ?_
  refine A_aload_n hG 1 dJ7_fill_d0a16_2 rfl rfl ?_
  refine A_alen hG dJ7_fill_d0a16_3 (Or.inr k11) n11 ?_
  refine A_istore (L' := [(4, vI 2560), (3, vI 0), (0, .ref 11), (1, .long v)]) hG dJ7_fill_d0a16_4 (by decide) rfl ?_
  refine A_insL 11 (ll' := [(11, h.2.1 11)]) rfl ?_
  have i_0 : ∀ fu : Nat, ∀ (i : Int) (f : Int → Int64), (0 ≤ i ∧ i ≤ 2560) → (∀ j, 0 ≤ j → j < i → f j = v) → ((2560 - i).toNat) < fu → G 6 [(0, .ref 11), (1, .long v), (3, vI i), (4, vI 2560)] [] (hm h [] [(11, f)] []) := by
    intro fu
    induction fu with
    | zero => intro i f hi hf hfu; exact absurd hfu (Nat.not_lt_zero _)
    | succ fu ih_i =>
      intro i f hi hf hfu
      refine A_iload_n hG 2 dJ7_fill_d0a16_6 rfl rfl ?_
      refine A_iload hG 3 dJ7_fill_d0a16_7 rfl ?_
      refine A_icmp_ge hG 22 dJ7_fill_d0a16_9 (by decide) (by constructor <;> omega) (by constructor <;> omega) (fun c_9 => ?_) (fun c_9 => ?_)
      ·
        exact Ret_v hM dJ7_fill_d0a16_22 (⟨f, fun j j0 j1 => hf j j0 (by omega), rfl⟩)
      ·
        refine A_aload_n hG 0 dJ7_fill_d0a16_12 rfl rfl ?_
        refine A_iload_n hG 2 dJ7_fill_d0a16_13 rfl rfl ?_
        refine A_lload_n hG 1 dJ7_fill_d0a16_14 rfl rfl ?_
        refine M_last (ll' := [(11, up f i v)]) hG dJ7_fill_d0a16_15 k11 n11 (by omega) rfl ?_
        refine A_iinc (L' := [(3, vI (i + 1)), (0, .ref 11), (1, .long v), (4, vI 2560)]) hG 2 dJ7_fill_d0a16_16 rfl (by decide) rfl ?_
        refine A_goto hG 6 dJ7_fill_d0a16_19 (by decide) ?_
        refine A_sub hG [1, 2, 0, 3] rfl ?_
        exact ih_i (i + 1) (up f i v) (by omega) (fun j j0 j1 => by
            by_cases hq : j = i
            · rw [hq, up_eq]
            · rw [up_ne _ _ hq]; exact hf j j0 (by omega)) (by omega)
  refine A_sub hG [2, 3, 1, 0] rfl ?_
  exact i_0 _ 0 (h.2.1 11) (by omega) (fun j j0 j1 => by omega) (Nat.lt_succ_self _)

set_option maxHeartbeats 2000000 in
set_option maxRecDepth 20000 in
theorem j_fill15 (h : AH) (v : Int64) : AMet yJ7_fill_d0a16 cJ7_fill_d0a16 5 none 0 0 [.ref 15, .long v] h (Qv (fun h' => ∃ f : Int → Int64, (∀ j, 0 ≤ j → j < 2560 → f j = v) ∧ h' = hm h [] [(15, f)] [])) := by
  refine AMet.of (by decide) (Nat.le_of_ble_eq_true rfl) (fun G hM => ?_)
  have hG := hM.cx
  refine A_hm0 (G := G) (L := [(0, .ref 15), (1, .long v)]) ?_
  refine A_iconst (n := 0) hG dJ7_fill_d0a16_0 ?_
  refine A_istore_n (L' := [(3, vI 0), (0, .ref 15), (1, .long v)]) hG dJ7_fill_d0a16_1 rfl (by decide) rfl ?_
  refine A_aload_n hG 1 dJ7_fill_d0a16_2 rfl rfl ?_
  refine A_alen hG dJ7_fill_d0a16_3 (Or.inr k15) n15 ?_
  refine A_istore (L' := [(4, vI 2560), (3, vI 0), (0, .ref 15), (1, .long v)]) hG dJ7_fill_d0a16_4 (by decide) rfl ?_
  refine A_insL 15 (ll' := [(15, h.2.1 15)]) rfl ?_
  have i_0 : ∀ fu : Nat, ∀ (i : Int) (f : Int → Int64), (0 ≤ i ∧ i ≤ 2560) → (∀ j, 0 ≤ j → j < i → f j = v) → ((2560 - i).toNat) < fu → G 6 [(0, .ref 15), (1, .long v), (3, vI i), (4, vI 2560)] [] (hm h [] [(15, f)] []) := by
    intro fu
    induction fu with
    | zero => intro i f hi hf hfu; exact absurd hfu (Nat.not_lt_zero _)
    | succ fu ih_i =>
      intro i f hi hf hfu
      refine A_iload_n hG 2 dJ7_fill_d0a16_6 rfl rfl ?_
      refine A_iload hG 3 dJ7_fill_d0a16_7 rfl ?_
      refine A_icmp_ge hG 22 dJ7_fill_d0a16_9 (by decide) (by constructor <;> omega) (by constructor <;> omega) (fun c_9 => ?_) (fun c_9 => ?_)
      ·
        exact Ret_v hM dJ7_fill_d0a16_22 (⟨f, fun j j0 j1 => hf j j0 (by omega), rfl⟩)
      ·
        refine A_aload_n hG 0 dJ7_fill_d0a16_12 rfl rfl ?_
        refine A_iload_n hG 2 dJ7_fill_d0a16_13 rfl rfl ?_
        refine A_lload_n hG 1 dJ7_fill_d0a16_14 rfl rfl ?_
        refine M_last (ll' := [(15, up f i v)]) hG dJ7_fill_d0a16_15 k15 n15 (by omega) rfl ?_
        refine A_iinc (L' := [(3, vI (i + 1)), (0, .ref 15), (1, .long v), (4, vI 2560)]) hG 2 dJ7_fill_d0a16_16 rfl (by decide) rfl ?_
        refine A_goto hG 6 dJ7_fill_d0a16_19 (by decide) ?_
        refine A_sub hG [1, 2, 0, 3] rfl ?_
        exact ih_i (i + 1) (up f i v) (by omega) (fun j j0 j1 => by
            by_cases hq : j = i
            · rw [hq, up_eq]
            · rw [up_ne _ _ hq]; exact hf j j0 (by omega)) (by omega)
  refine A_sub hG [2, 3, 1, 0] rfl ?_
  exact i_0 _ 0 (h.2.1 15) (by omega) (fun j j0 j1 => by omega) (Nat.lt_succ_self _)

set_option maxHeartbeats 2000000 in
set_option maxRecDepth 20000 in
theorem j_fill16 (h : AH) (v : Int64) : AMet yJ7_fill_d0a16 cJ7_fill_d0a16 5 none 0 0 [.ref 16, .long v] h (Qv (fun h' => ∃ f : Int → Int64, (∀ j, 0 ≤ j → j < 24 → f j = v) ∧ h' = hm h [] [(16, f)] [])) := by
  refine AMet.of (by decide) (Nat.le_of_ble_eq_true rfl) (fun G hM => ?_)
  have hG := hM.cx
  refine A_hm0 (G := G) (L := [(0, .ref 16), (1, .long v)]) ?_
  refine A_iconst (n := 0) hG dJ7_fill_d0a16_0 ?_
  refine A_istore_n (L' := [(3, vI 0), (0, .ref 16), (1, .long v)]) hG dJ7_fill_d0a16_1 rfl (by decide) rfl ?_
  refine A_aload_n hG 1 dJ7_fill_d0a16_2 rfl rfl ?_
  refine A_alen hG dJ7_fill_d0a16_3 (Or.inr k16) n16 ?_
  refine A_istore (L' := [(4, vI 24), (3, vI 0), (0, .ref 16), (1, .long v)]) hG dJ7_fill_d0a16_4 (by decide) rfl ?_
  refine A_insL 16 (ll' := [(16, h.2.1 16)]) rfl ?_
  have i_0 : ∀ fu : Nat, ∀ (i : Int) (f : Int → Int64), (0 ≤ i ∧ i ≤ 24) → (∀ j, 0 ≤ j → j < i → f j = v) → ((24 - i).toNat) < fu → G 6 [(0, .ref 16), (1, .long v), (3, vI i), (4, vI 24)] [] (hm h [] [(16, f)] []) := by
    intro fu
    induction fu with
    | zero => intro i f hi hf hfu; exact absurd hfu (Nat.not_lt_zero _)
    | succ fu ih_i =>
      intro i f hi hf hfu
      refine A_iload_n hG 2 dJ7_fill_d0a16_6 rfl rfl ?_
      refine A_iload hG 3 dJ7_fill_d0a16_7 rfl ?_
      refine A_icmp_ge hG 22 dJ7_fill_d0a16_9 (by decide) (by constructor <;> omega) (by constructor <;> omega) (fun c_9 => ?_) (fun c_9 => ?_)
      ·
        exact Ret_v hM dJ7_fill_d0a16_22 (⟨f, fun j j0 j1 => hf j j0 (by omega), rfl⟩)
      ·
        refine A_aload_n hG 0 dJ7_fill_d0a16_12 rfl rfl ?_
        refine A_iload_n hG 2 dJ7_fill_d0a16_13 rfl rfl ?_
        refine A_lload_n hG 1 dJ7_fill_d0a16_14 rfl rfl ?_
        refine M_last (ll' := [(16, up f i v)]) hG dJ7_fill_d0a16_15 k16 n16 (by omega) rfl ?_
        refine A_iinc (L' := [(3, vI (i + 1)), (0, .ref 16), (1, .long v), (4, vI 24)]) hG 2 dJ7_fill_d0a16_16 rfl (by decide) rfl ?_
        refine A_goto hG 6 dJ7_fill_d0a16_19 (by decide) ?_
        refine A_sub hG [1, 2, 0, 3] rfl ?_
        exact ih_i (i + 1) (up f i v) (by omega) (fun j j0 j1 => by
            by_cases hq : j = i
            · rw [hq, up_eq]
            · rw [up_ne _ _ hq]; exact hf j j0 (by omega)) (by omega)
  refine A_sub hG [2, 3, 1, 0] rfl ?_
  exact i_0 _ 0 (h.2.1 16) (by omega) (fun j j0 j1 => by omega) (Nat.lt_succ_self _)

set_option maxHeartbeats 2000000 in
set_option maxRecDepth 20000 in
theorem j_fill66 (h : AH) {v : Int} (hv : ir v) : AMet yJ7_fill_53178 cJ7_fill_53178 4 none 0 0 [.ref 66, vI v] h (Qv (fun h' => ∃ f : Int → Int, (∀ j, 0 ≤ j → j < 17 → f j = v) ∧ h' = hm h [(66, f)] [] [])) := by
  refine AMet.of (by decide) (Nat.le_of_ble_eq_true rfl) (fun G hM => ?_)
  have hG := hM.cx
  refine A_hm0 (G := G) (L := [(0, .ref 66), (1, vI v)]) ?_
  refine A_iconst (n := 0) hG dJ7_fill_53178_0 ?_
  refine A_istore_n (L' := [(2, vI 0), (0, .ref 66), (1, vI v)]) hG dJ7_fill_53178_1 rfl (by decide) rfl ?_
  refine A_aload_n hG 1 dJ7_fill_53178_2 rfl rfl ?_
  refine A_alen hG dJ7_fill_53178_3 (Or.inl k66) n66 ?_
  refine A_istore_n (L' := [(3, vI 17), (2, vI 0), (0, .ref 66), (1, vI v)]) hG dJ7_fill_53178_4 rfl (by decide) rfl ?_
  refine A_insI 66 (li' := [(66, h.1 66)]) rfl ?_
  have i_0 : ∀ fu : Nat, ∀ (i : Int) (f : Int → Int), (0 ≤ i ∧ i ≤ 17) → (∀ j, 0 ≤ j → j < i → f j = v) → ((17 - i).toNat) < fu → G 5 [(0, .ref 66), (1, vI v), (2, vI i), (3, vI 17)] [] (hm h [(66, f)] [] []) := by
    intro fu
    induction fu with
    | zero => intro i f hi hf hfu; exact absurd hfu (Nat.not_lt_zero _)
    | succ fu ih_i =>
      intro i f hi hf hfu
      refine A_iload_n hG 2 dJ7_fill_53178_5 rfl rfl ?_
      refine A_iload_n hG 3 dJ7_fill_53178_6 rfl rfl ?_
      refine A_icmp_ge hG 20 dJ7_fill_53178_7 (by decide) (by constructor <;> omega) (by constructor <;> omega) (fun c_7 => ?_) (fun c_7 => ?_)
      ·
        exact Ret_v hM dJ7_fill_53178_20 (⟨f, fun j j0 j1 => hf j j0 (by omega), rfl⟩)
      ·
        refine A_aload_n hG 0 dJ7_fill_53178_10 rfl rfl ?_
        refine A_iload_n hG 2 dJ7_fill_53178_11 rfl rfl ?_
        refine A_iload_n hG 1 dJ7_fill_53178_12 rfl rfl ?_
        refine M_iast (li' := [(66, up f i v)]) hG dJ7_fill_53178_13 k66 n66 (by omega) hv rfl ?_
        refine A_iinc (L' := [(2, vI (i + 1)), (0, .ref 66), (1, vI v), (3, vI 17)]) hG 2 dJ7_fill_53178_14 rfl (by decide) rfl ?_
        refine A_goto hG 5 dJ7_fill_53178_17 (by decide) ?_
        refine A_sub hG [1, 2, 0, 3] rfl ?_
        exact ih_i (i + 1) (up f i v) (by omega) (fun j j0 j1 => by
            by_cases hq : j = i
            · rw [hq, up_eq]
            · rw [up_ne _ _ hq]; exact hf j j0 (by omega)) (by omega)
  refine A_sub hG [2, 3, 1, 0] rfl ?_
  exact i_0 _ 0 (h.1 66) (by omega) (fun j j0 j1 => by omega) (Nat.lt_succ_self _)

def j_bitIV (x : Int) : Int := iand (((iand (((iand (x - (iand (iushr x 1) 1431655765)) 858993459) + (iand (iushr (x - (iand (iushr x 1) 1431655765)) 2) 858993459)) + (iushr ((iand (x - (iand (iushr x 1) 1431655765)) 858993459) + (iand (iushr (x - (iand (iushr x 1) 1431655765)) 2) 858993459)) 4)) 252645135) + (iushr (iand (((iand (x - (iand (iushr x 1) 1431655765)) 858993459) + (iand (iushr (x - (iand (iushr x 1) 1431655765)) 2) 858993459)) + (iushr ((iand (x - (iand (iushr x 1) 1431655765)) 858993459) + (iand (iushr (x - (iand (iushr x 1) 1431655765)) 2) 858993459)) 4)) 252645135) 8)) + (iushr ((iand (((iand (x - (iand (iushr x 1) 1431655765)) 858993459) + (iand (iushr (x - (iand (iushr x 1) 1431655765)) 2) 858993459)) + (iushr ((iand (x - (iand (iushr x 1) 1431655765)) 858993459) + (iand (iushr (x - (iand (iushr x 1) 1431655765)) 2) 858993459)) 4)) 252645135) + (iushr (iand (((iand (x - (iand (iushr x 1) 1431655765)) 858993459) + (iand (iushr (x - (iand (iushr x 1) 1431655765)) 2) 858993459)) + (iushr ((iand (x - (iand (iushr x 1) 1431655765)) 858993459) + (iand (iushr (x - (iand (iushr x 1) 1431655765)) 2) 858993459)) 4)) 252645135) 8)) 16)) 63
set_option maxHeartbeats 2000000 in
set_option maxRecDepth 20000 in
theorem j_bitI (h : AH) (x : Int) : AMet yJ6_bitCount_0f7a4 cJ6_bitCount_0f7a4 1 (some .int) 0 0 [vI x] h (Qi (fun z h' => z = j_bitIV x ∧ h' = h)) := by
  refine AMet.of (by decide) (Nat.le_of_ble_eq_true rfl) (fun G hM => ?_)
  have hG := hM.cx
  refine A_hm0 (G := G) (L := [(0, vI x)]) ?_
  refine A_iload_n hG 0 dJ6_bitCount_0f7a4_0 rfl rfl ?_
  refine A_iload_n hG 0 dJ6_bitCount_0f7a4_1 rfl rfl ?_
  refine A_iconst (n := 1) hG dJ6_bitCount_0f7a4_2 ?_
  refine A_iushr hG dJ6_bitCount_0f7a4_3 ?_
  refine A_ldcw (n := 1431655765) hG dJ6_bitCount_0f7a4_4 kc_J6_265 ?_
  refine A_iand hG dJ6_bitCount_0f7a4_7 ?_
  refine A_isub hG dJ6_bitCount_0f7a4_8 ?_
  refine A_istore_n (L' := [(0, vI (x - (iand (iushr x 1) 1431655765)))]) hG dJ6_bitCount_0f7a4_9 rfl (by decide) rfl ?_
  refine A_iload_n hG 0 dJ6_bitCount_0f7a4_10 rfl rfl ?_
  refine A_ldcw (n := 858993459) hG dJ6_bitCount_0f7a4_11 kc_J6_266 ?_
  refine A_iand hG dJ6_bitCount_0f7a4_14 ?_
  refine A_iload_n hG 0 dJ6_bitCount_0f7a4_15 rfl rfl ?_
  refine A_iconst (n := 2) hG dJ6_bitCount_0f7a4_16 ?_
  refine A_iushr hG dJ6_bitCount_0f7a4_17 ?_
  refine A_ldcw (n := 858993459) hG dJ6_bitCount_0f7a4_18 kc_J6_266 ?_
  refine A_iand hG dJ6_bitCount_0f7a4_21 ?_
  refine A_iadd hG dJ6_bitCount_0f7a4_22 ?_
  refine A_istore_n (L' := [(0, vI ((iand (x - (iand (iushr x 1) 1431655765)) 858993459) + (iand (iushr (x - (iand (iushr x 1) 1431655765)) 2) 858993459)))]) hG dJ6_bitCount_0f7a4_23 rfl (by decide) rfl ?_
  refine A_iload_n hG 0 dJ6_bitCount_0f7a4_24 rfl rfl ?_
  refine A_iload_n hG 0 dJ6_bitCount_0f7a4_25 rfl rfl ?_
  refine A_iconst (n := 4) hG dJ6_bitCount_0f7a4_26 ?_
  refine A_iushr hG dJ6_bitCount_0f7a4_27 ?_
  refine A_iadd hG dJ6_bitCount_0f7a4_28 ?_
  refine A_ldcw (n := 252645135) hG dJ6_bitCount_0f7a4_29 kc_J6_267 ?_
  refine A_iand hG dJ6_bitCount_0f7a4_32 ?_
  refine A_istore_n (L' := [(0, vI (iand (((iand (x - (iand (iushr x 1) 1431655765)) 858993459) + (iand (iushr (x - (iand (iushr x 1) 1431655765)) 2) 858993459)) + (iushr ((iand (x - (iand (iushr x 1) 1431655765)) 858993459) + (iand (iushr (x - (iand (iushr x 1) 1431655765)) 2) 858993459)) 4)) 252645135))]) hG dJ6_bitCount_0f7a4_33 rfl (by decide) rfl ?_
  refine A_iload_n hG 0 dJ6_bitCount_0f7a4_34 rfl rfl ?_
  refine A_iload_n hG 0 dJ6_bitCount_0f7a4_35 rfl rfl ?_
  refine A_bipush (n := 8) hG dJ6_bitCount_0f7a4_36 (by decide) ?_
  refine A_iushr hG dJ6_bitCount_0f7a4_38 ?_
  refine A_iadd hG dJ6_bitCount_0f7a4_39 ?_
  refine A_istore_n (L' := [(0, vI ((iand (((iand (x - (iand (iushr x 1) 1431655765)) 858993459) + (iand (iushr (x - (iand (iushr x 1) 1431655765)) 2) 858993459)) + (iushr ((iand (x - (iand (iushr x 1) 1431655765)) 858993459) + (iand (iushr (x - (iand (iushr x 1) 1431655765)) 2) 858993459)) 4)) 252645135) + (iushr (iand (((iand (x - (iand (iushr x 1) 1431655765)) 858993459) + (iand (iushr (x - (iand (iushr x 1) 1431655765)) 2) 858993459)) + (iushr ((iand (x - (iand (iushr x 1) 1431655765)) 858993459) + (iand (iushr (x - (iand (iushr x 1) 1431655765)) 2) 858993459)) 4)) 252645135) 8)))]) hG dJ6_bitCount_0f7a4_40 rfl (by decide) rfl ?_
  refine A_iload_n hG 0 dJ6_bitCount_0f7a4_41 rfl rfl ?_
  refine A_iload_n hG 0 dJ6_bitCount_0f7a4_42 rfl rfl ?_
  refine A_bipush (n := 16) hG dJ6_bitCount_0f7a4_43 (by decide) ?_
  refine A_iushr hG dJ6_bitCount_0f7a4_45 ?_
  refine A_iadd hG dJ6_bitCount_0f7a4_46 ?_
  refine A_istore_n (L' := [(0, vI (((iand (((iand (x - (iand (iushr x 1) 1431655765)) 858993459) + (iand (iushr (x - (iand (iushr x 1) 1431655765)) 2) 858993459)) + (iushr ((iand (x - (iand (iushr x 1) 1431655765)) 858993459) + (iand (iushr (x - (iand (iushr x 1) 1431655765)) 2) 858993459)) 4)) 252645135) + (iushr (iand (((iand (x - (iand (iushr x 1) 1431655765)) 858993459) + (iand (iushr (x - (iand (iushr x 1) 1431655765)) 2) 858993459)) + (iushr ((iand (x - (iand (iushr x 1) 1431655765)) 858993459) + (iand (iushr (x - (iand (iushr x 1) 1431655765)) 2) 858993459)) 4)) 252645135) 8)) + (iushr ((iand (((iand (x - (iand (iushr x 1) 1431655765)) 858993459) + (iand (iushr (x - (iand (iushr x 1) 1431655765)) 2) 858993459)) + (iushr ((iand (x - (iand (iushr x 1) 1431655765)) 858993459) + (iand (iushr (x - (iand (iushr x 1) 1431655765)) 2) 858993459)) 4)) 252645135) + (iushr (iand (((iand (x - (iand (iushr x 1) 1431655765)) 858993459) + (iand (iushr (x - (iand (iushr x 1) 1431655765)) 2) 858993459)) + (iushr ((iand (x - (iand (iushr x 1) 1431655765)) 858993459) + (iand (iushr (x - (iand (iushr x 1) 1431655765)) 2) 858993459)) 4)) 252645135) 8)) 16)))]) hG dJ6_bitCount_0f7a4_47 rfl (by decide) rfl ?_
  refine A_iload_n hG 0 dJ6_bitCount_0f7a4_48 rfl rfl ?_
  refine A_bipush (n := 63) hG dJ6_bitCount_0f7a4_49 (by decide) ?_
  refine A_iand hG dJ6_bitCount_0f7a4_51 ?_
  exact Ret_i hM dJ6_bitCount_0f7a4_52 (irT _) (⟨rfl, rfl⟩)

def j_bitLV (x : Int64) : Int := iand (l2i ((((((((x - ((lushr x 1) &&& 6148914691236517205)) &&& 3689348814741910323) + ((lushr (x - ((lushr x 1) &&& 6148914691236517205)) 2) &&& 3689348814741910323)) + (lushr (((x - ((lushr x 1) &&& 6148914691236517205)) &&& 3689348814741910323) + ((lushr (x - ((lushr x 1) &&& 6148914691236517205)) 2) &&& 3689348814741910323)) 4)) &&& 1085102592571150095) + (lushr (((((x - ((lushr x 1) &&& 6148914691236517205)) &&& 3689348814741910323) + ((lushr (x - ((lushr x 1) &&& 6148914691236517205)) 2) &&& 3689348814741910323)) + (lushr (((x - ((lushr x 1) &&& 6148914691236517205)) &&& 3689348814741910323) + ((lushr (x - ((lushr x 1) &&& 6148914691236517205)) 2) &&& 3689348814741910323)) 4)) &&& 1085102592571150095) 8)) + (lushr ((((((x - ((lushr x 1) &&& 6148914691236517205)) &&& 3689348814741910323) + ((lushr (x - ((lushr x 1) &&& 6148914691236517205)) 2) &&& 3689348814741910323)) + (lushr (((x - ((lushr x 1) &&& 6148914691236517205)) &&& 3689348814741910323) + ((lushr (x - ((lushr x 1) &&& 6148914691236517205)) 2) &&& 3689348814741910323)) 4)) &&& 1085102592571150095) + (lushr (((((x - ((lushr x 1) &&& 6148914691236517205)) &&& 3689348814741910323) + ((lushr (x - ((lushr x 1) &&& 6148914691236517205)) 2) &&& 3689348814741910323)) + (lushr (((x - ((lushr x 1) &&& 6148914691236517205)) &&& 3689348814741910323) + ((lushr (x - ((lushr x 1) &&& 6148914691236517205)) 2) &&& 3689348814741910323)) 4)) &&& 1085102592571150095) 8)) 16)) + (lushr (((((((x - ((lushr x 1) &&& 6148914691236517205)) &&& 3689348814741910323) + ((lushr (x - ((lushr x 1) &&& 6148914691236517205)) 2) &&& 3689348814741910323)) + (lushr (((x - ((lushr x 1) &&& 6148914691236517205)) &&& 3689348814741910323) + ((lushr (x - ((lushr x 1) &&& 6148914691236517205)) 2) &&& 3689348814741910323)) 4)) &&& 1085102592571150095) + (lushr (((((x - ((lushr x 1) &&& 6148914691236517205)) &&& 3689348814741910323) + ((lushr (x - ((lushr x 1) &&& 6148914691236517205)) 2) &&& 3689348814741910323)) + (lushr (((x - ((lushr x 1) &&& 6148914691236517205)) &&& 3689348814741910323) + ((lushr (x - ((lushr x 1) &&& 6148914691236517205)) 2) &&& 3689348814741910323)) 4)) &&& 1085102592571150095) 8)) + (lushr ((((((x - ((lushr x 1) &&& 6148914691236517205)) &&& 3689348814741910323) + ((lushr (x - ((lushr x 1) &&& 6148914691236517205)) 2) &&& 3689348814741910323)) + (lushr (((x - ((lushr x 1) &&& 6148914691236517205)) &&& 3689348814741910323) + ((lushr (x - ((lushr x 1) &&& 6148914691236517205)) 2) &&& 3689348814741910323)) 4)) &&& 1085102592571150095) + (lushr (((((x - ((lushr x 1) &&& 6148914691236517205)) &&& 3689348814741910323) + ((lushr (x - ((lushr x 1) &&& 6148914691236517205)) 2) &&& 3689348814741910323)) + (lushr (((x - ((lushr x 1) &&& 6148914691236517205)) &&& 3689348814741910323) + ((lushr (x - ((lushr x 1) &&& 6148914691236517205)) 2) &&& 3689348814741910323)) 4)) &&& 1085102592571150095) 8)) 16)) 32))) 127
set_option maxHeartbeats 2000000 in
set_option maxRecDepth 20000 in
theorem j_bitL (h : AH) (x : Int64) : AMet yJ13_bitCount_95d88 cJ13_bitCount_95d88 2 (some .int) 0 0 [.long x] h (Qi (fun z h' => z = j_bitLV x ∧ h' = h)) := by
  refine AMet.of (by decide) (Nat.le_of_ble_eq_true rfl) (fun G hM => ?_)
  have hG := hM.cx
  refine A_hm0 (G := G) (L := [(0, .long x)]) ?_
  refine A_lload_n hG 0 dJ13_bitCount_95d88_0 rfl rfl ?_
  refine A_lload_n hG 0 dJ13_bitCount_95d88_1 rfl rfl ?_
  refine A_iconst (n := 1) hG dJ13_bitCount_95d88_2 ?_
  refine A_lushr hG dJ13_bitCount_95d88_3 ?_
  refine A_ldc2 (v := 6148914691236517205) hG dJ13_bitCount_95d88_4 kl_J13_314 ?_
  refine A_land hG dJ13_bitCount_95d88_7 ?_
  refine A_lsub hG dJ13_bitCount_95d88_8 ?_
  refine A_lstore_n (L' := [(0, .long (x - ((lushr x 1) &&& 6148914691236517205)))]) hG dJ13_bitCount_95d88_9 rfl (by decide) rfl ?_
  refine A_lload_n hG 0 dJ13_bitCount_95d88_10 rfl rfl ?_
  refine A_ldc2 (v := 3689348814741910323) hG dJ13_bitCount_95d88_11 kl_J13_316 ?_
  refine A_land hG dJ13_bitCount_95d88_14 ?_
  refine A_lload_n hG 0 dJ13_bitCount_95d88_15 rfl rfl ?_
  refine A_iconst (n := 2) hG dJ13_bitCount_95d88_16 ?_
  refine A_lushr hG dJ13_bitCount_95d88_17 ?_
  refine A_ldc2 (v := 3689348814741910323) hG dJ13_bitCount_95d88_18 kl_J13_316 ?_
  refine A_land hG dJ13_bitCount_95d88_21 ?_
  refine A_ladd hG dJ13_bitCount_95d88_22 ?_
  refine A_lstore_n (L' := [(0, .long (((x - ((lushr x 1) &&& 6148914691236517205)) &&& 3689348814741910323) + ((lushr (x - ((lushr x 1) &&& 6148914691236517205)) 2) &&& 3689348814741910323)))]) hG dJ13_bitCount_95d88_23 rfl (by decide) rfl ?_
  refine A_lload_n hG 0 dJ13_bitCount_95d88_24 rfl rfl ?_
  refine A_lload_n hG 0 dJ13_bitCount_95d88_25 rfl rfl ?_
  refine A_iconst (n := 4) hG dJ13_bitCount_95d88_26 ?_
  refine A_lushr hG dJ13_bitCount_95d88_27 ?_
  refine A_ladd hG dJ13_bitCount_95d88_28 ?_
  refine A_ldc2 (v := 1085102592571150095) hG dJ13_bitCount_95d88_29 kl_J13_318 ?_
  refine A_land hG dJ13_bitCount_95d88_32 ?_
  refine A_lstore_n (L' := [(0, .long (((((x - ((lushr x 1) &&& 6148914691236517205)) &&& 3689348814741910323) + ((lushr (x - ((lushr x 1) &&& 6148914691236517205)) 2) &&& 3689348814741910323)) + (lushr (((x - ((lushr x 1) &&& 6148914691236517205)) &&& 3689348814741910323) + ((lushr (x - ((lushr x 1) &&& 6148914691236517205)) 2) &&& 3689348814741910323)) 4)) &&& 1085102592571150095))]) hG dJ13_bitCount_95d88_33 rfl (by decide) rfl ?_
  refine A_lload_n hG 0 dJ13_bitCount_95d88_34 rfl rfl ?_
  refine A_lload_n hG 0 dJ13_bitCount_95d88_35 rfl rfl ?_
  refine A_bipush (n := 8) hG dJ13_bitCount_95d88_36 (by decide) ?_
  refine A_lushr hG dJ13_bitCount_95d88_38 ?_
  refine A_ladd hG dJ13_bitCount_95d88_39 ?_
  refine A_lstore_n (L' := [(0, .long ((((((x - ((lushr x 1) &&& 6148914691236517205)) &&& 3689348814741910323) + ((lushr (x - ((lushr x 1) &&& 6148914691236517205)) 2) &&& 3689348814741910323)) + (lushr (((x - ((lushr x 1) &&& 6148914691236517205)) &&& 3689348814741910323) + ((lushr (x - ((lushr x 1) &&& 6148914691236517205)) 2) &&& 3689348814741910323)) 4)) &&& 1085102592571150095) + (lushr (((((x - ((lushr x 1) &&& 6148914691236517205)) &&& 3689348814741910323) + ((lushr (x - ((lushr x 1) &&& 6148914691236517205)) 2) &&& 3689348814741910323)) + (lushr (((x - ((lushr x 1) &&& 6148914691236517205)) &&& 3689348814741910323) + ((lushr (x - ((lushr x 1) &&& 6148914691236517205)) 2) &&& 3689348814741910323)) 4)) &&& 1085102592571150095) 8)))]) hG dJ13_bitCount_95d88_40 rfl (by decide) rfl ?_
  refine A_lload_n hG 0 dJ13_bitCount_95d88_41 rfl rfl ?_
  refine A_lload_n hG 0 dJ13_bitCount_95d88_42 rfl rfl ?_
  refine A_bipush (n := 16) hG dJ13_bitCount_95d88_43 (by decide) ?_
  refine A_lushr hG dJ13_bitCount_95d88_45 ?_
  refine A_ladd hG dJ13_bitCount_95d88_46 ?_
  refine A_lstore_n (L' := [(0, .long (((((((x - ((lushr x 1) &&& 6148914691236517205)) &&& 3689348814741910323) + ((lushr (x - ((lushr x 1) &&& 6148914691236517205)) 2) &&& 3689348814741910323)) + (lushr (((x - ((lushr x 1) &&& 6148914691236517205)) &&& 3689348814741910323) + ((lushr (x - ((lushr x 1) &&& 6148914691236517205)) 2) &&& 3689348814741910323)) 4)) &&& 1085102592571150095) + (lushr (((((x - ((lushr x 1) &&& 6148914691236517205)) &&& 3689348814741910323) + ((lushr (x - ((lushr x 1) &&& 6148914691236517205)) 2) &&& 3689348814741910323)) + (lushr (((x - ((lushr x 1) &&& 6148914691236517205)) &&& 3689348814741910323) + ((lushr (x - ((lushr x 1) &&& 6148914691236517205)) 2) &&& 3689348814741910323)) 4)) &&& 1085102592571150095) 8)) + (lushr ((((((x - ((lushr x 1) &&& 6148914691236517205)) &&& 3689348814741910323) + ((lushr (x - ((lushr x 1) &&& 6148914691236517205)) 2) &&& 3689348814741910323)) + (lushr (((x - ((lushr x 1) &&& 6148914691236517205)) &&& 3689348814741910323) + ((lushr (x - ((lushr x 1) &&& 6148914691236517205)) 2) &&& 3689348814741910323)) 4)) &&& 1085102592571150095) + (lushr (((((x - ((lushr x 1) &&& 6148914691236517205)) &&& 3689348814741910323) + ((lushr (x - ((lushr x 1) &&& 6148914691236517205)) 2) &&& 3689348814741910323)) + (lushr (((x - ((lushr x 1) &&& 6148914691236517205)) &&& 3689348814741910323) + ((lushr (x - ((lushr x 1) &&& 6148914691236517205)) 2) &&& 3689348814741910323)) 4)) &&& 1085102592571150095) 8)) 16)))]) hG dJ13_bitCount_95d88_47 rfl (by decide) rfl ?_
  refine A_lload_n hG 0 dJ13_bitCount_95d88_48 rfl rfl ?_
  refine A_lload_n hG 0 dJ13_bitCount_95d88_49 rfl rfl ?_
  refine A_bipush (n := 32) hG dJ13_bitCount_95d88_50 (by decide) ?_
  refine A_lushr hG dJ13_bitCount_95d88_52 ?_
  refine A_ladd hG dJ13_bitCount_95d88_53 ?_
  refine A_lstore_n (L' := [(0, .long ((((((((x - ((lushr x 1) &&& 6148914691236517205)) &&& 3689348814741910323) + ((lushr (x - ((lushr x 1) &&& 6148914691236517205)) 2) &&& 3689348814741910323)) + (lushr (((x - ((lushr x 1) &&& 6148914691236517205)) &&& 3689348814741910323) + ((lushr (x - ((lushr x 1) &&& 6148914691236517205)) 2) &&& 3689348814741910323)) 4)) &&& 1085102592571150095) + (lushr (((((x - ((lushr x 1) &&& 6148914691236517205)) &&& 3689348814741910323) + ((lushr (x - ((lushr x 1) &&& 6148914691236517205)) 2) &&& 3689348814741910323)) + (lushr (((x - ((lushr x 1) &&& 6148914691236517205)) &&& 3689348814741910323) + ((lushr (x - ((lushr x 1) &&& 6148914691236517205)) 2) &&& 3689348814741910323)) 4)) &&& 1085102592571150095) 8)) + (lushr ((((((x - ((lushr x 1) &&& 6148914691236517205)) &&& 3689348814741910323) + ((lushr (x - ((lushr x 1) &&& 6148914691236517205)) 2) &&& 3689348814741910323)) + (lushr (((x - ((lushr x 1) &&& 6148914691236517205)) &&& 3689348814741910323) + ((lushr (x - ((lushr x 1) &&& 6148914691236517205)) 2) &&& 3689348814741910323)) 4)) &&& 1085102592571150095) + (lushr (((((x - ((lushr x 1) &&& 6148914691236517205)) &&& 3689348814741910323) + ((lushr (x - ((lushr x 1) &&& 6148914691236517205)) 2) &&& 3689348814741910323)) + (lushr (((x - ((lushr x 1) &&& 6148914691236517205)) &&& 3689348814741910323) + ((lushr (x - ((lushr x 1) &&& 6148914691236517205)) 2) &&& 3689348814741910323)) 4)) &&& 1085102592571150095) 8)) 16)) + (lushr (((((((x - ((lushr x 1) &&& 6148914691236517205)) &&& 3689348814741910323) + ((lushr (x - ((lushr x 1) &&& 6148914691236517205)) 2) &&& 3689348814741910323)) + (lushr (((x - ((lushr x 1) &&& 6148914691236517205)) &&& 3689348814741910323) + ((lushr (x - ((lushr x 1) &&& 6148914691236517205)) 2) &&& 3689348814741910323)) 4)) &&& 1085102592571150095) + (lushr (((((x - ((lushr x 1) &&& 6148914691236517205)) &&& 3689348814741910323) + ((lushr (x - ((lushr x 1) &&& 6148914691236517205)) 2) &&& 3689348814741910323)) + (lushr (((x - ((lushr x 1) &&& 6148914691236517205)) &&& 3689348814741910323) + ((lushr (x - ((lushr x 1) &&& 6148914691236517205)) 2) &&& 3689348814741910323)) 4)) &&& 1085102592571150095) 8)) + (lushr ((((((x - ((lushr x 1) &&& 6148914691236517205)) &&& 3689348814741910323) + ((lushr (x - ((lushr x 1) &&& 6148914691236517205)) 2) &&& 3689348814741910323)) + (lushr (((x - ((lushr x 1) &&& 6148914691236517205)) &&& 3689348814741910323) + ((lushr (x - ((lushr x 1) &&& 6148914691236517205)) 2) &&& 3689348814741910323)) 4)) &&& 1085102592571150095) + (lushr (((((x - ((lushr x 1) &&& 6148914691236517205)) &&& 3689348814741910323) + ((lushr (x - ((lushr x 1) &&& 6148914691236517205)) 2) &&& 3689348814741910323)) + (lushr (((x - ((lushr x 1) &&& 6148914691236517205)) &&& 3689348814741910323) + ((lushr (x - ((lushr x 1) &&& 6148914691236517205)) 2) &&& 3689348814741910323)) 4)) &&& 1085102592571150095) 8)) 16)) 32)))]) hG dJ13_bitCount_95d88_54 rfl (by decide) rfl ?_
  refine A_lload_n hG 0 dJ13_bitCount_95d88_55 rfl rfl ?_
  refine A_l2i hG dJ13_bitCount_95d88_56 ?_
  refine A_bipush (n := 127) hG dJ13_bitCount_95d88_57 (by decide) ?_
  refine A_iand hG dJ13_bitCount_95d88_59 ?_
  exact Ret_i hM dJ13_bitCount_95d88_60 (irT _) (⟨rfl, rfl⟩)

theorem bitI_p2 : ∀ a : Fin 31, j_bitIV (((2 ^ a.val : Nat) : Int) - 1) = ((a.val : Nat) : Int) := by decide +kernel
theorem bitL_p2 : ∀ a : Fin 64, j_bitLV ((Int64.ofBitVec (1#64 <<< a.val)) - i2l 1) = ((a.val : Nat) : Int) := by decide +kernel
theorem bitL_m1 : j_bitLV (i2l 0 - i2l 1) = 64 := by decide +kernel
/-- the lowest bit alone -/
theorem low_bit {x : Int64} {l : Nat} (hl : l < 64) (h1 : x.toBitVec.getLsbD l = true) (h0 : ∀ j, j < l → x.toBitVec.getLsbD j = false) : x &&& -x = Int64.ofBitVec (1#64 <<< l) := by
  apply Int64.toBitVec_inj.mp
  apply BitVec.eq_of_getLsbD_eq
  intro i hi
  rw [Int64.toBitVec_and, Int64.toBitVec_neg, BitVec.getLsbD_and, BitVec.getLsbD_neg]
  show _ = (1#64 <<< l).getLsbD i
  rw [BitVec.getLsbD_shiftLeft, BitVec.getLsbD_one]
  rcases Nat.lt_trichotomy i l with q | q | q
  · rw [h0 i q]; simp [q]
  · subst q
    have e : ¬ ∃ j, j < i ∧ x.toBitVec.getLsbD j = true := by
      rintro ⟨j, j1, j2⟩
      rw [h0 j j1] at j2
      exact absurd j2 (by decide)
    rw [h1]
    simp [hi, e]
  · have e : ∃ j, j < i ∧ x.toBitVec.getLsbD j = true := ⟨l, q, h1⟩
    cases hx : x.toBitVec.getLsbD i
    · simp; omega
    · simp [hi, e]; omega
/-- how far up the lowest bit is; 64 if there is none -/
theorem low_cnt (x : Int64) : (x = 0 ∧ j_bitLV ((x &&& -x) - i2l 1) = 64) ∨ ∃ l : Nat, l < 64 ∧ j_bitLV ((x &&& -x) - i2l 1) = l ∧ bitL x l ∧ ∀ j : Int, 0 ≤ j → j < l → ¬ bitL x j := by
  by_cases h : ∃ l : Nat, l < 64 ∧ x.toBitVec.getLsbD l = true
  · have key : ∀ n : Nat, (∃ l, l < n ∧ x.toBitVec.getLsbD l = true) → ∃ l, l < n ∧ x.toBitVec.getLsbD l = true ∧ ∀ j, j < l → x.toBitVec.getLsbD j = false := by
      intro n
      induction n with
      | zero => rintro ⟨l, h1, -⟩; omega
      | succ n ih =>
        rintro ⟨l, h1, h2⟩
        by_cases hq : ∃ l, l < n ∧ x.toBitVec.getLsbD l = true
        · obtain ⟨l, l1, l2⟩ := ih hq
          exact ⟨l, by omega, l2⟩
        · have e : l = n := by
            rcases Nat.lt_or_ge l n with q | q
            · exact absurd ⟨l, q, h2⟩ hq
            · omega
          subst e
          refine ⟨l, by omega, h2, fun j hj => ?_⟩
          cases hx : x.toBitVec.getLsbD j
          · rfl
          · exact absurd ⟨j, hj, hx⟩ hq
    obtain ⟨l, l1, l2, l3⟩ := key 64 h
    refine Or.inr ⟨l, l1, ?_, l2, fun j j0 j1 => ?_⟩
    · rw [low_bit l1 l2 l3]; exact bitL_p2 ⟨l, l1⟩
    · unfold bitL
      rw [l3 j.toNat (by omega)]
      simp
  · have e : x = 0 := by
      apply Int64.toBitVec_inj.mp
      apply BitVec.eq_of_getLsbD_eq
      intro i hi
      cases hx : x.toBitVec.getLsbD i
      · show false = (0#64).getLsbD i; rw [BitVec.getLsbD_zero]
      · exact absurd ⟨i, hi, hx⟩ h
    subst e
    exact Or.inl ⟨rfl, bitL_m1⟩
end
