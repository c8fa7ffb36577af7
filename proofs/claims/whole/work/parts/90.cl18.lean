/-! the class's face: fault, lay, trees, part, least, bars (printed by gen) -/
section
/-- a TEXT that is told leaves all but the grammar on trial as it is -/
def frT (t : Nat) (h h' : AH) : Prop := (∀ k : Nat, k ≠ 2 → k ≠ 4 → ¬ (t ≤ k ∧ k ≤ t + 10) → h'.1 k = h.1 k) ∧ (∀ q : Int, q ≠ 3 → h'.1 2 q = h.1 2 q) ∧ h'.2 = h.2
theorem alk_fr {α : Type} {l : List (Nat × (Int → α))} {k : Nat} {d : Int → α} (P : Nat → Bool) (hl : l.all (fun q => P q.1) = true) (hk : P k = false) : alk l k d = d := alk_out (fun q hq e => by
  have := List.all_eq_true.mp hl q hq
  rw [e, hk] at this
  exact absurd this (by decide))
def gxH (h : AH) (t : Nat) (g : Gm) : Prop := gxC (h.1 t) (h.1 (t + 1)) (h.1 (t + 2)) (h.1 (t + 3)) (h.1 (t + 4)) (h.1 (t + 5)) (h.1 (t + 6)) (h.1 (t + 7)) (h.1 (t + 8)) (h.1 (t + 9)) (h.1 (t + 10)) g
def telP (h h' : AH) (t : Nat) (z : Int) : Prop := ∃ (N : Nat) (g : Gm), (prs (h.1 3) (h.1 2 1) N 0 g00 z g ∧ (z = -4 → okG g ∧ gxH h' t g)) ∧ frT t h h'

theorem telP_20 {h : AH} {a0 a1 a2 a3 a4 a5 a6 a7 a8 a9 a10 e nm : Int → Int} {N : Nat} {g : Gm} {z : Int} (h1 : prs (h.1 3) (h.1 2 1) N 0 g00 z g ∧ (z = -4 → okG g ∧ gxC a0 a1 a2 a3 a4 a5 a6 a7 a8 a9 a10 g) ∧ ∀ q, q ≠ 3 → e q = h.1 2 q) : telP h (hm h [(30, a10), (20, a0), (21, a1), (22, a2), (23, a3), (24, a4), (25, a5), (26, a6), (27, a7), (28, a8), (29, a9), (2, e), (4, nm)] [] []) 20 z :=
  ⟨N, g, ⟨h1.1, fun q => h1.2.1 q⟩, fun k k1 k2 k3 => alk_fr (fun q => decide (q = 2) || decide (q = 4) || (decide (20 ≤ q) && decide (q ≤ 30))) rfl (by simp; omega), h1.2.2, rfl⟩
theorem telP_40 {h : AH} {a0 a1 a2 a3 a4 a5 a6 a7 a8 a9 a10 e nm : Int → Int} {N : Nat} {g : Gm} {z : Int} (h1 : prs (h.1 3) (h.1 2 1) N 0 g00 z g ∧ (z = -4 → okG g ∧ gxC a0 a1 a2 a3 a4 a5 a6 a7 a8 a9 a10 g) ∧ ∀ q, q ≠ 3 → e q = h.1 2 q) : telP h (hm h [(50, a10), (40, a0), (41, a1), (42, a2), (43, a3), (44, a4), (45, a5), (46, a6), (47, a7), (48, a8), (49, a9), (2, e), (4, nm)] [] []) 40 z :=
  ⟨N, g, ⟨h1.1, fun q => h1.2.1 q⟩, fun k k1 k2 k3 => alk_fr (fun q => decide (q = 2) || decide (q = 4) || (decide (40 ≤ q) && decide (q ≤ 50))) rfl (by simp; omega), h1.2.2, rfl⟩
set_option maxHeartbeats 2000000 in
set_option maxRecDepth 20000 in
theorem x_fault20 (h : AH) (hL0 : 0 ≤ h.1 2 1 ∧ h.1 2 1 ≤ 400) (hTl : h.2.2 1 2 = 20) : AMet yX11_fault cX11_fault 1 (some .int) 4 91 [.ref 1] h (Qi (fun z h' => telP h h' 20 z)) := by
  refine AMet.of (by decide) (Nat.le_of_ble_eq_true rfl) (fun G hM => ?_)
  have hG := hM.cx
  refine A_hm0 (G := G) (L := [(0, .ref 1)]) ?_
  refine A_aload_n hG 0 dX11_fault_0 rfl rfl ?_
  refine A_getR (r := 2) hG dX11_fault_1 fl_X11_12 (by decide) k1 (by decide) rfl ?_
  refine A_aload_n hG 0 dX11_fault_4 rfl rfl ?_
  refine A_getR (r := 20) hG dX11_fault_5 fl_X11_23 (by decide) k1 (by decide) hTl ?_
  refine C_Vi (as := [.ref 20]) (st := []) (k := 2) (c := 8) hG dX11_fault_8 ml_X11_104 mf_X9_tellTo mi_X9_tellTo se_X9_tellTo rfl (by decide) k2 (x_tellTo20 (hm h [] [] []) hL0) (by decide) (by decide) rfl rfl (Nat.le_of_ble_eq_true rfl) (fun z8 g8 ri_8 hp_8 => ?_)
  obtain ⟨ra_8, rb_8⟩ := ri_8
  have hq_8 : telP h g8 20 z8 := by
      obtain ⟨a0, a1, a2, a3, a4, a5, a6, a7, a8, a9, a10, e, nm, N, g1, hq, rfl⟩ := hp_8
      exact telP_20 hq
  clear hp_8
  refine A_hm0 ?_
  exact Ret_i hM dX11_fault_11 (by constructor <;> omega) hq_8

set_option maxHeartbeats 2000000 in
set_option maxRecDepth 20000 in
theorem x_fault40 (h : AH) (hL0 : 0 ≤ h.1 2 1 ∧ h.1 2 1 ≤ 400) (hTl : h.2.2 1 2 = 40) : AMet yX11_fault cX11_fault 1 (some .int) 4 91 [.ref 1] h (Qi (fun z h' => telP h h' 40 z)) := by
  refine AMet.of (by decide) (Nat.le_of_ble_eq_true rfl) (fun G hM => ?_)
  have hG := hM.cx
  refine A_hm0 (G := G) (L := [(0, .ref 1)]) ?_
  refine A_aload_n hG 0 dX11_fault_0 rfl rfl ?_
  refine A_getR (r := 2) hG dX11_fault_1 fl_X11_12 (by decide) k1 (by decide) rfl ?_
  refine A_aload_n hG 0 dX11_fault_4 rfl rfl ?_
  refine A_getR (r := 40) hG dX11_fault_5 fl_X11_23 (by decide) k1 (by decide) hTl ?_
  refine C_Vi (as := [.ref 40]) (st := []) (k := 2) (c := 8) hG dX11_fault_8 ml_X11_104 mf_X9_tellTo mi_X9_tellTo se_X9_tellTo rfl (by decide) k2 (x_tellTo40 (hm h [] [] []) hL0) (by decide) (by decide) rfl rfl (Nat.le_of_ble_eq_true rfl) (fun z8 g8 ri_8 hp_8 => ?_)
  obtain ⟨ra_8, rb_8⟩ := ri_8
  have hq_8 : telP h g8 40 z8 := by
      obtain ⟨a0, a1, a2, a3, a4, a5, a6, a7, a8, a9, a10, e, nm, N, g1, hq, rfl⟩ := hp_8
      exact telP_40 hq
  clear hp_8
  refine A_hm0 ?_
  exact Ret_i hM dX11_fault_11 (by constructor <;> omega) hq_8

/-- what a lay leaves as it is, and what it makes -/
def frL (t : Nat) (h h' : AH) : Prop := (∀ k : Nat, k ≠ 1 → k ≠ 2 → k ≠ 4 → k ≠ 7 → ¬ (t ≤ k ∧ k ≤ t + 10) → ¬ (100 ≤ k ∧ k < 108) → h'.1 k = h.1 k) ∧ (∀ q : Int, q ≠ 3 → h'.1 2 q = h.1 2 q) ∧ (h'.1 1 5 = 0 ∧ h'.1 1 13 = -1 ∧ h'.1 7 1 = 0) ∧ (∀ s : Int, 0 ≤ s → s < 8 → lenX h' s = 0 ∧ qdX h' s = 0) ∧ (h'.2.2 1 1 = t ∧ h'.2.2 1 2 = 60 - t) ∧ (∀ k : Nat, k ≠ 1 → h'.2.2 k = h.2.2 k) ∧ h'.2.1 = h.2.1
def layP (h h' : AH) (t : Nat) (z : Int) : Prop := (z = -2 ∧ (∃ (N : Nat) (g : Gm) (zf : Int), zf ≠ -4 ∧ prs (h.1 3) (h.1 2 1) N 0 g00 zf g) ∧ frT t h h') ∨ ∃ (N : Nat) (g : Gm), (prs (h.1 3) (h.1 2 1) N 0 g00 (-4) g ∧ okG g ∧ gxH h' t g ∧ z = g 10 0) ∧ frL t h h'
def lay0 (t : Nat) (h h0 : AH) (g : Gm) : Prop := (∀ k : Nat, k ≠ 2 → k ≠ 4 → ¬ (t ≤ k ∧ k ≤ t + 10) → h0.1 k = h.1 k) ∧ (∀ q : Int, q ≠ 3 → h0.1 2 q = h.1 2 q) ∧ (h0.2.2 1 1 = t ∧ h0.2.2 1 2 = 60 - t) ∧ (∀ k : Nat, k ≠ 1 → h0.2.2 k = h.2.2 k) ∧ h0.2.1 = h.2.1 ∧ gxH h0 t g
set_option maxHeartbeats 2000000 in
set_option maxRecDepth 20000 in
theorem x_lay20 (h : AH) (hL0 : 0 ≤ h.1 2 1 ∧ h.1 2 1 ≤ 400) (hLd : h.2.2 1 1 = 40) (hTl : h.2.2 1 2 = 20) (hS : sRf h) : AMet yX11_lay cX11_lay 3 (some .int) 4 91 [.ref 1] h (Qi (fun z h' => layP h h' 20 z)) := by
  refine AMet.of (by decide) (Nat.le_of_ble_eq_true rfl) (fun G hM => ?_)
  have hG := hM.cx
  refine A_hm0 (G := G) (L := [(0, .ref 1)]) ?_
  refine A_aload_n hG 0 dX11_lay_0 rfl rfl ?_
  refine A_getR (r := 2) hG dX11_lay_1 fl_X11_12 (by decide) k1 (by decide) rfl ?_
  refine A_aload_n hG 0 dX11_lay_4 rfl rfl ?_
  refine A_getR (r := 20) hG dX11_lay_5 fl_X11_23 (by decide) k1 (by decide) hTl ?_
  refine C_Vi (as := [.ref 20]) (st := []) (k := 2) (c := 8) hG dX11_lay_8 ml_X11_104 mf_X9_tellTo mi_X9_tellTo se_X9_tellTo rfl (by decide) k2 (x_tellTo20 (hm h [] [] []) hL0) (by decide) (by decide) rfl rfl (Nat.le_of_ble_eq_true rfl) (fun z8 g8 ri_8 hp_8 => ?_)
  obtain ⟨ra_8, rb_8⟩ := ri_8
  have hq_8 : telP h g8 20 z8 := by
      obtain ⟨a0, a1, a2, a3, a4, a5, a6, a7, a8, a9, a10, e, nm, N, g1, hq, rfl⟩ := hp_8
      exact telP_20 hq
  clear hp_8
  refine A_hm0 ?_
  refine A_bipush (n := -4) hG dX11_lay_11 (by decide) ?_
  refine A_icmp_eq hG 19 dX11_lay_13 (by decide) (by constructor <;> omega) (by constructor <;> omega) (fun c_13 => ?_) (fun c_13 => ?_)
  ·
    obtain ⟨N, g, ⟨hP8, hG8⟩, hF8⟩ := hq_8
    have ez8 : z8 = -4 := by omega
    have hG8 := hG8 ez8
    rw [ez8] at hP8
    refine A_aload_n hG 0 dX11_lay_19 rfl rfl ?_
    have p_1 : ∀ (h0 : AH), (lay0 20 h h0 g) → G 37 [(0, .ref 1), (1, .ref 40)] [] (hm h0 [] [] []) := by
      intro h0 h0e
      refine A_iconst (n := 0) hG dX11_lay_37 ?_
      refine A_istore_n (L' := [(2, vI 0), (0, .ref 1), (1, .ref 40)]) hG dX11_lay_38 rfl (by decide) rfl ?_
      have i_2 : ∀ fu : Nat, ∀ (i : Int) (h1 : AH), (0 ≤ i ∧ i ≤ 8) → ((∀ k : Nat, ¬ (100 ≤ k ∧ k < 108) → h1.1 k = h0.1 k) ∧ h1.2.2 = h0.2.2) → (h1.2.1 = h0.2.1) → (∀ s : Int, 0 ≤ s → s < i → lenX h1 s = 0 ∧ qdX h1 s = 0) → ((9 - i).toNat) < fu → G 39 [(0, .ref 1), (1, .ref 40), (2, vI i)] [] (hm h1 [] [] []) := by
        intro fu
        induction fu with
        | zero => intro i h1 hi hA hB hZ hfu; exact absurd hfu (Nat.not_lt_zero _)
        | succ fu ih_i =>
          intro i h1 hi hA hB hZ hfu
          refine A_iload_n hG 2 dX11_lay_39 rfl rfl ?_
          refine A_bipush (n := 8) hG dX11_lay_40 (by decide) ?_
          refine A_icmp_ge hG 60 dX11_lay_42 (by decide) (by constructor <;> omega) (by constructor <;> omega) (fun c_42 => ?_) (fun c_42 => ?_)
          ·
            refine A_aload_n hG 0 dX11_lay_60 rfl rfl ?_
            refine A_iconst (n := 0) hG dX11_lay_61 ?_
            refine M_putI (z := 5) (li' := [(1, up (h1.1 1) 5 0)]) hG dX11_lay_62 fl_X11_38 (by decide) k1 nf_10_5 rfl rfl (by constructor <;> omega) (Or.inl rfl) rfl ?_
            refine A_aload_n hG 0 dX11_lay_65 rfl rfl ?_
            refine A_getR (r := 7) hG dX11_lay_66 fl_X11_45 (by decide) k1 (by decide) rfl ?_
            refine A_iconst (n := 0) hG dX11_lay_69 ?_
            refine M_putI (z := 1) (li' := [(1, up (h1.1 1) 5 0), (7, up (h1.1 7) 1 0)]) hG dX11_lay_70 fl_X11_111 (by decide) k7 nf_2_1 rfl rfl (by constructor <;> omega) (Or.inl rfl) rfl ?_
            refine A_aload_n hG 0 dX11_lay_73 rfl rfl ?_
            refine A_iconst (n := -1) hG dX11_lay_74 ?_
            refine M_putI (z := 13) (li' := [(1, up (up (h1.1 1) 5 0) 13 (-1)), (7, up (h1.1 7) 1 0)]) hG dX11_lay_75 fl_X11_88 (by decide) k1 nf_10_13 rfl rfl (by constructor <;> omega) (Or.inl rfl) rfl ?_
            refine A_aload_n hG 0 dX11_lay_78 rfl rfl ?_
            refine A_getR (r := 20) hG dX11_lay_79 fl_X11_19 (by decide) k1 (by decide) ((congrFun (congrFun hA.2 1) 1).trans h0e.2.2.1.1) ?_
            refine M_getI (z := 4) (v := (g 10 0)) hG dX11_lay_82 fl_X11_112 (by decide) k20 rfl rfl ((congrFun (hA.1 20 (by omega)) 4).trans h0e.2.2.2.2.2.1) (fun ⟨ra_82, rb_82⟩ => ?_)
            have hgr := hG8.1.1
            exact Ret_i hM dX11_lay_85 (by constructor <;> omega) (by
                refine Or.inr ⟨N, g, ⟨hP8, hG8.1, ?_, rfl⟩, ?_⟩
                · have e : ∀ k : Nat, 20 ≤ k → k ≤ 30 → h1.1 k = h0.1 k := fun k k1 k2 => hA.1 k (by omega)
                  show gxC (h1.1 20) _ _ _ _ _ _ _ _ _ _ g
                  rw [e 20 (by omega) (by omega)]
                  show gxC _ (h1.1 (20 + 1)) (h1.1 (20 + 2)) (h1.1 (20 + 3)) (h1.1 (20 + 4)) (h1.1 (20 + 5)) (h1.1 (20 + 6)) (h1.1 (20 + 7)) (h1.1 (20 + 8)) (h1.1 (20 + 9)) (h1.1 (20 + 10)) g
                  rw [e (20 + 1) (by omega) (by omega), e (20 + 2) (by omega) (by omega), e (20 + 3) (by omega) (by omega), e (20 + 4) (by omega) (by omega), e (20 + 5) (by omega) (by omega), e (20 + 6) (by omega) (by omega), e (20 + 7) (by omega) (by omega), e (20 + 8) (by omega) (by omega), e (20 + 9) (by omega) (by omega), e (20 + 10) (by omega) (by omega)]
                  exact h0e.2.2.2.2.2
                · refine ⟨fun k k1 k2 k3 k4 k5 k6 => ?_, fun q hq => ?_, ⟨rfl, rfl, rfl⟩, fun s s0 s1 => ?_, ⟨?_, ?_⟩, fun k k1 => ?_, ?_⟩
                  · simp (disch := omega) only [hm, alk, if_neg]; rw [hA.1 k (by omega)]; exact h0e.1 k k2 k3 k5
                  · show h1.1 2 q = _; rw [hA.1 2 (by omega)]; exact h0e.2.1 q hq
                  · unfold lenX qdX
                    simp (disch := omega) only [hm, alk, if_neg]; exact hZ s s0 (by omega)
                  · show h1.2.2 1 1 = _; rw [hA.2]; exact h0e.2.2.1.1
                  · show h1.2.2 1 2 = _; rw [hA.2]; exact h0e.2.2.1.2
                  · show h1.2.2 k = _; rw [hA.2]; exact h0e.2.2.2.1 k k1
                  · show h1.2.1 = _; rw [hB]; exact h0e.2.2.2.2.1)
          ·
            obtain ⟨r, hre⟩ : ∃ r : Nat, r = 100 + i.toNat := ⟨_, rfl⟩
            have hr : 100 ≤ r ∧ r < 212 := by omega
            refine A_aload_n hG 0 dX11_lay_45 rfl rfl ?_
            refine A_getR (r := 5) hG dX11_lay_46 fl_X11_28 (by decide) k1 (by decide) rfl ?_
            refine A_iload_n hG 2 dX11_lay_49 rfl rfl ?_
            refine M_aald (r := r) hG dX11_lay_50 (Or.inl k5) n5 (by omega) ((congrFun (congrFun hA.2 5) i).trans ((congrFun (h0e.2.2.2.1 5 (by omega)) i).trans ((hS i (by omega) (by omega)).trans hre.symm))) ?_
            refine C_Vv (as := []) (st := []) (k := r) (c := 7) hG dX11_lay_51 ml_X11_108 mf_X7_restart mi_X7_restart se_X7_restart rfl (by decide) (obk_row hr) (x_rrestart (hm h1 [] [] []) hr) (by decide) (by decide) rfl rfl (Nat.le_of_ble_eq_true rfl) (fun g51 hp_51 => ?_)
            subst hp_51
            refine A_hm (la := [(r, up (up (h1.1 r) 1 0) 2 0)]) (lb := []) (lc := []) rfl rfl rfl ?_
            refine A_iinc (L' := [(2, vI (i + 1)), (0, .ref 1), (1, .ref 40)]) hG 2 dX11_lay_54 rfl (by decide) rfl ?_
            refine A_goto hG 39 dX11_lay_57 (by decide) ?_
            refine A_sub hG [1, 2, 0] rfl ?_
            exact ih_i (i + 1) (hm h1 [(r, up (up (h1.1 r) 1 0) 2 0)] [] []) (by omega) (⟨fun k k1 => by simp (disch := omega) only [hm, alk, if_neg]; exact hA.1 k k1, hA.2⟩) hB (fun s s0 s1 => by
                unfold lenX qdX
                by_cases e : s = i
                · rw [e, ← hre]; simp (disch := omega) only [hm, alk, if_neg, ite_true]; exact ⟨rfl, rfl⟩
                · simp (disch := omega) only [hm, alk, if_neg]; exact hZ s s0 (by omega)) (by omega)
      refine A_sub hG [1, 2, 0] rfl ?_
      exact i_2 _ 0 h0 (by omega) (⟨fun _ _ => rfl, rfl⟩) rfl (fun s s0 s1 => by omega) (Nat.lt_succ_self _)
    refine A_getR (r := 40) hG dX11_lay_20 fl_X11_19 (by decide) k1 (by decide) ((congrFun (congrFun (congrArg Prod.snd hF8.2.2) 1) 1).trans hLd) ?_
    refine A_astore_n (L' := [(1, .ref 40), (0, .ref 1)]) hG dX11_lay_23 rfl (by decide) rfl ?_
    refine A_aload_n hG 1 dX11_lay_24 rfl rfl ?_
    refine A_aload_n hG 1 dX11_lay_25 rfl rfl ?_
    refine A_getR (r := 20) hG dX11_lay_26 fl_X11_23 (by decide) k1 (by decide) ((congrFun (congrFun (congrArg Prod.snd hF8.2.2) 1) 2).trans hTl) ?_
    refine M_putR (z := 1) (lr' := [(1, up (g8.2.2 1) 1 20)]) hG dX11_lay_29 fl_X11_19 (by decide) k1 nf_10_1 rfl rfl ⟨_, rfl⟩ rfl ?_
    refine A_aload_n hG 1 dX11_lay_32 rfl rfl ?_
    refine A_aload_n hG 0 dX11_lay_33 rfl rfl ?_
    refine M_putR (z := 2) (lr' := [(1, up (up (g8.2.2 1) 1 20) 2 40)]) hG dX11_lay_34 fl_X11_23 (by decide) k1 nf_10_2 rfl rfl ⟨_, rfl⟩ rfl ?_
    refine A_sub hG [1, 0] rfl ?_
    exact p_1 (hm g8 [] [] [(1, up (up (g8.2.2 1) 1 20) 2 40)]) (⟨fun k k1 k2 k3 => hF8.1 k k1 k2 k3, hF8.2.1, ⟨rfl, rfl⟩, fun k k1 => by
        simp only [hm, alk, if_neg k1]
        exact congrFun (congrArg Prod.snd hF8.2.2) k, (show g8.2.1 = h.2.1 from congrArg Prod.fst hF8.2.2), hG8.2⟩)
  ·
    obtain ⟨N, g, ⟨hP8, hG8⟩, hF8⟩ := hq_8
    refine A_bipush (n := -2) hG dX11_lay_16 (by decide) ?_
    exact Ret_i hM dX11_lay_18 (by constructor <;> omega) (Or.inl ⟨rfl, ⟨N, g, z8, c_13, hP8⟩, hF8⟩)

set_option maxHeartbeats 2000000 in
set_option maxRecDepth 20000 in
theorem x_lay40 (h : AH) (hL0 : 0 ≤ h.1 2 1 ∧ h.1 2 1 ≤ 400) (hLd : h.2.2 1 1 = 20) (hTl : h.2.2 1 2 = 40) (hS : sRf h) : AMet yX11_lay cX11_lay 3 (some .int) 4 91 [.ref 1] h (Qi (fun z h' => layP h h' 40 z)) := by
  refine AMet.of (by decide) (Nat.le_of_ble_eq_true rfl) (fun G hM => ?_)
  have hG := hM.cx
  refine A_hm0 (G := G) (L := [(0, .ref 1)]) ?_
  refine A_aload_n hG 0 dX11_lay_0 rfl rfl ?_
  refine A_getR (r := 2) hG dX11_lay_1 fl_X11_12 (by decide) k1 (by decide) rfl ?_
  refine A_aload_n hG 0 dX11_lay_4 rfl rfl ?_
  refine A_getR (r := 40) hG dX11_lay_5 fl_X11_23 (by decide) k1 (by decide) hTl ?_
  refine C_Vi (as := [.ref 40]) (st := []) (k := 2) (c := 8) hG dX11_lay_8 ml_X11_104 mf_X9_tellTo mi_X9_tellTo se_X9_tellTo rfl (by decide) k2 (x_tellTo40 (hm h [] [] []) hL0) (by decide) (by decide) rfl rfl (Nat.le_of_ble_eq_true rfl) (fun z8 g8 ri_8 hp_8 => ?_)
  obtain ⟨ra_8, rb_8⟩ := ri_8
  have hq_8 : telP h g8 40 z8 := by
      obtain ⟨a0, a1, a2, a3, a4, a5, a6, a7, a8, a9, a10, e, nm, N, g1, hq, rfl⟩ := hp_8
      exact telP_40 hq
  clear hp_8
  refine A_hm0 ?_
  refine A_bipush (n := -4) hG dX11_lay_11 (by decide) ?_
  refine A_icmp_eq hG 19 dX11_lay_13 (by decide) (by constructor <;> omega) (by constructor <;> omega) (fun c_13 => ?_) (fun c_13 => ?_)
  ·
    obtain ⟨N, g, ⟨hP8, hG8⟩, hF8⟩ := hq_8
    have ez8 : z8 = -4 := by omega
    have hG8 := hG8 ez8
    rw [ez8] at hP8
    refine A_aload_n hG 0 dX11_lay_19 rfl rfl ?_
    have p_1 : ∀ (h0 : AH), (lay0 40 h h0 g) → G 37 [(0, .ref 1), (1, .ref 20)] [] (hm h0 [] [] []) := by
      intro h0 h0e
      refine A_iconst (n := 0) hG dX11_lay_37 ?_
      refine A_istore_n (L' := [(2, vI 0), (0, .ref 1), (1, .ref 20)]) hG dX11_lay_38 rfl (by decide) rfl ?_
      have i_2 : ∀ fu : Nat, ∀ (i : Int) (h1 : AH), (0 ≤ i ∧ i ≤ 8) → ((∀ k : Nat, ¬ (100 ≤ k ∧ k < 108) → h1.1 k = h0.1 k) ∧ h1.2.2 = h0.2.2) → (h1.2.1 = h0.2.1) → (∀ s : Int, 0 ≤ s → s < i → lenX h1 s = 0 ∧ qdX h1 s = 0) → ((9 - i).toNat) < fu → G 39 [(0, .ref 1), (1, .ref 20), (2, vI i)] [] (hm h1 [] [] []) := by
        intro fu
        induction fu with
        | zero => intro i h1 hi hA hB hZ hfu; exact absurd hfu (Nat.not_lt_zero _)
        | succ fu ih_i =>
          intro i h1 hi hA hB hZ hfu
          refine A_iload_n hG 2 dX11_lay_39 rfl rfl ?_
          refine A_bipush (n := 8) hG dX11_lay_40 (by decide) ?_
          refine A_icmp_ge hG 60 dX11_lay_42 (by decide) (by constructor <;> omega) (by constructor <;> omega) (fun c_42 => ?_) (fun c_42 => ?_)
          ·
            refine A_aload_n hG 0 dX11_lay_60 rfl rfl ?_
            refine A_iconst (n := 0) hG dX11_lay_61 ?_
            refine M_putI (z := 5) (li' := [(1, up (h1.1 1) 5 0)]) hG dX11_lay_62 fl_X11_38 (by decide) k1 nf_10_5 rfl rfl (by constructor <;> omega) (Or.inl rfl) rfl ?_
            refine A_aload_n hG 0 dX11_lay_65 rfl rfl ?_
            refine A_getR (r := 7) hG dX11_lay_66 fl_X11_45 (by decide) k1 (by decide) rfl ?_
            refine A_iconst (n := 0) hG dX11_lay_69 ?_
            refine M_putI (z := 1) (li' := [(1, up (h1.1 1) 5 0), (7, up (h1.1 7) 1 0)]) hG dX11_lay_70 fl_X11_111 (by decide) k7 nf_2_1 rfl rfl (by constructor <;> omega) (Or.inl rfl) rfl ?_
            refine A_aload_n hG 0 dX11_lay_73 rfl rfl ?_
            refine A_iconst (n := -1) hG dX11_lay_74 ?_
            refine M_putI (z := 13) (li' := [(1, up (up (h1.1 1) 5 0) 13 (-1)), (7, up (h1.1 7) 1 0)]) hG dX11_lay_75 fl_X11_88 (by decide) k1 nf_10_13 rfl rfl (by constructor <;> omega) (Or.inl rfl) rfl ?_
            refine A_aload_n hG 0 dX11_lay_78 rfl rfl ?_
            refine A_getR (r := 40) hG dX11_lay_79 fl_X11_19 (by decide) k1 (by decide) ((congrFun (congrFun hA.2 1) 1).trans h0e.2.2.1.1) ?_
            refine M_getI (z := 4) (v := (g 10 0)) hG dX11_lay_82 fl_X11_112 (by decide) k40 rfl rfl ((congrFun (hA.1 40 (by omega)) 4).trans h0e.2.2.2.2.2.1) (fun ⟨ra_82, rb_82⟩ => ?_)
            have hgr := hG8.1.1
            exact Ret_i hM dX11_lay_85 (by constructor <;> omega) (by
                refine Or.inr ⟨N, g, ⟨hP8, hG8.1, ?_, rfl⟩, ?_⟩
                · have e : ∀ k : Nat, 40 ≤ k → k ≤ 50 → h1.1 k = h0.1 k := fun k k1 k2 => hA.1 k (by omega)
                  show gxC (h1.1 40) _ _ _ _ _ _ _ _ _ _ g
                  rw [e 40 (by omega) (by omega)]
                  show gxC _ (h1.1 (40 + 1)) (h1.1 (40 + 2)) (h1.1 (40 + 3)) (h1.1 (40 + 4)) (h1.1 (40 + 5)) (h1.1 (40 + 6)) (h1.1 (40 + 7)) (h1.1 (40 + 8)) (h1.1 (40 + 9)) (h1.1 (40 + 10)) g
                  rw [e (40 + 1) (by omega) (by omega), e (40 + 2) (by omega) (by omega), e (40 + 3) (by omega) (by omega), e (40 + 4) (by omega) (by omega), e (40 + 5) (by omega) (by omega), e (40 + 6) (by omega) (by omega), e (40 + 7) (by omega) (by omega), e (40 + 8) (by omega) (by omega), e (40 + 9) (by omega) (by omega), e (40 + 10) (by omega) (by omega)]
                  exact h0e.2.2.2.2.2
                · refine ⟨fun k k1 k2 k3 k4 k5 k6 => ?_, fun q hq => ?_, ⟨rfl, rfl, rfl⟩, fun s s0 s1 => ?_, ⟨?_, ?_⟩, fun k k1 => ?_, ?_⟩
                  · simp (disch := omega) only [hm, alk, if_neg]; rw [hA.1 k (by omega)]; exact h0e.1 k k2 k3 k5
                  · show h1.1 2 q = _; rw [hA.1 2 (by omega)]; exact h0e.2.1 q hq
                  · unfold lenX qdX
                    simp (disch := omega) only [hm, alk, if_neg]; exact hZ s s0 (by omega)
                  · show h1.2.2 1 1 = _; rw [hA.2]; exact h0e.2.2.1.1
                  · show h1.2.2 1 2 = _; rw [hA.2]; exact h0e.2.2.1.2
                  · show h1.2.2 k = _; rw [hA.2]; exact h0e.2.2.2.1 k k1
                  · show h1.2.1 = _; rw [hB]; exact h0e.2.2.2.2.1)
          ·
            obtain ⟨r, hre⟩ : ∃ r : Nat, r = 100 + i.toNat := ⟨_, rfl⟩
            have hr : 100 ≤ r ∧ r < 212 := by omega
            refine A_aload_n hG 0 dX11_lay_45 rfl rfl ?_
            refine A_getR (r := 5) hG dX11_lay_46 fl_X11_28 (by decide) k1 (by decide) rfl ?_
            refine A_iload_n hG 2 dX11_lay_49 rfl rfl ?_
            refine M_aald (r := r) hG dX11_lay_50 (Or.inl k5) n5 (by omega) ((congrFun (congrFun hA.2 5) i).trans ((congrFun (h0e.2.2.2.1 5 (by omega)) i).trans ((hS i (by omega) (by omega)).trans hre.symm))) ?_
            refine C_Vv (as := []) (st := []) (k := r) (c := 7) hG dX11_lay_51 ml_X11_108 mf_X7_restart mi_X7_restart se_X7_restart rfl (by decide) (obk_row hr) (x_rrestart (hm h1 [] [] []) hr) (by decide) (by decide) rfl rfl (Nat.le_of_ble_eq_true rfl) (fun g51 hp_51 => ?_)
            subst hp_51
            refine A_hm (la := [(r, up (up (h1.1 r) 1 0) 2 0)]) (lb := []) (lc := []) rfl rfl rfl ?_
            refine A_iinc (L' := [(2, vI (i + 1)), (0, .ref 1), (1, .ref 20)]) hG 2 dX11_lay_54 rfl (by decide) rfl ?_
            refine A_goto hG 39 dX11_lay_57 (by decide) ?_
            refine A_sub hG [1, 2, 0] rfl ?_
            exact ih_i (i + 1) (hm h1 [(r, up (up (h1.1 r) 1 0) 2 0)] [] []) (by omega) (⟨fun k k1 => by simp (disch := omega) only [hm, alk, if_neg]; exact hA.1 k k1, hA.2⟩) hB (fun s s0 s1 => by
                unfold lenX qdX
                by_cases e : s = i
                · rw [e, ← hre]; simp (disch := omega) only [hm, alk, if_neg, ite_true]; exact ⟨rfl, rfl⟩
                · simp (disch := omega) only [hm, alk, if_neg]; exact hZ s s0 (by omega)) (by omega)
      refine A_sub hG [1, 2, 0] rfl ?_
      exact i_2 _ 0 h0 (by omega) (⟨fun _ _ => rfl, rfl⟩) rfl (fun s s0 s1 => by omega) (Nat.lt_succ_self _)
    refine A_getR (r := 20) hG dX11_lay_20 fl_X11_19 (by decide) k1 (by decide) ((congrFun (congrFun (congrArg Prod.snd hF8.2.2) 1) 1).trans hLd) ?_
    refine A_astore_n (L' := [(1, .ref 20), (0, .ref 1)]) hG dX11_lay_23 rfl (by decide) rfl ?_
    refine A_aload_n hG 1 dX11_lay_24 rfl rfl ?_
    refine A_aload_n hG 1 dX11_lay_25 rfl rfl ?_
    refine A_getR (r := 40) hG dX11_lay_26 fl_X11_23 (by decide) k1 (by decide) ((congrFun (congrFun (congrArg Prod.snd hF8.2.2) 1) 2).trans hTl) ?_
    refine M_putR (z := 1) (lr' := [(1, up (g8.2.2 1) 1 40)]) hG dX11_lay_29 fl_X11_19 (by decide) k1 nf_10_1 rfl rfl ⟨_, rfl⟩ rfl ?_
    refine A_aload_n hG 1 dX11_lay_32 rfl rfl ?_
    refine A_aload_n hG 0 dX11_lay_33 rfl rfl ?_
    refine M_putR (z := 2) (lr' := [(1, up (up (g8.2.2 1) 1 40) 2 20)]) hG dX11_lay_34 fl_X11_23 (by decide) k1 nf_10_2 rfl rfl ⟨_, rfl⟩ rfl ?_
    refine A_sub hG [1, 0] rfl ?_
    exact p_1 (hm g8 [] [] [(1, up (up (g8.2.2 1) 1 40) 2 20)]) (⟨fun k k1 k2 k3 => hF8.1 k k1 k2 k3, hF8.2.1, ⟨rfl, rfl⟩, fun k k1 => by
        simp only [hm, alk, if_neg k1]
        exact congrFun (congrArg Prod.snd hF8.2.2) k, (show g8.2.1 = h.2.1 from congrArg Prod.fst hF8.2.2), hG8.2⟩)
  ·
    obtain ⟨N, g, ⟨hP8, hG8⟩, hF8⟩ := hq_8
    refine A_bipush (n := -2) hG dX11_lay_16 (by decide) ?_
    exact Ret_i hM dX11_lay_18 (by constructor <;> omega) (Or.inl ⟨rfl, ⟨N, g, z8, c_13, hP8⟩, hF8⟩)

theorem all_cnt {g : Gm} {w : Int → Int} {n : Int} {f : Int → Int64} (hn : 1 ≤ n ∧ n ≤ 8) (hf : ∀ n' f', 1 ≤ n' → 0 ≤ f' → f' + n' ≤ n → ∀ k m, 0 ≤ k → k ≤ 9 → 0 ≤ m → m < 4 → f (40 * (8 * f' + n' - 1) + (4 * k + m)) = Int64.ofNat (cnt g w n' f' k m)) :
    f (40 * (n - 1)) + f (40 * (n - 1) + 1) + f (40 * (n - 1) + 2) + f (40 * (n - 1) + 3) = Int64.ofNat (cnt g w n 0 0 0 + cnt g w n 0 0 1 + cnt g w n 0 0 2 + cnt g w n 0 0 3) := by
  have e : ∀ m, 0 ≤ m → m < 4 → f (40 * (n - 1) + m) = Int64.ofNat (cnt g w n 0 0 m) := fun m m0 m1 => by
    have := hf n 0 hn.1 (by omega) (by omega) 0 m (by omega) (by omega) m0 m1
    rw [show 40 * (8 * 0 + n - 1) + (4 * 0 + m) = 40 * (n - 1) + m by omega] at this
    exact this
  have e0 := e 0 (by omega) (by omega)
  rw [Int.add_zero] at e0
  rw [e0, e 1 (by omega) (by omega), e 2 (by omega) (by omega), e 3 (by omega) (by omega), Int64.ofNat_add, Int64.ofNat_add, Int64.ofNat_add]
theorem pos_cnt {n : Nat} (h : n < 2 ^ 63) : (lcmpI (Int64.ofNat n) (i2l 0) ≤ 0 ↔ n = 0) := by
  have e := ofN_toInt h
  have e0 : (i2l 0).toInt = 0 := by decide
  unfold lcmpI
  by_cases c1 : i2l 0 < Int64.ofNat n
  · rw [if_pos c1]
    rw [Int64.lt_iff_toInt_lt, e, e0] at c1
    constructor
    · intro q; omega
    · intro q; omega
  · rw [if_neg c1]
    have c2 := c1
    rw [Int64.lt_iff_toInt_lt, e, e0] at c2
    constructor
    · intro _; omega
    · intro _; split <;> omega
set_option maxHeartbeats 2000000 in
set_option maxRecDepth 20000 in
theorem x_trees (h : AH) {gn : Nat} {g : Gm} (hCI : CI h gn g) {s m : Int} (hs : ir s) (hm0 : ir m) : AMet yX11_trees cX11_trees 4 (some .long) 4 108 [.ref 1, vI s, vI m] h (Ql (fun z h' => ((z = i2l (-1) ∧ (s < 0 ∨ 7 < s ∨ m < -1 ∨ 3 < m)) ∨ (z = i2l (-2) ∧ (0 ≤ s ∧ s ≤ 7 ∧ -1 ≤ m ∧ m ≤ 3) ∧ lenX h s = 0) ∨ ((0 ≤ s ∧ s ≤ 7 ∧ -1 ≤ m ∧ m ≤ 3) ∧ lenX h s ≠ 0 ∧ ((m = -1 ∧ z = Int64.ofNat (cnt g (rwX h s) (lenX h s) 0 0 0 + cnt g (rwX h s) (lenX h s) 0 0 1 + cnt g (rwX h s) (lenX h s) 0 0 2 + cnt g (rwX h s) (lenX h s) 0 0 3)) ∨ (m ≠ -1 ∧ z = Int64.ofNat (cnt g (rwX h s) (lenX h s) 0 0 m))))) ∧ frC h h' ∧ sd h' g)) := by
  have hCI0 := hCI
  obtain ⟨hg, ⟨hLd, hTl⟩, hgx, hOk, hL0, hE0, hK0, hWs, hKb, hS, hKr, hPer, hTf, hV13, hCc⟩ := hCI
  have hgw := hOk.1
  have hgr := hOk.2.1
  obtain ⟨hs1, hs2⟩ := hs
  obtain ⟨hm1, hm2⟩ := hm0
  refine AMet.of (by decide) (Nat.le_of_ble_eq_true rfl) (fun G hM => ?_)
  have hG := hM.cx
  refine A_hm0 (G := G) (L := [(0, .ref 1), (1, vI s), (2, vI m)]) ?_
  refine A_iload_n hG 1 dX11_trees_0 rfl rfl ?_
  refine C_Si (as := [vI s]) (st := []) hG dX11_trees_1 ml_X11_119 mf_X11_isSentence ms_X11_isSentence (x_isSentence (hm h [] [] []) (by constructor <;> omega)) (by decide) (by decide) rfl rfl (Nat.le_of_ble_eq_true rfl) (fun z1 g1 ri_1 hp_1 => ?_)
  obtain ⟨ra_1, rb_1⟩ := ri_1
  obtain ⟨hz1, rfl⟩ := hp_1
  refine A_if_eq hG 16 dX11_trees_4 (by decide) (by constructor <;> omega) (fun c_4 => ?_) (fun c_4 => ?_)
  ·
    refine A_ldc2 (v := i2l (-1)) hG dX11_trees_16 (by rw [show i2l (-1) = (-1 : Int64) by decide]; exact kl_X11_128) ?_
    exact Ret_l hM dX11_trees_19 (⟨Or.inl ⟨rfl, by omega⟩, ⟨frC_rf _, hCI0.2.2.2.2.2.2.2.2.2⟩⟩)
  ·
    refine A_iload_n hG 2 dX11_trees_7 rfl rfl ?_
    refine A_iconst (n := -1) hG dX11_trees_8 ?_
    refine A_iconst (n := 3) hG dX11_trees_9 ?_
    refine C_Si (as := [vI m, vI (-1), vI 3]) (st := []) hG dX11_trees_10 ml_X11_93 mf_X11_isWithin ms_X11_isWithin (x_isWithin (hm h [] [] []) (by constructor <;> omega) (by constructor <;> omega) (by constructor <;> omega)) (by decide) (by decide) rfl rfl (Nat.le_of_ble_eq_true rfl) (fun z10 g10 ri_10 hp_10 => ?_)
    obtain ⟨ra_10, rb_10⟩ := ri_10
    obtain ⟨hz10, rfl⟩ := hp_10
    refine A_if_ne hG 20 dX11_trees_13 (by decide) (by constructor <;> omega) (fun c_13 => ?_) (fun c_13 => ?_)
    ·
      obtain ⟨r, hre⟩ : ∃ r : Nat, r = 100 + (s).toNat := ⟨_, rfl⟩
      have hr0 : 100 ≤ r ∧ r < 108 := by omega
      have hr : 100 ≤ r ∧ r < 212 := by omega
      have hwr : rowX h r (lenX h s) (rwX h s) := by rw [hre]; exact rowX_s
      have hqr : h.1 r 2 = qdX h s := by rw [hre]; rfl
      have hW := hWs s (by omega) (by omega)
      have hn8 := hW.1
      refine A_aload_n hG 0 dX11_trees_20 rfl rfl ?_
      refine A_getR (r := 5) hG dX11_trees_21 fl_X11_28 (by decide) k1 (by decide) rfl ?_
      refine A_iload_n hG 1 dX11_trees_24 rfl rfl ?_
      refine M_aald (r := r) hG dX11_trees_25 (Or.inl k5) n5 (by omega) ((hS s (by omega) (by omega)).trans hre.symm) ?_
      refine A_astore_n (L' := [(3, .ref r), (0, .ref 1), (1, vI s), (2, vI m)]) hG dX11_trees_26 rfl (by decide) rfl ?_
      refine A_aload_n hG 0 dX11_trees_27 rfl rfl ?_
      refine M_getI (z := 1) (v := (lenX h s)) hG dX11_trees_28 fl_X11_123 (by decide) (obk_row hr) rfl rfl hwr.1 (fun ⟨ra_28, rb_28⟩ => ?_)
      refine A_if_ne hG 38 dX11_trees_31 (by decide) (by constructor <;> omega) (fun c_31 => ?_) (fun c_31 => ?_)
      ·
        refine A_aload_n hG 1 dX11_trees_38 rfl rfl ?_
        refine A_getR (r := 10) hG dX11_trees_39 fl_X11_56 (by decide) k1 (by decide) rfl ?_
        refine A_aload_n hG 1 dX11_trees_42 rfl rfl ?_
        refine A_getR (r := gn) hG dX11_trees_43 fl_X11_19 (by decide) k1 (by decide) hLd ?_
        refine A_aload_n hG 0 dX11_trees_46 rfl rfl ?_
        refine C_Vv (as := [.ref gn, .ref r]) (st := []) (k := 10) (c := 9) hG dX11_trees_47 ml_X11_132 mf_X10_fill mi_X10_fill se_X10_fill rfl (by decide) k10 (x_fill (hm h [] [] []) hg (g := g) hgx hr hOk (n := (lenX h s)) (w := (rwX h s)) hwr hW) (by decide) (by decide) rfl rfl (Nat.le_of_ble_eq_true rfl) (fun g47 hp_47 => ?_)
        have hq_47 : ∃ fx : Int → Int64, (∀ n' f', 1 ≤ n' → 0 ≤ f' → f' + n' ≤ (lenX h s) → ∀ k m, 0 ≤ k → k ≤ 9 → 0 ≤ m → m < 4 → fx (40 * (8 * f' + n' - 1) + (4 * k + m)) = Int64.ofNat (cnt g (rwX h s) n' f' k m)) ∧ g47 = hm (hm h [] [] []) [] [(11, fx)] [] := hp_47
        clear hp_47
        obtain ⟨f47, hf47, rfl⟩ := hq_47
        refine A_hm (la := []) (lb := [(11, f47)]) (lc := []) rfl rfl rfl ?_
        refine A_iload_n hG 3 dX11_trees_50 rfl rfl ?_
        refine A_iconst (n := -1) hG dX11_trees_51 ?_
        refine A_icmp_ne hG 69 dX11_trees_52 (by decide) (by constructor <;> omega) (by constructor <;> omega) (fun c_52 => ?_) (fun c_52 => ?_)
        ·
          refine A_aload_n hG 1 dX11_trees_69 rfl rfl ?_
          refine A_getR (r := 10) hG dX11_trees_70 fl_X11_56 (by decide) k1 (by decide) rfl ?_
          refine A_iconst (n := 0) hG dX11_trees_73 ?_
          refine A_aload_n hG 0 dX11_trees_74 rfl rfl ?_
          refine M_getI (z := 1) (v := (lenX h s)) hG dX11_trees_75 fl_X11_123 (by decide) (obk_row hr) rfl rfl hwr.1 (fun ⟨ra_75, rb_75⟩ => ?_)
          refine A_iconst (n := 0) hG dX11_trees_78 ?_
          refine A_iload_n hG 3 dX11_trees_79 rfl rfl ?_
          refine C_Vl (as := [vI 0, vI (lenX h s), vI 0, vI m]) (st := []) (k := 10) (c := 9) hG dX11_trees_80 ml_X11_140 mf_X10_treesOver mi_X10_treesOver se_X10_treesOver rfl (by decide) k10 (x_treesOver (hm h [] [(11, f47)] []) (f := 0) (n := (lenX h s)) (k := 0) (m := m) (by omega) (by omega) (by omega) (by omega)) (by decide) (by decide) rfl rfl (Nat.le_of_ble_eq_true rfl) (fun z80 g80 hp_80 => ?_)
          have hq_80 : z80 = f47 (40 * (8 * 0 + (lenX h s) - 1) + (4 * 0 + m)) ∧ g80 = hm h [] [(11, f47)] [] := hp_80
          clear hp_80
          obtain ⟨hz80, rfl⟩ := hq_80
          exact Ret_l hM dX11_trees_83 (⟨Or.inr (Or.inr ⟨by omega, by omega, Or.inr ⟨by omega, hz80.trans (hf47 _ 0 (by omega) (by omega) (by omega) 0 m (by omega) (by omega) (by omega) (by omega))⟩⟩), ⟨⟨fun _ _ => rfl, fun _ _ => rfl, fun k k1 => by simp (disch := omega) only [hm, alk, if_neg], fun _ _ => rfl⟩, hCI0.2.2.2.2.2.2.2.2.2⟩⟩)
        ·
          refine A_aload_n hG 1 dX11_trees_55 rfl rfl ?_
          refine A_getR (r := 10) hG dX11_trees_56 fl_X11_56 (by decide) k1 (by decide) rfl ?_
          refine A_aload_n hG 0 dX11_trees_59 rfl rfl ?_
          refine M_getI (z := 1) (v := (lenX h s)) hG dX11_trees_60 fl_X11_123 (by decide) (obk_row hr) rfl rfl hwr.1 (fun ⟨ra_60, rb_60⟩ => ?_)
          refine C_Vl (as := [vI (lenX h s)]) (st := []) (k := 10) (c := 9) hG dX11_trees_63 ml_X11_136 mf_X10_overAll mi_X10_overAll se_X10_overAll rfl (by decide) k10 (x_overAll (hm h [] [(11, f47)] []) (n := (lenX h s)) (by omega)) (by decide) (by decide) rfl rfl (Nat.le_of_ble_eq_true rfl) (fun z63 g63 hp_63 => ?_)
          have hq_63 : z63 = f47 (40 * ((lenX h s) - 1)) + f47 (40 * ((lenX h s) - 1) + 1) + f47 (40 * ((lenX h s) - 1) + 2) + f47 (40 * ((lenX h s) - 1) + 3) ∧ g63 = hm h [] [(11, f47)] [] := hp_63
          clear hp_63
          obtain ⟨hz63, rfl⟩ := hq_63
          refine A_goto hG 83 dX11_trees_66 (by decide) ?_
          exact Ret_l hM dX11_trees_83 (⟨Or.inr (Or.inr ⟨by omega, by omega, Or.inl ⟨by omega, hz63.trans (all_cnt (by omega) hf47)⟩⟩), ⟨⟨fun _ _ => rfl, fun _ _ => rfl, fun k k1 => by simp (disch := omega) only [hm, alk, if_neg], fun _ _ => rfl⟩, hCI0.2.2.2.2.2.2.2.2.2⟩⟩)
      ·
        refine A_ldc2 (v := i2l (-2)) hG dX11_trees_34 (by rw [show i2l (-2) = (-2 : Int64) by decide]; exact kl_X11_130) ?_
        exact Ret_l hM dX11_trees_37 (⟨Or.inr (Or.inl ⟨rfl, by omega, by omega⟩), ⟨frC_rf _, hCI0.2.2.2.2.2.2.2.2.2⟩⟩)
    ·
      refine A_ldc2 (v := i2l (-1)) hG dX11_trees_16 (by rw [show i2l (-1) = (-1 : Int64) by decide]; exact kl_X11_128) ?_
      exact Ret_l hM dX11_trees_19 (⟨Or.inl ⟨rfl, by omega⟩, ⟨frC_rf _, hCI0.2.2.2.2.2.2.2.2.2⟩⟩)

set_option maxHeartbeats 2000000 in
set_option maxRecDepth 20000 in
theorem x_part (h : AH) {gn : Nat} {g : Gm} (hCI : CI h gn g) {s f n k m : Int} (hs : ir s) (hf : ir f) (hn : ir n) (hk : ir k) (hm0 : ir m) : AMet yX11_part cX11_part 7 (some .int) 4 108 [.ref 1, vI s, vI f, vI n, vI k, vI m] h (Qi (fun z h' => ((z = -1 ∧ (s < 0 ∨ 7 < s ∨ f < 0 ∨ n < 1 ∨ (0 ≤ s ∧ s ≤ 7 ∧ lenX h s - f < n) ∨ k < 0 ∨ 9 < k ∨ m < 0 ∨ 3 < m)) ∨ (((0 ≤ s ∧ s ≤ 7) ∧ 0 ≤ f ∧ (1 ≤ n ∧ n ≤ lenX h s - f) ∧ (0 ≤ k ∧ k ≤ 9) ∧ (0 ≤ m ∧ m ≤ 3)) ∧ ((z = 1 ∧ rd g (hasb 0) (rwX h s) n f k m) ∨ (z = 0 ∧ ¬ rd g (hasb 0) (rwX h s) n f k m)))) ∧ frC h h' ∧ sd h' g)) := by
  have hCI0 := hCI
  obtain ⟨hg, ⟨hLd, hTl⟩, hgx, hOk, hL0, hE0, hK0, hWs, hKb, hS, hKr, hPer, hTf, hV13, hCc⟩ := hCI
  have hgw := hOk.1
  have hgr := hOk.2.1
  obtain ⟨hs1, hs2⟩ := hs
  obtain ⟨hf1, hf2⟩ := hf
  obtain ⟨hn1, hn2⟩ := hn
  obtain ⟨hk1, hk2⟩ := hk
  obtain ⟨hm1, hm2⟩ := hm0
  refine AMet.of (by decide) (Nat.le_of_ble_eq_true rfl) (fun G hM => ?_)
  have hG := hM.cx
  refine A_hm0 (G := G) (L := [(0, .ref 1), (1, vI s), (2, vI f), (3, vI n), (4, vI k), (5, vI m)]) ?_
  refine A_iload_n hG 1 dX11_part_0 rfl rfl ?_
  refine C_Si (as := [vI s]) (st := []) hG dX11_part_1 ml_X11_119 mf_X11_isSentence ms_X11_isSentence (x_isSentence (hm h [] [] []) (by constructor <;> omega)) (by decide) (by decide) rfl rfl (Nat.le_of_ble_eq_true rfl) (fun z1 g1 ri_1 hp_1 => ?_)
  obtain ⟨ra_1, rb_1⟩ := ri_1
  obtain ⟨hz1, rfl⟩ := hp_1
  refine A_if_eq hG 28 dX11_part_4 (by decide) (by constructor <;> omega) (fun c_4 => ?_) (fun c_4 => ?_)
  ·
    refine A_iconst (n := -1) hG dX11_part_28 ?_
    exact Ret_i hM dX11_part_29 (by constructor <;> omega) (⟨Or.inl ⟨rfl, by omega⟩, ⟨frC_rf _, hCI0.2.2.2.2.2.2.2.2.2⟩⟩)
  ·
    refine A_iload hG 4 dX11_part_7 rfl ?_
    refine A_iconst (n := 0) hG dX11_part_9 ?_
    refine A_bipush (n := 9) hG dX11_part_10 (by decide) ?_
    refine C_Si (as := [vI k, vI 0, vI 9]) (st := []) hG dX11_part_12 ml_X11_93 mf_X11_isWithin ms_X11_isWithin (x_isWithin (hm h [] [] []) (by constructor <;> omega) (by constructor <;> omega) (by constructor <;> omega)) (by decide) (by decide) rfl rfl (Nat.le_of_ble_eq_true rfl) (fun z12 g12 ri_12 hp_12 => ?_)
    obtain ⟨ra_12, rb_12⟩ := ri_12
    obtain ⟨hz12, rfl⟩ := hp_12
    refine A_if_eq hG 28 dX11_part_15 (by decide) (by constructor <;> omega) (fun c_15 => ?_) (fun c_15 => ?_)
    ·
      refine A_iconst (n := -1) hG dX11_part_28 ?_
      exact Ret_i hM dX11_part_29 (by constructor <;> omega) (⟨Or.inl ⟨rfl, by omega⟩, ⟨frC_rf _, hCI0.2.2.2.2.2.2.2.2.2⟩⟩)
    ·
      refine A_iload hG 5 dX11_part_18 rfl ?_
      refine A_iconst (n := 0) hG dX11_part_20 ?_
      refine A_iconst (n := 3) hG dX11_part_21 ?_
      refine C_Si (as := [vI m, vI 0, vI 3]) (st := []) hG dX11_part_22 ml_X11_93 mf_X11_isWithin ms_X11_isWithin (x_isWithin (hm h [] [] []) (by constructor <;> omega) (by constructor <;> omega) (by constructor <;> omega)) (by decide) (by decide) rfl rfl (Nat.le_of_ble_eq_true rfl) (fun z22 g22 ri_22 hp_22 => ?_)
      obtain ⟨ra_22, rb_22⟩ := ri_22
      obtain ⟨hz22, rfl⟩ := hp_22
      refine A_if_ne hG 30 dX11_part_25 (by decide) (by constructor <;> omega) (fun c_25 => ?_) (fun c_25 => ?_)
      ·
        obtain ⟨r, hre⟩ : ∃ r : Nat, r = 100 + (s).toNat := ⟨_, rfl⟩
        have hr0 : 100 ≤ r ∧ r < 108 := by omega
        have hr : 100 ≤ r ∧ r < 212 := by omega
        have hwr : rowX h r (lenX h s) (rwX h s) := by rw [hre]; exact rowX_s
        have hqr : h.1 r 2 = qdX h s := by rw [hre]; rfl
        have hW := hWs s (by omega) (by omega)
        have hn8 := hW.1
        refine A_aload_n hG 0 dX11_part_30 rfl rfl ?_
        refine A_getR (r := 5) hG dX11_part_31 fl_X11_28 (by decide) k1 (by decide) rfl ?_
        refine A_iload_n hG 1 dX11_part_34 rfl rfl ?_
        refine M_aald (r := r) hG dX11_part_35 (Or.inl k5) n5 (by omega) ((hS s (by omega) (by omega)).trans hre.symm) ?_
        refine A_astore (L' := [(6, .ref r), (0, .ref 1), (1, vI s), (2, vI f), (3, vI n), (4, vI k), (5, vI m)]) hG dX11_part_36 (by decide) rfl ?_
        refine A_iload_n hG 3 dX11_part_38 rfl rfl ?_
        refine A_iconst (n := 0) hG dX11_part_39 ?_
        refine A_aload hG 0 dX11_part_40 rfl ?_
        refine M_getI (z := 1) (v := (lenX h s)) hG dX11_part_42 fl_X11_123 (by decide) (obk_row hr) rfl rfl hwr.1 (fun ⟨ra_42, rb_42⟩ => ?_)
        refine A_iconst (n := 1) hG dX11_part_45 ?_
        refine A_isub hG dX11_part_46 ?_
        refine C_Si (as := [vI f, vI 0, vI ((lenX h s) - 1)]) (st := []) hG dX11_part_47 ml_X11_93 mf_X11_isWithin ms_X11_isWithin (x_isWithin (hm h [] [] []) (by constructor <;> omega) (by constructor <;> omega) (by constructor <;> omega)) (by decide) (by decide) rfl rfl (Nat.le_of_ble_eq_true rfl) (fun z47 g47 ri_47 hp_47 => ?_)
        obtain ⟨ra_47, rb_47⟩ := ri_47
        obtain ⟨hz47, rfl⟩ := hp_47
        refine A_if_eq hG 68 dX11_part_50 (by decide) (by constructor <;> omega) (fun c_50 => ?_) (fun c_50 => ?_)
        ·
          refine A_iconst (n := -1) hG dX11_part_68 ?_
          exact Ret_i hM dX11_part_69 (by constructor <;> omega) (⟨Or.inl ⟨rfl, by omega⟩, ⟨frC_rf _, hCI0.2.2.2.2.2.2.2.2.2⟩⟩)
        ·
          refine A_iload_n hG 4 dX11_part_53 rfl rfl ?_
          refine A_iconst (n := 1) hG dX11_part_54 ?_
          refine A_aload hG 0 dX11_part_55 rfl ?_
          refine M_getI (z := 1) (v := (lenX h s)) hG dX11_part_57 fl_X11_123 (by decide) (obk_row hr) rfl rfl hwr.1 (fun ⟨ra_57, rb_57⟩ => ?_)
          refine A_iload_n hG 3 dX11_part_60 rfl rfl ?_
          refine A_isub hG dX11_part_61 ?_
          refine C_Si (as := [vI n, vI 1, vI ((lenX h s) - f)]) (st := []) hG dX11_part_62 ml_X11_93 mf_X11_isWithin ms_X11_isWithin (x_isWithin (hm h [] [] []) (by constructor <;> omega) (by constructor <;> omega) (by constructor <;> omega)) (by decide) (by decide) rfl rfl (Nat.le_of_ble_eq_true rfl) (fun z62 g62 ri_62 hp_62 => ?_)
          obtain ⟨ra_62, rb_62⟩ := ri_62
          obtain ⟨hz62, rfl⟩ := hp_62
          refine A_if_ne hG 70 dX11_part_65 (by decide) (by constructor <;> omega) (fun c_65 => ?_) (fun c_65 => ?_)
          ·
            refine A_aload_n hG 1 dX11_part_70 rfl rfl ?_
            refine A_getR (r := 10) hG dX11_part_71 fl_X11_56 (by decide) k1 (by decide) rfl ?_
            refine A_aload_n hG 1 dX11_part_74 rfl rfl ?_
            refine A_getR (r := gn) hG dX11_part_75 fl_X11_19 (by decide) k1 (by decide) hLd ?_
            refine A_aload hG 0 dX11_part_78 rfl ?_
            refine C_Vv (as := [.ref gn, .ref r]) (st := []) (k := 10) (c := 9) hG dX11_part_80 ml_X11_132 mf_X10_fill mi_X10_fill se_X10_fill rfl (by decide) k10 (x_fill (hm h [] [] []) hg (g := g) hgx hr hOk (n := (lenX h s)) (w := (rwX h s)) hwr hW) (by decide) (by decide) rfl rfl (Nat.le_of_ble_eq_true rfl) (fun g80 hp_80 => ?_)
            have hq_80 : ∃ fx : Int → Int64, (∀ n' f', 1 ≤ n' → 0 ≤ f' → f' + n' ≤ (lenX h s) → ∀ k m, 0 ≤ k → k ≤ 9 → 0 ≤ m → m < 4 → fx (40 * (8 * f' + n' - 1) + (4 * k + m)) = Int64.ofNat (cnt g (rwX h s) n' f' k m)) ∧ g80 = hm (hm h [] [] []) [] [(11, fx)] [] := hp_80
            clear hp_80
            obtain ⟨f80, hf80, rfl⟩ := hq_80
            refine A_hm (la := []) (lb := [(11, f80)]) (lc := []) rfl rfl rfl ?_
            refine A_aload_n hG 1 dX11_part_83 rfl rfl ?_
            refine A_getR (r := 10) hG dX11_part_84 fl_X11_56 (by decide) k1 (by decide) rfl ?_
            refine A_iload_n hG 3 dX11_part_87 rfl rfl ?_
            refine A_iload_n hG 4 dX11_part_88 rfl rfl ?_
            refine A_iload hG 5 dX11_part_89 rfl ?_
            refine A_iload hG 6 dX11_part_91 rfl ?_
            refine C_Vl (as := [vI f, vI n, vI k, vI m]) (st := []) (k := 10) (c := 9) hG dX11_part_93 ml_X11_140 mf_X10_treesOver mi_X10_treesOver se_X10_treesOver rfl (by decide) k10 (x_treesOver (hm h [] [(11, f80)] []) (f := f) (n := n) (k := k) (m := m) (by omega) (by omega) (by omega) (by omega)) (by decide) (by decide) rfl rfl (Nat.le_of_ble_eq_true rfl) (fun z93 g93 hp_93 => ?_)
            have hq_93 : z93 = f80 (40 * (8 * f + n - 1) + (4 * k + m)) ∧ g93 = hm h [] [(11, f80)] [] := hp_93
            clear hp_93
            obtain ⟨hz93, rfl⟩ := hq_93
            have hcr := hz93.trans (hf80 n f (by omega) (by omega) (by omega) k m (by omega) (by omega) (by omega) (by omega))
            have hct := cnt_top (w := rwX h s) hOk (n := n) (by omega) f k
            have hcm : cnt g (rwX h s) n f k m ≤ s4 (cnt g (rwX h s) n f k) := by
                unfold s4
                rcases (show m = 0 ∨ m = 1 ∨ m = 2 ∨ m = 3 by omega) with rfl | rfl | rfl | rfl <;> omega
            have hps := pos_cnt (n := cnt g (rwX h s) n f k m) (by omega)
            rw [← hcr] at hps
            have hrd := cnt_rd (w := rwX h s) hOk n.toNat n (by omega) (by omega) f k m (by omega) (by omega)
            refine A_lconst (v := i2l 0) hG dX11_part_96 (by decide) ?_
            refine A_lcmp hG dX11_part_97 ?_
            refine A_if_le hG 105 dX11_part_98 (by decide) (ir_lcmp _ _) (fun c_98 => ?_) (fun c_98 => ?_)
            ·
              refine A_iconst (n := 0) hG dX11_part_105 ?_
              exact Ret_i hM dX11_part_106 (by constructor <;> omega) (⟨Or.inr ⟨by omega, Or.inr ⟨rfl, fun q => by have := hrd.mpr q; have := hps.mp c_98; omega⟩⟩, ⟨⟨fun _ _ => rfl, fun _ _ => rfl, fun k k1 => by simp (disch := omega) only [hm, alk, if_neg], fun _ _ => rfl⟩, hCI0.2.2.2.2.2.2.2.2.2⟩⟩)
            ·
              refine A_iconst (n := 1) hG dX11_part_101 ?_
              refine A_goto hG 106 dX11_part_102 (by decide) ?_
              exact Ret_i hM dX11_part_106 (by constructor <;> omega) (⟨Or.inr ⟨by omega, Or.inl ⟨rfl, hrd.mp (Nat.pos_of_ne_zero (fun e => by have := hps.mpr e; omega))⟩⟩, ⟨⟨fun _ _ => rfl, fun _ _ => rfl, fun k k1 => by simp (disch := omega) only [hm, alk, if_neg], fun _ _ => rfl⟩, hCI0.2.2.2.2.2.2.2.2.2⟩⟩)
          ·
            refine A_iconst (n := -1) hG dX11_part_68 ?_
            exact Ret_i hM dX11_part_69 (by constructor <;> omega) (⟨Or.inl ⟨rfl, by omega⟩, ⟨frC_rf _, hCI0.2.2.2.2.2.2.2.2.2⟩⟩)
      ·
        refine A_iconst (n := -1) hG dX11_part_28 ?_
        exact Ret_i hM dX11_part_29 (by constructor <;> omega) (⟨Or.inl ⟨rfl, by omega⟩, ⟨frC_rf _, hCI0.2.2.2.2.2.2.2.2.2⟩⟩)

set_option maxHeartbeats 2000000 in
set_option maxRecDepth 20000 in
theorem x_isRead (h : AH) {gn : Nat} (hg : gn = 20 ∨ gn = 40) {g : Gm} (hgx : gX h gn = g) (hLd : h.2.2 1 1 = gn) {r : Nat} (hr : 100 ≤ r ∧ r < 212) (hOk : okG g) {n : Int} {w : Int → Int} (hwr : rowX h r n w) (hW : okW g w n) (hn1 : 1 ≤ n) : AMet yX11_isRead cX11_isRead 2 (some .boolean) 4 108 [.ref 1, .ref r] h (Qi (fun z h' => ∃ f : Int → Int64, ((z = 1 ∧ READ g (hasb 0) w n) ∨ (z = 0 ∧ ¬ READ g (hasb 0) w n)) ∧ h' = hm h [] [(11, f)] [])) := by
  have hn8 := hW.1
  refine AMet.of (by decide) (Nat.le_of_ble_eq_true rfl) (fun G hM => ?_)
  have hG := hM.cx
  refine A_hm0 (G := G) (L := [(0, .ref 1), (1, .ref r)]) ?_
  refine A_aload_n hG 0 dX11_isRead_0 rfl rfl ?_
  refine A_getR (r := 10) hG dX11_isRead_1 fl_X11_56 (by decide) k1 (by decide) rfl ?_
  refine A_aload_n hG 0 dX11_isRead_4 rfl rfl ?_
  refine A_getR (r := gn) hG dX11_isRead_5 fl_X11_19 (by decide) k1 (by decide) hLd ?_
  refine A_aload_n hG 1 dX11_isRead_8 rfl rfl ?_
  refine C_Vv (as := [.ref gn, .ref r]) (st := []) (k := 10) (c := 9) hG dX11_isRead_9 ml_X11_132 mf_X10_fill mi_X10_fill se_X10_fill rfl (by decide) k10 (x_fill (hm h [] [] []) hg (g := g) hgx hr hOk (n := n) (w := w) hwr hW) (by decide) (by decide) rfl rfl (Nat.le_of_ble_eq_true rfl) (fun g9 hp_9 => ?_)
  have hq_9 : ∃ fx : Int → Int64, (∀ n' f', 1 ≤ n' → 0 ≤ f' → f' + n' ≤ n → ∀ k m, 0 ≤ k → k ≤ 9 → 0 ≤ m → m < 4 → fx (40 * (8 * f' + n' - 1) + (4 * k + m)) = Int64.ofNat (cnt g w n' f' k m)) ∧ g9 = hm (hm h [] [] []) [] [(11, fx)] [] := hp_9
  clear hp_9
  obtain ⟨f9, hf9, rfl⟩ := hq_9
  refine A_hm (la := []) (lb := [(11, f9)]) (lc := []) rfl rfl rfl ?_
  refine A_aload_n hG 0 dX11_isRead_12 rfl rfl ?_
  refine A_getR (r := 10) hG dX11_isRead_13 fl_X11_56 (by decide) k1 (by decide) rfl ?_
  refine A_aload_n hG 1 dX11_isRead_16 rfl rfl ?_
  refine M_getI (z := 1) (v := n) hG dX11_isRead_17 fl_X11_123 (by decide) (obk_row hr) rfl rfl hwr.1 (fun ⟨ra_17, rb_17⟩ => ?_)
  refine C_Vl (as := [vI n]) (st := []) (k := 10) (c := 9) hG dX11_isRead_20 ml_X11_136 mf_X10_overAll mi_X10_overAll se_X10_overAll rfl (by decide) k10 (x_overAll (hm h [] [(11, f9)] []) (n := n) (by omega)) (by decide) (by decide) rfl rfl (Nat.le_of_ble_eq_true rfl) (fun z20 g20 hp_20 => ?_)
  have hq_20 : z20 = f9 (40 * (n - 1)) + f9 (40 * (n - 1) + 1) + f9 (40 * (n - 1) + 2) + f9 (40 * (n - 1) + 3) ∧ g20 = hm h [] [(11, f9)] [] := hp_20
  clear hp_20
  obtain ⟨hz20, rfl⟩ := hq_20
  have hcr := hz20.trans (all_cnt (by omega) hf9)
  have hct := cnt_top (w := w) hOk (n := n) (by omega) 0 0
  have hps := pos_cnt (n := s4 (cnt g w n 0 0)) (by omega)
  rw [show s4 (cnt g w n 0 0) = cnt g w n 0 0 0 + cnt g w n 0 0 1 + cnt g w n 0 0 2 + cnt g w n 0 0 3 from rfl, ← hcr] at hps
  have hrd := READ_cnt (w := w) hOk (n := n) (by omega)
  unfold s4 at hrd
  refine A_lconst (v := i2l 0) hG dX11_isRead_23 (by decide) ?_
  refine A_lcmp hG dX11_isRead_24 ?_
  refine A_if_le hG 32 dX11_isRead_25 (by decide) (ir_lcmp _ _) (fun c_25 => ?_) (fun c_25 => ?_)
  ·
    refine A_iconst (n := 0) hG dX11_isRead_32 ?_
    exact Ret_z hM dX11_isRead_33 (by omega) (⟨_, Or.inr ⟨rfl, fun q => by have := hrd.mp q; have := hps.mp c_25; omega⟩, rfl⟩)
  ·
    refine A_iconst (n := 1) hG dX11_isRead_28 ?_
    refine A_goto hG 33 dX11_isRead_29 (by decide) ?_
    exact Ret_z hM dX11_isRead_33 (by omega) (⟨_, Or.inl ⟨rfl, hrd.mpr (Nat.pos_of_ne_zero (fun e => by have := hps.mpr e; omega))⟩, rfl⟩)

set_option maxHeartbeats 2000000 in
set_option maxRecDepth 20000 in
theorem x_canBeMended (h : AH) {gn : Nat} (hg : gn = 20 ∨ gn = 40) {g : Gm} (hgx : gX h gn = g) (hLd : h.2.2 1 1 = gn) {r : Nat} (hr : 100 ≤ r ∧ r < 212) (hOk : okG g) {n : Int} {w : Int → Int} (hwr : rowX h r n w) (hW : okW g w n) : AMet yX11_canBeMended cX11_canBeMended 2 (some .boolean) 5 129 [.ref 1, .ref r] h (Qi (fun z h' => ∃ f : Int → Int64, ((z = 1 ∧ 1 ≤ n ∧ ¬ READ g (hasb 0) w n) ∨ (z = 0 ∧ (n = 0 ∨ READ g (hasb 0) w n))) ∧ h' = hm h [] [(11, f)] [])) := by
  have hn8 := hW.1
  refine AMet.of (by decide) (Nat.le_of_ble_eq_true rfl) (fun G hM => ?_)
  have hG := hM.cx
  refine A_hm0 (G := G) (L := [(0, .ref 1), (1, .ref r)]) ?_
  refine A_aload_n hG 1 dX11_canBeMended_0 rfl rfl ?_
  refine M_getI (z := 1) (v := n) hG dX11_canBeMended_1 fl_X11_123 (by decide) (obk_row hr) rfl rfl hwr.1 (fun ⟨ra_1, rb_1⟩ => ?_)
  refine A_insL 11 (ll' := [(11, h.2.1 11)]) rfl ?_
  refine A_if_le hG 19 dX11_canBeMended_4 (by decide) (by constructor <;> omega) (fun c_4 => ?_) (fun c_4 => ?_)
  ·
    refine A_iconst (n := 0) hG dX11_canBeMended_19 ?_
    exact Ret_z hM dX11_canBeMended_20 (by omega) (⟨_, Or.inr ⟨rfl, Or.inl (by omega)⟩, rfl⟩)
  ·
    refine A_aload_n hG 0 dX11_canBeMended_7 rfl rfl ?_
    refine A_aload_n hG 1 dX11_canBeMended_8 rfl rfl ?_
    refine C_Vi (as := [.ref r]) (st := []) (k := 1) (c := 10) hG dX11_canBeMended_9 ml_X11_177 mf_X11_isRead mi_X11_isRead se_X11_isRead rfl (by decide) k1 (x_isRead (hm h [] [(11, h.2.1 11)] []) hg (g := g) hgx hLd hr hOk (n := n) (w := w) hwr hW (by omega)) (by decide) (by decide) rfl rfl (Nat.le_of_ble_eq_true rfl) (fun z9 g9 ri_9 hp_9 => ?_)
    obtain ⟨ra_9, rb_9⟩ := ri_9
    have hq_9 : ∃ fx : Int → Int64, ((z9 = 1 ∧ READ g (hasb 0) w n) ∨ (z9 = 0 ∧ ¬ READ g (hasb 0) w n)) ∧ g9 = hm (hm h [] [(11, h.2.1 11)] []) [] [(11, fx)] [] := hp_9
    clear hp_9
    obtain ⟨f9, hz9, rfl⟩ := hq_9
    refine A_hm (la := []) (lb := [(11, f9)]) (lc := []) rfl rfl rfl ?_
    refine A_if_ne hG 19 dX11_canBeMended_12 (by decide) (by constructor <;> omega) (fun c_12 => ?_) (fun c_12 => ?_)
    ·
      refine A_iconst (n := 0) hG dX11_canBeMended_19 ?_
      exact Ret_z hM dX11_canBeMended_20 (by omega) (⟨_, Or.inr ⟨rfl, Or.inr (hz9.elim (fun q => q.2) (fun q => absurd q.1 c_12))⟩, rfl⟩)
    ·
      refine A_iconst (n := 1) hG dX11_canBeMended_15 ?_
      refine A_goto hG 20 dX11_canBeMended_16 (by decide) ?_
      exact Ret_z hM dX11_canBeMended_20 (by omega) (⟨_, Or.inl ⟨rfl, by omega, hz9.elim (fun q => absurd q.1 (by omega)) (fun q => q.2)⟩, rfl⟩)

set_option maxHeartbeats 2000000 in
set_option maxRecDepth 20000 in
theorem x_least (h : AH) {gn : Nat} {g : Gm} (hCI : CI h gn g) {s f : Int} (hs : ir s) (hf : f = 0 ∨ f = 1) : AMet yX11_least cX11_least 4 (some .int) 6 154 [.ref 1, vI s, vI f] h (Qi (fun z h' => ((z = -1 ∧ (s < 0 ∨ 7 < s)) ∨ (z = -2 ∧ (0 ≤ s ∧ s ≤ 7) ∧ lenX h s = 0) ∨ ((0 ≤ s ∧ s ≤ 7) ∧ lenX h s ≠ 0 ∧ ∃ V : Int → Int → Int → Int, best g (fun c => fitP (h.1 7 1) (g 9) (h.1 8) c f) (hasb (qdX h s)) (rwX h s) (lenX h s) 100 V ∧ lstOf V (lenX h s) z)) ∧ frC h h' ∧ sd h' g)) := by
  have hCI0 := hCI
  obtain ⟨hg, ⟨hLd, hTl⟩, hgx, hOk, hL0, hE0, hK0, hWs, hKb, hS, hKr, hPer, hTf, hV13, hCc⟩ := hCI
  have hgw := hOk.1
  have hgr := hOk.2.1
  obtain ⟨hs1, hs2⟩ := hs
  have hpr : ∀ c, 0 ≤ c → c < 5 → 0 ≤ fitP (h.1 7 1) (g 9) (h.1 8) c f ∧ fitP (h.1 7 1) (g 9) (h.1 8) c f ≤ 99 := fun c c0 c1 => fitP_rng hE0 (hOk.2.2.2.2 c c0 c1)
  refine AMet.of (by decide) (Nat.le_of_ble_eq_true rfl) (fun G hM => ?_)
  have hG := hM.cx
  refine A_hm0 (G := G) (L := [(0, .ref 1), (1, vI s), (2, vI f)]) ?_
  refine A_iload_n hG 1 dX11_least_0 rfl rfl ?_
  refine C_Si (as := [vI s]) (st := []) hG dX11_least_1 ml_X11_119 mf_X11_isSentence ms_X11_isSentence (x_isSentence (hm h [] [] []) (by constructor <;> omega)) (by decide) (by decide) rfl rfl (Nat.le_of_ble_eq_true rfl) (fun z1 g1 ri_1 hp_1 => ?_)
  obtain ⟨ra_1, rb_1⟩ := ri_1
  obtain ⟨hz1, rfl⟩ := hp_1
  refine A_if_ne hG 9 dX11_least_4 (by decide) (by constructor <;> omega) (fun c_4 => ?_) (fun c_4 => ?_)
  ·
    obtain ⟨r, hre⟩ : ∃ r : Nat, r = 100 + (s).toNat := ⟨_, rfl⟩
    have hr0 : 100 ≤ r ∧ r < 108 := by omega
    have hr : 100 ≤ r ∧ r < 212 := by omega
    have hwr : rowX h r (lenX h s) (rwX h s) := by rw [hre]; exact rowX_s
    have hqr : h.1 r 2 = qdX h s := by rw [hre]; rfl
    have hW := hWs s (by omega) (by omega)
    have hn8 := hW.1
    refine A_aload_n hG 0 dX11_least_9 rfl rfl ?_
    refine A_getR (r := 5) hG dX11_least_10 fl_X11_28 (by decide) k1 (by decide) rfl ?_
    refine A_iload_n hG 1 dX11_least_13 rfl rfl ?_
    refine M_aald (r := r) hG dX11_least_14 (Or.inl k5) n5 (by omega) ((hS s (by omega) (by omega)).trans hre.symm) ?_
    refine M_getI (z := 1) (v := (lenX h s)) hG dX11_least_15 fl_X11_123 (by decide) (obk_row hr) rfl rfl hwr.1 (fun ⟨ra_15, rb_15⟩ => ?_)
    refine A_if_ne hG 24 dX11_least_18 (by decide) (by constructor <;> omega) (fun c_18 => ?_) (fun c_18 => ?_)
    ·
      refine A_iconst (n := 0) hG dX11_least_24 ?_
      refine A_istore_n (L' := [(3, vI 0), (0, .ref 1), (1, vI s), (2, vI f)]) hG dX11_least_25 rfl (by decide) rfl ?_
      refine A_insI 9 (li' := [(9, h.1 9)]) rfl ?_
      have c_1 : ∀ fu : Nat, ∀ (c : Int) (p : Int → Int), (0 ≤ c ∧ c ≤ 5) → (∀ j, 0 ≤ j → j < c → p j = fitP (h.1 7 1) (g 9) (h.1 8) j f) → ((6 - c).toNat) < fu → G 26 [(0, .ref 1), (1, vI s), (2, vI f), (3, vI c)] [] (hm h [(9, p)] [] []) := by
        intro fu
        induction fu with
        | zero => intro c p hc hp hfu; exact absurd hfu (Nat.not_lt_zero _)
        | succ fu ih_c =>
          intro c p hc hp hfu
          refine A_iload_n hG 3 dX11_least_26 rfl rfl ?_
          refine A_iconst (n := 5) hG dX11_least_27 ?_
          refine A_icmp_ge hG 49 dX11_least_28 (by decide) (by constructor <;> omega) (by constructor <;> omega) (fun c_28 => ?_) (fun c_28 => ?_)
          ·
            refine A_aload_n hG 0 dX11_least_49 rfl rfl ?_
            refine A_getR (r := 12) hG dX11_least_50 fl_X11_63 (by decide) k1 (by decide) rfl ?_
            refine A_aload_n hG 0 dX11_least_53 rfl rfl ?_
            refine A_getR (r := gn) hG dX11_least_54 fl_X11_19 (by decide) k1 (by decide) hLd ?_
            refine A_aload_n hG 0 dX11_least_57 rfl rfl ?_
            refine A_getR (r := 5) hG dX11_least_58 fl_X11_28 (by decide) k1 (by decide) rfl ?_
            refine A_iload_n hG 1 dX11_least_61 rfl rfl ?_
            refine M_aald (r := r) hG dX11_least_62 (Or.inl k5) n5 (by omega) ((hS s (by omega) (by omega)).trans hre.symm) ?_
            refine A_aload_n hG 0 dX11_least_63 rfl rfl ?_
            refine A_getR (r := 9) hG dX11_least_64 fl_X11_49 (by decide) k1 (by decide) rfl ?_
            refine C_Vi (as := [.ref gn, .ref r, .ref 9]) (st := []) (k := 12) (c := 6) hG dX11_least_67 ml_X11_144 mf_X6_leastSum mi_X6_leastSum se_X6_leastSum rfl (by decide) k12 (x_leastSum (hm h [(9, p)] [] []) hg (g := g) ((gX_li hg rfl).trans hgx) hr hOk (n := (lenX h s)) (qd := (qdX h s)) (w := (rwX h s)) (rowX_eq (by simp (disch := omega) only [hm, alk, if_neg, if_pos, ite_true]) (by simp (disch := omega) only [hm, alk, if_neg, if_pos, ite_true]) hwr) ((congrFun (by simp (disch := omega) only [hm, alk, if_neg, if_pos, ite_true]) 2).trans hqr) hW (pr := (fun c => fitP (h.1 7 1) (g 9) (h.1 8) c f)) (fun c c0 c1 => hp c c0 (by omega)) hpr (F := h.1 13) rfl hV13) (by decide) (by decide) rfl rfl (Nat.le_of_ble_eq_true rfl) (fun z67 g67 ri_67 hp_67 => ?_)
            obtain ⟨ra_67, rb_67⟩ := ri_67
            have hq_67 : ∃ fx : Int → Int, ((∀ i, 0 ≤ i → i < 3240 → 0 ≤ fx i ∧ fx i ≤ 100) ∧ best g (fun c => fitP (h.1 7 1) (g 9) (h.1 8) c f) (hasb (qdX h s)) (rwX h s) (lenX h s) 100 (tX fx) ∧ (∃ q, 0 ≤ q ∧ q < 4 ∧ z67 = tX fx 0 (lenX h s) q) ∧ ∀ q, 0 ≤ q → q < 4 → z67 ≤ tX fx 0 (lenX h s) q) ∧ g67 = hm (hm h [(9, p)] [] []) [(13, fx)] [] [] := hp_67
            clear hp_67
            obtain ⟨f67, ⟨hV67, hB67, hm67, hz67⟩, rfl⟩ := hq_67
            refine A_hm (la := [(9, p), (13, f67)]) (lb := []) (lc := []) rfl rfl rfl ?_
            refine A_istore_n (L' := [(3, vI z67), (0, .ref 1), (1, vI s), (2, vI f)]) hG dX11_least_70 rfl (by decide) rfl ?_
            refine A_iload_n hG 0 dX11_least_71 rfl rfl ?_
            refine A_bipush (n := 99) hG dX11_least_72 (by decide) ?_
            refine A_icmp_gt hG 81 dX11_least_74 (by decide) (by constructor <;> omega) (by constructor <;> omega) (fun c_74 => ?_) (fun c_74 => ?_)
            ·
              refine A_bipush (n := -4) hG dX11_least_81 (by decide) ?_
              exact Ret_i hM dX11_least_83 (by constructor <;> omega) (⟨Or.inr (Or.inr ⟨by omega, by omega, tX f67, hB67, Or.inr ⟨rfl, fun q q0 q1 => by have := hz67 q q0 q1; omega⟩⟩), ⟨⟨fun k k1 => by simp (disch := omega) only [hm, alk, if_neg], fun _ _ => rfl, fun _ _ => rfl, fun _ _ => rfl⟩, sd_eq (h := h) ⟨fun k k1 => by simp (disch := omega) only [hm, alk, if_neg], fun _ _ => rfl, fun _ _ => rfl, fun _ _ => rfl⟩ (Or.inl rfl) rfl rfl rfl (fun k k1 k2 => ⟨by simp (disch := omega) only [hm, alk, if_neg], by simp (disch := omega) only [hm, alk, if_neg]⟩) hV67 hCI0.2.2.2.2.2.2.2.2.2⟩⟩)
            ·
              refine A_iload_n hG 0 dX11_least_77 rfl rfl ?_
              refine A_goto hG 83 dX11_least_78 (by decide) ?_
              exact Ret_i hM dX11_least_83 (by constructor <;> omega) (⟨Or.inr (Or.inr ⟨by omega, by omega, tX f67, hB67, Or.inl (hm67.elim (fun q h1 => ⟨q, h1.1, h1.2.1, h1.2.2, by omega, hz67⟩))⟩), ⟨⟨fun k k1 => by simp (disch := omega) only [hm, alk, if_neg], fun _ _ => rfl, fun _ _ => rfl, fun _ _ => rfl⟩, sd_eq (h := h) ⟨fun k k1 => by simp (disch := omega) only [hm, alk, if_neg], fun _ _ => rfl, fun _ _ => rfl, fun _ _ => rfl⟩ (Or.inl rfl) rfl rfl rfl (fun k k1 k2 => ⟨by simp (disch := omega) only [hm, alk, if_neg], by simp (disch := omega) only [hm, alk, if_neg]⟩) hV67 hCI0.2.2.2.2.2.2.2.2.2⟩⟩)
          ·
            refine A_aload_n hG 0 dX11_least_31 rfl rfl ?_
            refine A_getR (r := 9) hG dX11_least_32 fl_X11_49 (by decide) k1 (by decide) rfl ?_
            refine A_iload_n hG 3 dX11_least_35 rfl rfl ?_
            refine A_aload_n hG 0 dX11_least_36 rfl rfl ?_
            refine A_iload_n hG 3 dX11_least_37 rfl rfl ?_
            refine A_iload_n hG 2 dX11_least_38 rfl rfl ?_
            refine C_Vi (as := [vI c, vI f]) (st := [vI c, .ref 9]) (k := 1) (c := 10) hG dX11_least_39 ml_X11_115 mf_X11_priceOf mi_X11_priceOf se_X11_priceOf rfl (by decide) k1 (x_priceOf (hm h [(9, p)] [] []) hg (g := g) ((gX_li hg rfl).trans hgx) hLd (c := c) (f := f) (by omega) hf hE0) (by decide) (by decide) rfl rfl (Nat.le_of_ble_eq_true rfl) (fun z39 g39 ri_39 hp_39 => ?_)
            obtain ⟨ra_39, rb_39⟩ := ri_39
            obtain ⟨hz39, rfl⟩ := hp_39
            have hpc := hpr c (by omega) (by omega)
            refine M_iast (li' := [(9, up p c z39)]) hG dX11_least_42 k9 n9 (by omega) (by constructor <;> omega) rfl ?_
            refine A_iinc (L' := [(3, vI (c + 1)), (0, .ref 1), (1, vI s), (2, vI f)]) hG 3 dX11_least_43 rfl (by decide) rfl ?_
            refine A_goto hG 26 dX11_least_46 (by decide) ?_
            refine A_sub hG [1, 2, 3, 0] rfl ?_
            exact ih_c (c + 1) (up p c z39) (by omega) (fun j j0 j1 => by
                by_cases e : j = c
                · rw [e, up_eq]; exact hz39
                · rw [up_ne _ _ e]; exact hp j j0 (by omega)) (by omega)
      refine A_sub hG [1, 2, 3, 0] rfl ?_
      exact c_1 _ 0 (h.1 9) (by omega) (fun j j0 j1 => by omega) (Nat.lt_succ_self _)
    ·
      refine A_bipush (n := -2) hG dX11_least_21 (by decide) ?_
      exact Ret_i hM dX11_least_23 (by constructor <;> omega) (⟨Or.inr (Or.inl ⟨rfl, by omega, by omega⟩), ⟨frC_rf _, hCI0.2.2.2.2.2.2.2.2.2⟩⟩)
  ·
    refine A_iconst (n := -1) hG dX11_least_7 ?_
    exact Ret_i hM dX11_least_8 (by constructor <;> omega) (⟨Or.inl ⟨rfl, by omega⟩, ⟨frC_rf _, hCI0.2.2.2.2.2.2.2.2.2⟩⟩)

set_option maxHeartbeats 2000000 in
set_option maxRecDepth 20000 in
theorem x_bars (h : AH) {gn : Nat} {g : Gm} (hCI : CI h gn g) {s : Int} (hs : ir s) : AMet yX11_bars cX11_bars 3 (some .int) 6 166 [.ref 1, vI s] h (Qi (fun z h' => ((z = -1 ∧ (s < 0 ∨ 7 < s)) ∨ (z = -2 ∧ (0 ≤ s ∧ s ≤ 7) ∧ lenX h s = 0) ∨ (z = 0 ∧ (0 ≤ s ∧ s ≤ 7) ∧ lenX h s ≠ 0 ∧ READ g (hasb 0) (rwX h s) (lenX h s)) ∨ ((0 ≤ s ∧ s ≤ 7) ∧ lenX h s ≠ 0 ∧ ¬ READ g (hasb 0) (rwX h s) (lenX h s) ∧ barsV g (rwX h s) (lenX h s) z)) ∧ frC h h' ∧ sd h' g)) := by
  have hCI0 := hCI
  obtain ⟨hg, ⟨hLd, hTl⟩, hgx, hOk, hL0, hE0, hK0, hWs, hKb, hS, hKr, hPer, hTf, hV13, hCc⟩ := hCI
  have hgw := hOk.1
  have hgr := hOk.2.1
  obtain ⟨hs1, hs2⟩ := hs
  refine AMet.of (by decide) (Nat.le_of_ble_eq_true rfl) (fun G hM => ?_)
  have hG := hM.cx
  refine A_hm0 (G := G) (L := [(0, .ref 1), (1, vI s)]) ?_
  refine A_iload_n hG 1 dX11_bars_0 rfl rfl ?_
  refine C_Si (as := [vI s]) (st := []) hG dX11_bars_1 ml_X11_119 mf_X11_isSentence ms_X11_isSentence (x_isSentence (hm h [] [] []) (by constructor <;> omega)) (by decide) (by decide) rfl rfl (Nat.le_of_ble_eq_true rfl) (fun z1 g1 ri_1 hp_1 => ?_)
  obtain ⟨ra_1, rb_1⟩ := ri_1
  obtain ⟨hz1, rfl⟩ := hp_1
  refine A_if_ne hG 9 dX11_bars_4 (by decide) (by constructor <;> omega) (fun c_4 => ?_) (fun c_4 => ?_)
  ·
    obtain ⟨r, hre⟩ : ∃ r : Nat, r = 100 + (s).toNat := ⟨_, rfl⟩
    have hr0 : 100 ≤ r ∧ r < 108 := by omega
    have hr : 100 ≤ r ∧ r < 212 := by omega
    have hwr : rowX h r (lenX h s) (rwX h s) := by rw [hre]; exact rowX_s
    have hqr : h.1 r 2 = qdX h s := by rw [hre]; rfl
    have hW := hWs s (by omega) (by omega)
    have hn8 := hW.1
    refine A_aload_n hG 0 dX11_bars_9 rfl rfl ?_
    refine A_getR (r := 5) hG dX11_bars_10 fl_X11_28 (by decide) k1 (by decide) rfl ?_
    refine A_iload_n hG 1 dX11_bars_13 rfl rfl ?_
    refine M_aald (r := r) hG dX11_bars_14 (Or.inl k5) n5 (by omega) ((hS s (by omega) (by omega)).trans hre.symm) ?_
    refine A_astore_n (L' := [(2, .ref r), (0, .ref 1), (1, vI s)]) hG dX11_bars_15 rfl (by decide) rfl ?_
    refine A_aload_n hG 0 dX11_bars_16 rfl rfl ?_
    refine M_getI (z := 1) (v := (lenX h s)) hG dX11_bars_17 fl_X11_123 (by decide) (obk_row hr) rfl rfl hwr.1 (fun ⟨ra_17, rb_17⟩ => ?_)
    refine A_if_ne hG 26 dX11_bars_20 (by decide) (by constructor <;> omega) (fun c_20 => ?_) (fun c_20 => ?_)
    ·
      refine A_aload_n hG 1 dX11_bars_26 rfl rfl ?_
      refine A_aload_n hG 0 dX11_bars_27 rfl rfl ?_
      refine C_Vi (as := [.ref r]) (st := []) (k := 1) (c := 10) hG dX11_bars_28 ml_X11_177 mf_X11_isRead mi_X11_isRead se_X11_isRead rfl (by decide) k1 (x_isRead (hm h [] [] []) hg (g := g) hgx hLd hr hOk (n := (lenX h s)) (w := (rwX h s)) hwr hW (by omega)) (by decide) (by decide) rfl rfl (Nat.le_of_ble_eq_true rfl) (fun z28 g28 ri_28 hp_28 => ?_)
      obtain ⟨ra_28, rb_28⟩ := ri_28
      have hq_28 : ∃ fx : Int → Int64, ((z28 = 1 ∧ READ g (hasb 0) (rwX h s) (lenX h s)) ∨ (z28 = 0 ∧ ¬ READ g (hasb 0) (rwX h s) (lenX h s))) ∧ g28 = hm (hm h [] [] []) [] [(11, fx)] [] := hp_28
      clear hp_28
      obtain ⟨f28, hz28, rfl⟩ := hq_28
      refine A_hm (la := []) (lb := [(11, f28)]) (lc := []) rfl rfl rfl ?_
      refine A_if_eq hG 38 dX11_bars_31 (by decide) (by constructor <;> omega) (fun c_31 => ?_) (fun c_31 => ?_)
      ·
        refine A_aload_n hG 1 dX11_bars_38 rfl rfl ?_
        refine A_getR (r := 17) hG dX11_bars_39 fl_X11_77 (by decide) k1 (by decide) rfl ?_
        refine A_aload_n hG 1 dX11_bars_42 rfl rfl ?_
        refine A_getR (r := gn) hG dX11_bars_43 fl_X11_19 (by decide) k1 (by decide) hLd ?_
        refine A_aload_n hG 0 dX11_bars_46 rfl rfl ?_
        refine A_aload_n hG 1 dX11_bars_47 rfl rfl ?_
        refine A_getR (r := 14) hG dX11_bars_48 fl_X11_70 (by decide) k1 (by decide) rfl ?_
        refine C_Vi (as := [.ref gn, .ref r, .ref 14]) (st := []) (k := 17) (c := 0) hG dX11_bars_51 ml_X11_180 mf_X0_fewest mi_X0_fewest se_X0_fewest rfl (by decide) k17 (x_fewest (hm h [] [(11, f28)] []) hg (g := g) hgx hr hOk (n := (lenX h s)) (w := (rwX h s)) hwr hW (by omega)) (by decide) (by decide) rfl rfl (Nat.le_of_ble_eq_true rfl) (fun z51 g51 ri_51 hp_51 => ?_)
        obtain ⟨ra_51, rb_51⟩ := ri_51
        have hq_51 : ∃ (ex sx : Int → Int) (fx fy : Int → Int64), barsV g (rwX h s) (lenX h s) z51 ∧ g51 = hm (hm h [] [(11, f28)] []) [(17, ex), (18, sx)] [(15, fx), (16, fy)] [] := hp_51
        clear hp_51
        obtain ⟨e51, s51, f51, y51, hz51, rfl⟩ := hq_51
        refine A_hm (la := [(18, s51), (17, e51)]) (lb := [(11, f28), (16, y51), (15, f51)]) (lc := []) rfl rfl rfl ?_
        exact Ret_i hM dX11_bars_54 (by constructor <;> omega) (⟨Or.inr (Or.inr (Or.inr ⟨by omega, by omega, hz28.elim (fun q => absurd q.1 (by omega)) (fun q => q.2), hz51⟩)), ⟨⟨fun k k1 => by simp (disch := omega) only [hm, alk, if_neg], fun _ _ => rfl, fun k k1 => by simp (disch := omega) only [hm, alk, if_neg], fun _ _ => rfl⟩, sd_eq (h := h) ⟨fun k k1 => by simp (disch := omega) only [hm, alk, if_neg], fun _ _ => rfl, fun k k1 => by simp (disch := omega) only [hm, alk, if_neg], fun _ _ => rfl⟩ (Or.inl rfl) rfl rfl rfl (fun k k1 k2 => ⟨by simp (disch := omega) only [hm, alk, if_neg], by simp (disch := omega) only [hm, alk, if_neg]⟩) hV13 hCI0.2.2.2.2.2.2.2.2.2⟩⟩)
      ·
        refine A_iconst (n := 0) hG dX11_bars_34 ?_
        refine A_goto hG 54 dX11_bars_35 (by decide) ?_
        exact Ret_i hM dX11_bars_54 (by constructor <;> omega) (⟨Or.inr (Or.inr (Or.inl ⟨rfl, by omega, by omega, hz28.elim (fun q => q.2) (fun q => absurd q.1 c_31)⟩)), ⟨⟨fun _ _ => rfl, fun _ _ => rfl, fun k k1 => by simp (disch := omega) only [hm, alk, if_neg], fun _ _ => rfl⟩, hCI0.2.2.2.2.2.2.2.2.2⟩⟩)
    ·
      refine A_bipush (n := -2) hG dX11_bars_23 (by decide) ?_
      exact Ret_i hM dX11_bars_25 (by constructor <;> omega) (⟨Or.inr (Or.inl ⟨rfl, by omega, by omega⟩), ⟨frC_rf _, hCI0.2.2.2.2.2.2.2.2.2⟩⟩)
  ·
    refine A_iconst (n := -1) hG dX11_bars_7 ?_
    exact Ret_i hM dX11_bars_8 (by constructor <;> omega) (⟨Or.inl ⟨rfl, by omega⟩, ⟨frC_rf _, hCI0.2.2.2.2.2.2.2.2.2⟩⟩)

end
