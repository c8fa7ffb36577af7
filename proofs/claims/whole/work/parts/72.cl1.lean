/-! the class: small methods, rows, hand, kept ones (printed by gen) -/
section
/-- a row of the class: its length and its words -/
def rowX (h : AH) (r : Nat) (n : Int) (w : Int → Int) : Prop := h.1 r 1 = n ∧ ∀ i, 0 ≤ i → i < n → h.1 (r + 200) i = w i
theorem rowX_eq {h h' : AH} {r : Nat} {n : Int} {w : Int → Int} (e1 : h'.1 r = h.1 r) (e2 : h'.1 (r + 200) = h.1 (r + 200)) (q : rowX h r n w) : rowX h' r n w := by unfold rowX; rw [e1, e2]; exact q
theorem gX_eq {h h' : AH} {gn : Nat} (e : ∀ k, gn ≤ k → k ≤ gn + 10 → h'.1 k = h.1 k) : gX h' gn = gX h gn := by
  have e0 := e gn (by omega) (by omega)
  funext c
  unfold gX
  rw [e0, e (gn + 1) (by omega) (by omega), e (gn + 2) (by omega) (by omega), e (gn + 3) (by omega) (by omega), e (gn + 4) (by omega) (by omega), e (gn + 5) (by omega) (by omega), e (gn + 6) (by omega) (by omega), e (gn + 7) (by omega) (by omega), e (gn + 8) (by omega) (by omega), e (gn + 9) (by omega) (by omega), e (gn + 10) (by omega) (by omega)]
theorem gx_n {h : AH} {gn : Nat} {g : Gm} (e : gX h gn = g) : h.1 gn 4 = g 10 0 ∧ h.1 gn 10 = g 10 1 := by subst e; exact ⟨rfl, rfl⟩
theorem gx_w {h : AH} {gn : Nat} {g : Gm} (e : gX h gn = g) {w : Int} (hw : 0 ≤ w ∧ w < g 10 0) : h.1 (gn + 1) w = g 0 w ∧ h.1 (gn + 2) w = g 1 w ∧ h.1 (gn + 3) w = g 2 w ∧ h.1 (gn + 4) w = g 3 w := by
  subst e
  have := gX_w (h := h) (gn := gn) (j := w) hw
  exact ⟨this.1.symm, this.2.1.symm, this.2.2.1.symm, this.2.2.2.symm⟩
theorem gx_r {h : AH} {gn : Nat} {g : Gm} (e : gX h gn = g) {r : Int} (hr : 0 ≤ r ∧ r < g 10 1) : h.1 (gn + 5) r = g 4 r ∧ h.1 (gn + 6) r = g 5 r ∧ h.1 (gn + 7) r = g 6 r ∧ h.1 (gn + 8) r = g 7 r ∧ h.1 (gn + 9) r = g 8 r := by
  subst e
  have := gX_r (h := h) (gn := gn) (j := r) hr
  exact ⟨this.1.symm, this.2.1.symm, this.2.2.1.symm, this.2.2.2.1.symm, this.2.2.2.2.symm⟩
theorem gx_p {h : AH} {gn : Nat} {g : Gm} (e : gX h gn = g) {c : Int} (hc : 0 ≤ c ∧ c < 5) : h.1 (gn + 10) c = g 9 c := by subst e; exact (gX_p hc).symm
/-- one row is ahead of another: shorter, or lower by words -/
def rlt (n : Int) (w : Int → Int) (n' : Int) (w' : Int → Int) : Prop := n < n' ∨ (n = n' ∧ ∃ i, 0 ≤ i ∧ i < n ∧ (∀ j, 0 ≤ j → j < i → w j = w' j) ∧ w i < w' i)
theorem rlt_kK {n n' p : Int} {w w' : Int → Int} (h : okD n w) (h' : okD n' w') (q : rlt n w n' w') : kK p n w < kK p n' w' := by
  rcases q with q | ⟨rfl, i, i0, i1, i2, i3⟩
  · exact kK_n h h' q
  · exact kK_w h h' ⟨i0, i1⟩ i2 i3
set_option maxHeartbeats 2000000 in
set_option maxRecDepth 20000 in
theorem x_isWithin (h : AH) {a b c : Int} (ha : ir a) (hb : ir b) (hc : ir c) : AMet yX11_isWithin cX11_isWithin 3 (some .boolean) 0 0 [vI a, vI b, vI c] h (Qi (fun z h' => ((z = 1 ∧ b ≤ a ∧ a ≤ c) ∨ (z = 0 ∧ (a < b ∨ c < a))) ∧ h' = h)) := by
  obtain ⟨ha1, ha2⟩ := ha
  obtain ⟨hb1, hb2⟩ := hb
  obtain ⟨hc1, hc2⟩ := hc
  refine AMet.of (by decide) (Nat.le_of_ble_eq_true rfl) (fun G hM => ?_)
  have hG := hM.cx
  refine A_hm0 (G := G) (L := [(0, vI a), (1, vI b), (2, vI c)]) ?_
  refine A_iload_n hG 0 dX11_isWithin_0 rfl rfl ?_
  refine A_iload_n hG 1 dX11_isWithin_1 rfl rfl ?_
  refine A_icmp_lt hG 14 dX11_isWithin_2 (by decide) (by constructor <;> omega) (by constructor <;> omega) (fun c_2 => ?_) (fun c_2 => ?_)
  ·
    refine A_iconst (n := 0) hG dX11_isWithin_14 ?_
    exact Ret_z hM dX11_isWithin_15 (by omega) (⟨by omega, rfl⟩)
  ·
    refine A_iload_n hG 0 dX11_isWithin_5 rfl rfl ?_
    refine A_iload_n hG 2 dX11_isWithin_6 rfl rfl ?_
    refine A_icmp_gt hG 14 dX11_isWithin_7 (by decide) (by constructor <;> omega) (by constructor <;> omega) (fun c_7 => ?_) (fun c_7 => ?_)
    ·
      refine A_iconst (n := 0) hG dX11_isWithin_14 ?_
      exact Ret_z hM dX11_isWithin_15 (by omega) (⟨by omega, rfl⟩)
    ·
      refine A_iconst (n := 1) hG dX11_isWithin_10 ?_
      refine A_goto hG 15 dX11_isWithin_11 (by decide) ?_
      exact Ret_z hM dX11_isWithin_15 (by omega) (⟨by omega, rfl⟩)

set_option maxHeartbeats 2000000 in
set_option maxRecDepth 20000 in
theorem x_isSentence (h : AH) {c : Int} (hc : ir c) : AMet yX11_isSentence cX11_isSentence 1 (some .boolean) 1 22 [vI c] h (Qi (fun z h' => ((z = 1 ∧ 0 ≤ c ∧ c ≤ 7) ∨ (z = 0 ∧ (c < 0 ∨ 7 < c))) ∧ h' = h)) := by
  obtain ⟨hc1, hc2⟩ := hc
  refine AMet.of (by decide) (Nat.le_of_ble_eq_true rfl) (fun G hM => ?_)
  have hG := hM.cx
  refine A_hm0 (G := G) (L := [(0, vI c)]) ?_
  refine A_iload_n hG 0 dX11_isSentence_0 rfl rfl ?_
  refine A_iconst (n := 0) hG dX11_isSentence_1 ?_
  refine A_bipush (n := 7) hG dX11_isSentence_2 (by decide) ?_
  refine C_Si (as := [vI c, vI 0, vI 7]) (st := []) hG dX11_isSentence_4 ml_X11_93 mf_X11_isWithin ms_X11_isWithin (x_isWithin (hm h [] [] []) (by constructor <;> omega) (by constructor <;> omega) (by constructor <;> omega)) (by decide) (by decide) rfl rfl (Nat.le_of_ble_eq_true rfl) (fun z4 g4 ri_4 hp_4 => ?_)
  obtain ⟨ra_4, rb_4⟩ := ri_4
  obtain ⟨hz4, rfl⟩ := hp_4
  exact Ret_z hM dX11_isSentence_7 (by omega) (⟨by omega, rfl⟩)

set_option maxHeartbeats 2000000 in
set_option maxRecDepth 20000 in
theorem x_hasBit (h : AH) (a b : Int) : AMet yX11_hasBit cX11_hasBit 2 (some .boolean) 0 0 [vI a, vI b] h (Qi (fun z h' => ((z = 1 ∧ hasb a b) ∨ (z = 0 ∧ ¬ hasb a b)) ∧ h' = h)) := by
  refine AMet.of (by decide) (Nat.le_of_ble_eq_true rfl) (fun G hM => ?_)
  have hG := hM.cx
  refine A_hm0 (G := G) (L := [(0, vI a), (1, vI b)]) ?_
  refine A_iload_n hG 0 dX11_hasBit_0 rfl rfl ?_
  refine A_iload_n hG 1 dX11_hasBit_1 rfl rfl ?_
  refine A_ishr hG dX11_hasBit_2 ?_
  refine A_iconst (n := 1) hG dX11_hasBit_3 ?_
  refine A_iand hG dX11_hasBit_4 ?_
  refine A_iconst (n := 1) hG dX11_hasBit_5 ?_
  refine A_icmp_ne hG 13 dX11_hasBit_6 (by decide) (ir_iand _ _) (by constructor <;> omega) (fun c_6 => ?_) (fun c_6 => ?_)
  ·
    refine A_iconst (n := 0) hG dX11_hasBit_13 ?_
    exact Ret_z hM dX11_hasBit_14 (by omega) (⟨Or.inr ⟨rfl, c_6⟩, rfl⟩)
  ·
    refine A_iconst (n := 1) hG dX11_hasBit_9 ?_
    refine A_goto hG 14 dX11_hasBit_10 (by decide) ?_
    exact Ret_z hM dX11_hasBit_14 (by omega) (⟨Or.inl ⟨rfl, c_6⟩, rfl⟩)

set_option maxHeartbeats 2000000 in
set_option maxRecDepth 20000 in
theorem x_rrestart (h : AH) {r : Nat} (hr : 100 ≤ r ∧ r < 212) : AMet yX7_restart cX7_restart 1 none 0 0 [.ref r] h (Qv (fun h' => h' = hm h [(r, up (up (h.1 r) 1 0) 2 0)] [] [])) := by
  refine AMet.of (by decide) (Nat.le_of_ble_eq_true rfl) (fun G hM => ?_)
  have hG := hM.cx
  refine A_hm0 (G := G) (L := [(0, .ref r)]) ?_
  refine A_aload_n hG 0 dX7_restart_0 rfl rfl ?_
  refine A_iconst (n := 0) hG dX7_restart_1 ?_
  refine M_putI (z := 1) (li' := [(r, up (h.1 r) 1 0)]) hG dX7_restart_2 fl_X7_15 (by decide) (obk_row hr) nf_7_1 rfl rfl (by constructor <;> omega) (Or.inl rfl) rfl ?_
  refine A_aload_n hG 0 dX7_restart_5 rfl rfl ?_
  refine A_iconst (n := 0) hG dX7_restart_6 ?_
  refine M_putI (z := 2) (li' := [(r, up (up (h.1 r) 1 0) 2 0)]) hG dX7_restart_7 fl_X7_19 (by decide) (obk_row hr) nf_7_2 rfl rfl (by constructor <;> omega) (Or.inl rfl) (by simp (disch := omega) only [amg, aset, alk, if_neg, if_pos, ite_true]) ?_
  exact Ret_v hM dX7_restart_10 rfl

set_option maxHeartbeats 2000000 in
set_option maxRecDepth 20000 in
theorem x_append (h : AH) {r : Nat} (hr : 100 ≤ r ∧ r < 212) {v : Int} {e f : Int → Int} (he : h.1 r = e) (hf : h.1 (r + 200) = f) (hv : ir v) (hn : 0 ≤ e 1 ∧ e 1 < 8) : AMet yX7_append cX7_append 2 none 0 0 [.ref r, vI v] h (Qv (fun h' => h' = hm h [(r + 200, up f (e 1) v), (r, up e 1 (e 1 + 1))] [] [])) := by
  subst he
  subst hf
  refine AMet.of (by decide) (Nat.le_of_ble_eq_true rfl) (fun G hM => ?_)
  have hG := hM.cx
  refine A_hm0 (G := G) (L := [(0, .ref r), (1, vI v)]) ?_
  refine A_aload_n hG 0 dX7_append_0 rfl rfl ?_
  refine M_getI (z := 1) (v := h.1 r 1) hG dX7_append_1 fl_X7_15 (by decide) (obk_row hr) rfl rfl rfl (fun ⟨ra_1, rb_1⟩ => ?_)
  refine A_bipush (n := 8) hG dX7_append_4 (by decide) ?_
  refine A_icmp_ge hG 29 dX7_append_6 (by decide) (by constructor <;> omega) (by constructor <;> omega) (fun c_6 => ?_) (fun c_6 => ?_)
  ·
    exfalso; omega
  ·
    refine A_aload_n hG 0 dX7_append_9 rfl rfl ?_
    refine A_getR (r := (r + 200)) hG dX7_append_10 fl_X7_9 (by decide) (obk_row hr) (by decide) rfl ?_
    refine A_aload_n hG 0 dX7_append_13 rfl rfl ?_
    refine M_getI (z := 1) (v := h.1 r 1) hG dX7_append_14 fl_X7_15 (by decide) (obk_row hr) rfl rfl rfl (fun ⟨ra_14, rb_14⟩ => ?_)
    refine A_iload_n hG 1 dX7_append_17 rfl rfl ?_
    refine M_iast (li' := [(r + 200, up (h.1 (r + 200)) (h.1 r 1) v)]) hG dX7_append_18 (obk_rw hr) (obn_rw hr) (by omega) hv rfl ?_
    refine A_aload_n hG 0 dX7_append_19 rfl rfl ?_
    refine A_dup hG dX7_append_20 rfl ?_
    refine M_getI (z := 1) (v := h.1 r 1) hG dX7_append_21 fl_X7_15 (by decide) (obk_row hr) rfl rfl (congrFun (show alk [(r + 200, up (h.1 (r + 200)) (h.1 r 1) v)] r (h.1 r) = h.1 r from (by simp (disch := omega) only [alk, if_neg, if_pos, ite_true])) 1) (fun ⟨ra_21, rb_21⟩ => ?_)
    refine A_iconst (n := 1) hG dX7_append_24 ?_
    refine A_iadd hG dX7_append_25 ?_
    refine M_putI (z := 1) (li' := [(r + 200, up (h.1 (r + 200)) (h.1 r 1) v), (r, up (h.1 r) 1 ((h.1 r 1) + 1))]) hG dX7_append_26 fl_X7_15 (by decide) (obk_row hr) nf_7_1 rfl rfl (by constructor <;> omega) (Or.inl rfl) (by simp (disch := omega) only [amg, aset, alk, if_neg, if_pos, ite_true]) ?_
    exact Ret_v hM dX7_append_29 rfl

set_option maxHeartbeats 2000000 in
set_option maxRecDepth 20000 in
theorem x_copyOf (h : AH) {r : Nat} (hr : 100 ≤ r ∧ r < 212) {o : Nat} (ho : 100 ≤ o ∧ o < 212) (hne : r ≠ o) {n : Int} {w : Int → Int} (hw : rowX h o n w) (hn : 0 ≤ n ∧ n ≤ 8) : AMet yX7_copyOf cX7_copyOf 2 none 1 40 [.ref r, .ref o] h (Qv (fun h' => ∃ e f : Int → Int, (e 1 = n ∧ (∀ q, q ≠ 1 → e q = h.1 r q) ∧ ∀ j, 0 ≤ j → j < n → f j = w j) ∧ h' = hm h [(r + 200, f), (r, e)] [] [])) := by
  obtain ⟨hw0, hw1⟩ := hw
  refine AMet.of (by decide) (Nat.le_of_ble_eq_true rfl) (fun G hM => ?_)
  have hG := hM.cx
  refine A_hm0 (G := G) (L := [(0, .ref r), (1, .ref o)]) ?_
  refine A_aload_n hG 1 dX7_copyOf_0 rfl rfl ?_
  refine A_getR (r := (o + 200)) hG dX7_copyOf_1 fl_X7_9 (by decide) (obk_row ho) (by decide) rfl ?_
  refine A_iconst (n := 0) hG dX7_copyOf_4 ?_
  refine A_aload_n hG 0 dX7_copyOf_5 rfl rfl ?_
  refine A_getR (r := (r + 200)) hG dX7_copyOf_6 fl_X7_9 (by decide) (obk_row hr) (by decide) rfl ?_
  refine A_iconst (n := 0) hG dX7_copyOf_9 ?_
  refine A_aload_n hG 1 dX7_copyOf_10 rfl rfl ?_
  refine M_getI (z := 1) (v := h.1 o 1) hG dX7_copyOf_11 fl_X7_15 (by decide) (obk_row ho) rfl rfl rfl (fun ⟨ra_11, rb_11⟩ => ?_)
  refine M_copy (f := h.1 (o + 200)) (li' := [(r + 200, cpI (h.1 (o + 200)) (h.1 (r + 200)) 0 0 (h.1 o 1))]) hG dX7_copyOf_14 lw_X7_22 (Or.inl ⟨(obk_rw ho), rfl⟩) (obk_rw hr) (obn_rw ho) (obn_rw hr) (by omega) (by omega) (by omega) (fun q => absurd q (by rw [(obk_rw ho)]; decide)) (by decide) (by decide) (Nat.le_of_ble_eq_true rfl) rfl ?_
  refine A_aload_n hG 0 dX7_copyOf_17 rfl rfl ?_
  refine A_aload_n hG 1 dX7_copyOf_18 rfl rfl ?_
  refine M_getI (z := 1) (v := h.1 o 1) hG dX7_copyOf_19 fl_X7_15 (by decide) (obk_row ho) rfl rfl (congrFun (show alk [(r + 200, cpI (h.1 (o + 200)) (h.1 (r + 200)) 0 0 (h.1 o 1))] o (h.1 o) = h.1 o from (by simp (disch := omega) only [alk, if_neg, if_pos, ite_true])) 1) (fun ⟨ra_19, rb_19⟩ => ?_)
  refine M_putI (z := 1) (li' := [(r + 200, cpI (h.1 (o + 200)) (h.1 (r + 200)) 0 0 (h.1 o 1)), (r, up (h.1 r) 1 (h.1 o 1))]) hG dX7_copyOf_22 fl_X7_15 (by decide) (obk_row hr) nf_7_1 rfl rfl (by constructor <;> omega) (Or.inl rfl) (by simp (disch := omega) only [amg, aset, alk, if_neg, if_pos, ite_true]) ?_
  exact Ret_v hM dX7_copyOf_25 (⟨_, _, ⟨by rw [up_eq]; exact hw0, fun q hq => up_ne _ _ hq, fun j j0 j1 => by unfold cpI; rw [if_pos (by omega), show (0 : Int) + (j - 0) = j by omega]; exact hw1 j j0 j1⟩, rfl⟩)

set_option maxHeartbeats 2000000 in
set_option maxRecDepth 20000 in
theorem x_copySwapped (h : AH) {r : Nat} (hr : 100 ≤ r ∧ r < 212) {o : Nat} (ho : 100 ≤ o ∧ o < 212) (hne : r ≠ o) {n : Int} {w : Int → Int} (hw : rowX h o n w) {p v : Int} (hn : 0 ≤ n ∧ n ≤ 8) (hp : 0 ≤ p ∧ p < n) (hv : ir v) : AMet yX7_copySwapped cX7_copySwapped 4 none 2 61 [.ref r, .ref o, vI p, vI v] h (Qv (fun h' => ∃ e f : Int → Int, (e 1 = lenC n 0 ∧ (∀ q, q ≠ 1 → e q = h.1 r q) ∧ ∀ j, 0 ≤ j → j < lenC n 0 → f j = rowC w 0 p v j) ∧ h' = hm h [(r, e), (r + 200, f)] [] [])) := by
  refine AMet.of (by decide) (Nat.le_of_ble_eq_true rfl) (fun G hM => ?_)
  have hG := hM.cx
  refine A_hm0 (G := G) (L := [(0, .ref r), (1, .ref o), (2, vI p), (3, vI v)]) ?_
  refine A_aload_n hG 0 dX7_copySwapped_0 rfl rfl ?_
  refine A_aload_n hG 1 dX7_copySwapped_1 rfl rfl ?_
  refine C_Vv (as := [.ref o]) (st := []) (k := r) (c := 7) hG dX7_copySwapped_2 ml_X7_28 mf_X7_copyOf mi_X7_copyOf se_X7_copyOf rfl (by decide) (obk_row hr) (x_copyOf (hm h [] [] []) hr ho (by omega) (n := n) (w := w) hw hn) (by decide) (by decide) rfl rfl (Nat.le_of_ble_eq_true rfl) (fun g2 hp_2 => ?_)
  have hq_2 : ∃ ex fx : Int → Int, (ex 1 = n ∧ (∀ q, q ≠ 1 → ex q = h.1 r q) ∧ ∀ j, 0 ≤ j → j < n → fx j = w j) ∧ g2 = hm (hm h [] [] []) [(r + 200, fx), (r, ex)] [] [] := hp_2
  obtain ⟨e2, f2, ⟨ce2, cq2, cf2⟩, rfl⟩ := hq_2
  refine A_hm (la := [(r, e2), (r + 200, f2)]) (lb := []) (lc := []) (by simp (disch := omega) only [amg, aset, alk, if_neg, if_pos, ite_true]) rfl rfl ?_
  refine A_aload_n hG 0 dX7_copySwapped_5 rfl rfl ?_
  refine A_getR (r := (r + 200)) hG dX7_copySwapped_6 fl_X7_9 (by decide) (obk_row hr) (by decide) rfl ?_
  refine A_iload_n hG 2 dX7_copySwapped_9 rfl rfl ?_
  refine A_iload_n hG 3 dX7_copySwapped_10 rfl rfl ?_
  refine M_iast (li' := [(r, e2), (r + 200, up f2 p v)]) hG dX7_copySwapped_11 (obk_rw hr) (obn_rw hr) (by omega) hv (by simp (disch := omega) only [amg, aset, alk, if_neg, if_pos, ite_true]) ?_
  exact Ret_v hM dX7_copySwapped_12 (⟨_, _, ⟨ce2, cq2, fun j j0 j1 => by
      show _ = swp w p v j
      unfold swp
      by_cases hq : j = p
      · rw [hq, up_eq, if_pos rfl]
      · rw [up_ne _ _ hq, if_neg hq]; exact cf2 j j0 j1⟩, rfl⟩)

set_option maxHeartbeats 2000000 in
set_option maxRecDepth 20000 in
theorem x_copyWithout (h : AH) {r : Nat} (hr : 100 ≤ r ∧ r < 212) {o : Nat} (ho : 100 ≤ o ∧ o < 212) (hne : r ≠ o) {n : Int} {w : Int → Int} (hw : rowX h o n w) {p v : Int} (hn : 0 ≤ n ∧ n ≤ 8) (hp : 0 ≤ p ∧ p < n) : AMet yX7_copyWithout cX7_copyWithout 4 none 1 21 [.ref r, .ref o, vI p] h (Qv (fun h' => ∃ e f : Int → Int, (e 1 = lenC n 1 ∧ (∀ q, q ≠ 1 → e q = h.1 r q) ∧ ∀ j, 0 ≤ j → j < lenC n 1 → f j = rowC w 1 p v j) ∧ h' = hm h [(r, e), (r + 200, f)] [] [])) := by
  obtain ⟨hw0, hw1⟩ := hw
  have hlC := lenC_e (n := n) (c := 1) (by omega)
  refine AMet.of (by decide) (Nat.le_of_ble_eq_true rfl) (fun G hM => ?_)
  have hG := hM.cx
  refine A_hm0 (G := G) (L := [(0, .ref r), (1, .ref o), (2, vI p)]) ?_
  refine A_aload_n hG 0 dX7_copyWithout_0 rfl rfl ?_
  refine A_iconst (n := 0) hG dX7_copyWithout_1 ?_
  refine M_putI (z := 1) (li' := [(r, up (h.1 r) 1 0)]) hG dX7_copyWithout_2 fl_X7_15 (by decide) (obk_row hr) nf_7_1 rfl rfl (by constructor <;> omega) (Or.inl rfl) rfl ?_
  refine A_iconst (n := 0) hG dX7_copyWithout_5 ?_
  refine A_istore_n (L' := [(3, vI 0), (0, .ref r), (1, .ref o), (2, vI p)]) hG dX7_copyWithout_6 rfl (by decide) rfl ?_
  refine A_insI (r + 200) (li' := [(r, up (h.1 r) 1 0), (r + 200, h.1 (r + 200))]) (by simp (disch := omega) only [amg, aset, alk, if_neg, if_pos, ite_true]) ?_
  have i_0 : ∀ fu : Nat, ∀ (i : Int) (e : Int → Int) (f : Int → Int), (0 ≤ i ∧ i ≤ n) → ((p < i ∧ e 1 = i - 1) ∨ (i ≤ p ∧ e 1 = i)) → (∀ q, q ≠ 1 → e q = h.1 r q) → (∀ j, 0 ≤ j → j < e 1 → f j = rowC w 1 p v j) → ((9 - i).toNat) < fu → G 7 [(0, .ref r), (1, .ref o), (2, vI p), (3, vI i)] [] (hm h [(r, e), (r + 200, f)] [] []) := by
    intro fu
    induction fu with
    | zero => intro i e f hi hL hE hB hfu; exact absurd hfu (Nat.not_lt_zero _)
    | succ fu ih_i =>
      intro i e f hi hL hE hB hfu
      refine A_iload_n hG 3 dX7_copyWithout_7 rfl rfl ?_
      refine A_aload_n hG 1 dX7_copyWithout_8 rfl rfl ?_
      refine M_getI (z := 1) (v := h.1 o 1) hG dX7_copyWithout_9 fl_X7_15 (by decide) (obk_row ho) rfl rfl (congrFun (show alk [(r, e), (r + 200, f)] o (h.1 o) = h.1 o from (by simp (disch := omega) only [alk, if_neg, if_pos, ite_true])) 1) (fun ⟨ra_9, rb_9⟩ => ?_)
      refine A_icmp_ge hG 36 dX7_copyWithout_12 (by decide) (by constructor <;> omega) (by constructor <;> omega) (fun c_12 => ?_) (fun c_12 => ?_)
      ·
        exact Ret_v hM dX7_copyWithout_36 (⟨_, _, ⟨by omega, hE, fun j j0 j1 => hB j j0 (by omega)⟩, rfl⟩)
      ·
        refine A_iload_n hG 3 dX7_copyWithout_15 rfl rfl ?_
        refine A_iload_n hG 2 dX7_copyWithout_16 rfl rfl ?_
        refine A_icmp_eq hG 30 dX7_copyWithout_17 (by decide) (by constructor <;> omega) (by constructor <;> omega) (fun c_17 => ?_) (fun c_17 => ?_)
        ·
          refine A_iinc (L' := [(3, vI (i + 1)), (0, .ref r), (1, .ref o), (2, vI p)]) hG 3 dX7_copyWithout_30 rfl (by decide) rfl ?_
          refine A_goto hG 7 dX7_copyWithout_33 (by decide) ?_
          refine A_sub hG [1, 2, 3, 0] rfl ?_
          exact ih_i (i + 1) e f (by omega) (by first | omega | (rw [up_eq]; try omega)) hE hB (by omega)
        ·
          refine A_aload_n hG 0 dX7_copyWithout_20 rfl rfl ?_
          refine A_aload_n hG 1 dX7_copyWithout_21 rfl rfl ?_
          refine A_getR (r := (o + 200)) hG dX7_copyWithout_22 fl_X7_9 (by decide) (obk_row ho) (by decide) rfl ?_
          refine A_iload_n hG 3 dX7_copyWithout_25 rfl rfl ?_
          refine M_iald (v := (h.1 (o + 200)) i) hG dX7_copyWithout_26 (obk_rw ho) (obn_rw ho) (by omega) (congrFun (show alk [(r, e), (r + 200, f)] (o + 200) (h.1 (o + 200)) = h.1 (o + 200) from (by simp (disch := omega) only [alk, if_neg, if_pos, ite_true])) i) (fun ⟨ra_26, rb_26⟩ => ?_)
          refine C_Vv (as := [vI ((h.1 (o + 200)) i)]) (st := []) (k := r) (c := 7) hG dX7_copyWithout_27 ml_X7_32 mf_X7_append mi_X7_append se_X7_append rfl (by decide) (obk_row hr) (x_append (hm h [(r, e), (r + 200, f)] [] []) hr (v := ((h.1 (o + 200)) i)) (e := e) (f := f) (by simp (disch := omega) only [hm, alk, if_neg, if_pos, ite_true]) (by simp (disch := omega) only [hm, alk, if_neg, if_pos, ite_true]) (by constructor <;> omega) (by omega)) (by decide) (by decide) rfl rfl (Nat.le_of_ble_eq_true rfl) (fun g27 hp_27 => ?_)
          subst hp_27
          refine A_hm (la := [(r, up e 1 (e 1 + 1)), (r + 200, up f (e 1) ((h.1 (o + 200)) i))]) (lb := []) (lc := []) (by simp (disch := omega) only [amg, aset, alk, if_neg, if_pos, ite_true]) rfl rfl ?_
          refine A_iinc (L' := [(3, vI (i + 1)), (0, .ref r), (1, .ref o), (2, vI p)]) hG 3 dX7_copyWithout_30 rfl (by decide) rfl ?_
          refine A_goto hG 7 dX7_copyWithout_33 (by decide) ?_
          refine A_sub hG [1, 2, 3, 0] rfl ?_
          exact ih_i (i + 1) (up e 1 (e 1 + 1)) (up f (e 1) ((h.1 (o + 200)) i)) (by omega) (by first | omega | (rw [up_eq]; try omega)) (fun q hq => by first | exact up_ne _ _ hq | (rw [up_ne _ _ hq]; exact hE q hq)) (fun j j0 j1 => by
              rw [up_eq] at j1
              by_cases hq : j = e 1
              · rw [hq, up_eq]; first | (rw [rc_w (i := i) (by omega)]; exact hw1 i (by omega) (by omega)) | (rw [show e 1 = p by omega, rc_v (by omega)])
              · rw [up_ne _ _ (by omega)]; exact hB j j0 (by omega)) (by omega)
  refine A_sub hG [1, 2, 3, 0] rfl ?_
  exact i_0 _ 0 (up (h.1 r) 1 0) (h.1 (r + 200)) (by omega) (by first | omega | (rw [up_eq]; try omega)) (fun q hq => by first | exact up_ne _ _ hq | (rw [up_ne _ _ hq]; exact hE q hq)) (fun j j0 j1 => by rw [up_eq] at j1; omega) (Nat.lt_succ_self _)

set_option maxHeartbeats 2000000 in
set_option maxRecDepth 20000 in
theorem x_copyWith (h : AH) {r : Nat} (hr : 100 ≤ r ∧ r < 212) {o : Nat} (ho : 100 ≤ o ∧ o < 212) (hne : r ≠ o) {n : Int} {w : Int → Int} (hw : rowX h o n w) {p v : Int} (hn : 0 ≤ n ∧ n < 8) (hp : 0 ≤ p ∧ p ≤ n) (hv : ir v) : AMet yX7_copyWith cX7_copyWith 5 none 1 21 [.ref r, .ref o, vI p, vI v] h (Qv (fun h' => ∃ e f : Int → Int, (e 1 = lenC n 2 ∧ (∀ q, q ≠ 1 → e q = h.1 r q) ∧ ∀ j, 0 ≤ j → j < lenC n 2 → f j = rowC w 2 p v j) ∧ h' = hm h [(r, e), (r + 200, f)] [] [])) := by
  obtain ⟨hw0, hw1⟩ := hw
  have hlC := lenC_e (n := n) (c := 2) (by omega)
  refine AMet.of (by decide) (Nat.le_of_ble_eq_true rfl) (fun G hM => ?_)
  have hG := hM.cx
  refine A_hm0 (G := G) (L := [(0, .ref r), (1, .ref o), (2, vI p), (3, vI v)]) ?_
  refine A_aload_n hG 0 dX7_copyWith_0 rfl rfl ?_
  refine A_iconst (n := 0) hG dX7_copyWith_1 ?_
  refine M_putI (z := 1) (li' := [(r, up (h.1 r) 1 0)]) hG dX7_copyWith_2 fl_X7_15 (by decide) (obk_row hr) nf_7_1 rfl rfl (by constructor <;> omega) (Or.inl rfl) rfl ?_
  refine A_iconst (n := 0) hG dX7_copyWith_5 ?_
  refine A_istore (L' := [(4, vI 0), (0, .ref r), (1, .ref o), (2, vI p), (3, vI v)]) hG dX7_copyWith_6 (by decide) rfl ?_
  refine A_insI (r + 200) (li' := [(r, up (h.1 r) 1 0), (r + 200, h.1 (r + 200))]) (by simp (disch := omega) only [amg, aset, alk, if_neg, if_pos, ite_true]) ?_
  have i_0 : ∀ fu : Nat, ∀ (i : Int) (e : Int → Int) (f : Int → Int), (0 ≤ i ∧ i ≤ p) → (e 1 = i) → (∀ q, q ≠ 1 → e q = h.1 r q) → (∀ j, 0 ≤ j → j < e 1 → f j = rowC w 2 p v j) → ((9 - i).toNat) < fu → G 8 [(0, .ref r), (1, .ref o), (2, vI p), (3, vI v), (4, vI i)] [] (hm h [(r, e), (r + 200, f)] [] []) := by
    intro fu
    induction fu with
    | zero => intro i e f hi hL hE hB hfu; exact absurd hfu (Nat.not_lt_zero _)
    | succ fu ih_i =>
      intro i e f hi hL hE hB hfu
      refine A_iload hG 4 dX7_copyWith_8 rfl ?_
      refine A_iload_n hG 2 dX7_copyWith_10 rfl rfl ?_
      refine A_icmp_ge hG 31 dX7_copyWith_11 (by decide) (by constructor <;> omega) (by constructor <;> omega) (fun c_11 => ?_) (fun c_11 => ?_)
      ·
        refine A_aload_n hG 0 dX7_copyWith_31 rfl rfl ?_
        refine A_iload_n hG 3 dX7_copyWith_32 rfl rfl ?_
        refine C_Vv (as := [vI v]) (st := []) (k := r) (c := 7) hG dX7_copyWith_33 ml_X7_32 mf_X7_append mi_X7_append se_X7_append rfl (by decide) (obk_row hr) (x_append (hm h [(r, e), (r + 200, f)] [] []) hr (v := v) (e := e) (f := f) (by simp (disch := omega) only [hm, alk, if_neg, if_pos, ite_true]) (by simp (disch := omega) only [hm, alk, if_neg, if_pos, ite_true]) hv (by omega)) (by decide) (by decide) rfl rfl (Nat.le_of_ble_eq_true rfl) (fun g33 hp_33 => ?_)
        subst hp_33
        refine A_hm (la := [(r, up e 1 (e 1 + 1)), (r + 200, up f (e 1) v)]) (lb := []) (lc := []) (by simp (disch := omega) only [amg, aset, alk, if_neg, if_pos, ite_true]) rfl rfl ?_
        refine A_iload_n hG 2 dX7_copyWith_36 rfl rfl ?_
        refine A_istore (L' := [(4, vI p), (0, .ref r), (1, .ref o), (2, vI p), (3, vI v)]) hG dX7_copyWith_37 (by decide) rfl ?_
        have k_2 : ∀ fu : Nat, ∀ (i : Int) (e : Int → Int) (f : Int → Int), (p ≤ i ∧ i ≤ n) → (e 1 = i + 1) → (∀ q, q ≠ 1 → e q = h.1 r q) → (∀ j, 0 ≤ j → j < e 1 → f j = rowC w 2 p v j) → ((9 - i).toNat) < fu → G 39 [(0, .ref r), (1, .ref o), (2, vI p), (3, vI v), (4, vI i)] [] (hm h [(r, e), (r + 200, f)] [] []) := by
          intro fu
          induction fu with
          | zero => intro i e f hi hL hE hB hfu; exact absurd hfu (Nat.not_lt_zero _)
          | succ fu ih_k =>
            intro i e f hi hL hE hB hfu
            refine A_iload hG 4 dX7_copyWith_39 rfl ?_
            refine A_aload_n hG 1 dX7_copyWith_41 rfl rfl ?_
            refine M_getI (z := 1) (v := h.1 o 1) hG dX7_copyWith_42 fl_X7_15 (by decide) (obk_row ho) rfl rfl (congrFun (show alk [(r, e), (r + 200, f)] o (h.1 o) = h.1 o from (by simp (disch := omega) only [alk, if_neg, if_pos, ite_true])) 1) (fun ⟨ra_42, rb_42⟩ => ?_)
            refine A_icmp_ge hG 65 dX7_copyWith_45 (by decide) (by constructor <;> omega) (by constructor <;> omega) (fun c_45 => ?_) (fun c_45 => ?_)
            ·
              exact Ret_v hM dX7_copyWith_65 (⟨_, _, ⟨by omega, hE, fun j j0 j1 => hB j j0 (by omega)⟩, rfl⟩)
            ·
              refine A_aload_n hG 0 dX7_copyWith_48 rfl rfl ?_
              refine A_aload_n hG 1 dX7_copyWith_49 rfl rfl ?_
              refine A_getR (r := (o + 200)) hG dX7_copyWith_50 fl_X7_9 (by decide) (obk_row ho) (by decide) rfl ?_
              refine A_iload hG 4 dX7_copyWith_53 rfl ?_
              refine M_iald (v := (h.1 (o + 200)) i) hG dX7_copyWith_55 (obk_rw ho) (obn_rw ho) (by omega) (congrFun (show alk [(r, e), (r + 200, f)] (o + 200) (h.1 (o + 200)) = h.1 (o + 200) from (by simp (disch := omega) only [alk, if_neg, if_pos, ite_true])) i) (fun ⟨ra_55, rb_55⟩ => ?_)
              refine C_Vv (as := [vI ((h.1 (o + 200)) i)]) (st := []) (k := r) (c := 7) hG dX7_copyWith_56 ml_X7_32 mf_X7_append mi_X7_append se_X7_append rfl (by decide) (obk_row hr) (x_append (hm h [(r, e), (r + 200, f)] [] []) hr (v := ((h.1 (o + 200)) i)) (e := e) (f := f) (by simp (disch := omega) only [hm, alk, if_neg, if_pos, ite_true]) (by simp (disch := omega) only [hm, alk, if_neg, if_pos, ite_true]) (by constructor <;> omega) (by omega)) (by decide) (by decide) rfl rfl (Nat.le_of_ble_eq_true rfl) (fun g56 hp_56 => ?_)
              subst hp_56
              refine A_hm (la := [(r, up e 1 (e 1 + 1)), (r + 200, up f (e 1) ((h.1 (o + 200)) i))]) (lb := []) (lc := []) (by simp (disch := omega) only [amg, aset, alk, if_neg, if_pos, ite_true]) rfl rfl ?_
              refine A_iinc (L' := [(4, vI (i + 1)), (0, .ref r), (1, .ref o), (2, vI p), (3, vI v)]) hG 4 dX7_copyWith_59 rfl (by decide) rfl ?_
              refine A_goto hG 39 dX7_copyWith_62 (by decide) ?_
              refine A_sub hG [1, 2, 3, 4, 0] rfl ?_
              exact ih_k (i + 1) (up e 1 (e 1 + 1)) (up f (e 1) ((h.1 (o + 200)) i)) (by omega) (by first | omega | (rw [up_eq]; try omega)) (fun q hq => by first | exact up_ne _ _ hq | (rw [up_ne _ _ hq]; exact hE q hq)) (fun j j0 j1 => by
                  rw [up_eq] at j1
                  by_cases hq : j = e 1
                  · rw [hq, up_eq]; first | (rw [rc_w (i := i) (by omega)]; exact hw1 i (by omega) (by omega)) | (rw [show e 1 = p by omega, rc_v (by omega)])
                  · rw [up_ne _ _ (by omega)]; exact hB j j0 (by omega)) (by omega)
        refine A_sub hG [1, 2, 3, 4, 0] rfl ?_
        exact k_2 _ p (up e 1 (e 1 + 1)) (up f (e 1) v) (by omega) (by first | omega | (rw [up_eq]; try omega)) (fun q hq => by first | exact up_ne _ _ hq | (rw [up_ne _ _ hq]; exact hE q hq)) (fun j j0 j1 => by
            rw [up_eq] at j1
            by_cases hq : j = e 1
            · rw [hq, up_eq]; first | (rw [rc_w (i := i) (by omega)]; exact hw1 i (by omega) (by omega)) | (rw [show e 1 = p by omega, rc_v (by omega)])
            · rw [up_ne _ _ (by omega)]; exact hB j j0 (by omega)) (Nat.lt_succ_self _)
      ·
        refine A_aload_n hG 0 dX7_copyWith_14 rfl rfl ?_
        refine A_aload_n hG 1 dX7_copyWith_15 rfl rfl ?_
        refine A_getR (r := (o + 200)) hG dX7_copyWith_16 fl_X7_9 (by decide) (obk_row ho) (by decide) rfl ?_
        refine A_iload hG 4 dX7_copyWith_19 rfl ?_
        refine M_iald (v := (h.1 (o + 200)) i) hG dX7_copyWith_21 (obk_rw ho) (obn_rw ho) (by omega) (congrFun (show alk [(r, e), (r + 200, f)] (o + 200) (h.1 (o + 200)) = h.1 (o + 200) from (by simp (disch := omega) only [alk, if_neg, if_pos, ite_true])) i) (fun ⟨ra_21, rb_21⟩ => ?_)
        refine C_Vv (as := [vI ((h.1 (o + 200)) i)]) (st := []) (k := r) (c := 7) hG dX7_copyWith_22 ml_X7_32 mf_X7_append mi_X7_append se_X7_append rfl (by decide) (obk_row hr) (x_append (hm h [(r, e), (r + 200, f)] [] []) hr (v := ((h.1 (o + 200)) i)) (e := e) (f := f) (by simp (disch := omega) only [hm, alk, if_neg, if_pos, ite_true]) (by simp (disch := omega) only [hm, alk, if_neg, if_pos, ite_true]) (by constructor <;> omega) (by omega)) (by decide) (by decide) rfl rfl (Nat.le_of_ble_eq_true rfl) (fun g22 hp_22 => ?_)
        subst hp_22
        refine A_hm (la := [(r, up e 1 (e 1 + 1)), (r + 200, up f (e 1) ((h.1 (o + 200)) i))]) (lb := []) (lc := []) (by simp (disch := omega) only [amg, aset, alk, if_neg, if_pos, ite_true]) rfl rfl ?_
        refine A_iinc (L' := [(4, vI (i + 1)), (0, .ref r), (1, .ref o), (2, vI p), (3, vI v)]) hG 4 dX7_copyWith_25 rfl (by decide) rfl ?_
        refine A_goto hG 8 dX7_copyWith_28 (by decide) ?_
        refine A_sub hG [1, 2, 3, 4, 0] rfl ?_
        exact ih_i (i + 1) (up e 1 (e 1 + 1)) (up f (e 1) ((h.1 (o + 200)) i)) (by omega) (by first | omega | (rw [up_eq]; try omega)) (fun q hq => by first | exact up_ne _ _ hq | (rw [up_ne _ _ hq]; exact hE q hq)) (fun j j0 j1 => by
            rw [up_eq] at j1
            by_cases hq : j = e 1
            · rw [hq, up_eq]; first | (rw [rc_w (i := i) (by omega)]; exact hw1 i (by omega) (by omega)) | (rw [show e 1 = p by omega, rc_v (by omega)])
            · rw [up_ne _ _ (by omega)]; exact hB j j0 (by omega)) (by omega)
  refine A_sub hG [1, 2, 3, 4, 0] rfl ?_
  exact i_0 _ 0 (up (h.1 r) 1 0) (h.1 (r + 200)) (by omega) (by first | omega | (rw [up_eq]; try omega)) (fun q hq => by first | exact up_ne _ _ hq | (rw [up_ne _ _ hq]; exact hE q hq)) (fun j j0 j1 => by rw [up_eq] at j1; omega) (Nat.lt_succ_self _)

set_option maxHeartbeats 2000000 in
set_option maxRecDepth 20000 in
theorem x_orderTo (h : AH) {r : Nat} (hr : 100 ≤ r ∧ r < 212) {o : Nat} (ho : 100 ≤ o ∧ o < 212) {n n' : Int} {w w' : Int → Int} (hwr : rowX h r n w) (hwo : rowX h o n' w') (hn : 0 ≤ n ∧ n ≤ 8) (hn' : 0 ≤ n' ∧ n' ≤ 8) (hd : ∀ i, 0 ≤ i → i < n → 0 ≤ w i ∧ w i < 16) (hd' : ∀ i, 0 ≤ i → i < n' → 0 ≤ w' i ∧ w' i < 16) : AMet yX7_orderTo cX7_orderTo 3 (some .int) 0 0 [.ref r, .ref o] h (Qi (fun z h' => ((z = 0 ∧ n = n' ∧ ∀ i, 0 ≤ i → i < n → w i = w' i) ∨ (z < 0 ∧ rlt n w n' w') ∨ (0 < z ∧ rlt n' w' n w)) ∧ h' = h)) := by
  obtain ⟨hw0, hw1⟩ := hwr
  obtain ⟨hx0, hx1⟩ := hwo
  refine AMet.of (by decide) (Nat.le_of_ble_eq_true rfl) (fun G hM => ?_)
  have hG := hM.cx
  refine A_hm0 (G := G) (L := [(0, .ref r), (1, .ref o)]) ?_
  refine A_aload_n hG 0 dX7_orderTo_0 rfl rfl ?_
  refine M_getI (z := 1) (v := n) hG dX7_orderTo_1 fl_X7_15 (by decide) (obk_row hr) rfl rfl hw0 (fun ⟨ra_1, rb_1⟩ => ?_)
  refine A_aload_n hG 1 dX7_orderTo_4 rfl rfl ?_
  refine M_getI (z := 1) (v := n') hG dX7_orderTo_5 fl_X7_15 (by decide) (obk_row ho) rfl rfl hx0 (fun ⟨ra_5, rb_5⟩ => ?_)
  refine A_icmp_eq hG 21 dX7_orderTo_8 (by decide) (by constructor <;> omega) (by constructor <;> omega) (fun c_8 => ?_) (fun c_8 => ?_)
  ·
    refine A_iconst (n := 0) hG dX7_orderTo_21 ?_
    refine A_istore_n (L' := [(2, vI 0), (0, .ref r), (1, .ref o)]) hG dX7_orderTo_22 rfl (by decide) rfl ?_
    have i_0 : ∀ fu : Nat, ∀ (i : Int), (0 ≤ i ∧ i ≤ n) → (∀ j, 0 ≤ j → j < i → w j = w' j) → ((9 - i).toNat) < fu → G 23 [(0, .ref r), (1, .ref o), (2, vI i)] [] (hm h [] [] []) := by
      intro fu
      induction fu with
      | zero => intro i hi hq hfu; exact absurd hfu (Nat.not_lt_zero _)
      | succ fu ih_i =>
        intro i hi hq hfu
        refine A_iload_n hG 2 dX7_orderTo_23 rfl rfl ?_
        refine A_aload_n hG 0 dX7_orderTo_24 rfl rfl ?_
        refine M_getI (z := 1) (v := n) hG dX7_orderTo_25 fl_X7_15 (by decide) (obk_row hr) rfl rfl hw0 (fun ⟨ra_25, rb_25⟩ => ?_)
        refine A_icmp_ge hG 66 dX7_orderTo_28 (by decide) (by constructor <;> omega) (by constructor <;> omega) (fun c_28 => ?_) (fun c_28 => ?_)
        ·
          refine A_iconst (n := 0) hG dX7_orderTo_66 ?_
          exact Ret_i hM dX7_orderTo_67 (by constructor <;> omega) (⟨Or.inl ⟨rfl, by omega, fun j j0 j1 => hq j j0 (by omega)⟩, rfl⟩)
        ·
          have hd1 := hd i (by omega) (by omega)
          have hd2 := hd' i (by omega) (by omega)
          refine A_aload_n hG 0 dX7_orderTo_31 rfl rfl ?_
          refine A_getR (r := (r + 200)) hG dX7_orderTo_32 fl_X7_9 (by decide) (obk_row hr) (by decide) rfl ?_
          refine A_iload_n hG 2 dX7_orderTo_35 rfl rfl ?_
          refine M_iald (v := w i) hG dX7_orderTo_36 (obk_rw hr) (obn_rw hr) (by omega) (hw1 i (by omega) (by omega)) (fun ⟨ra_36, rb_36⟩ => ?_)
          refine A_aload_n hG 1 dX7_orderTo_37 rfl rfl ?_
          refine A_getR (r := (o + 200)) hG dX7_orderTo_38 fl_X7_9 (by decide) (obk_row ho) (by decide) rfl ?_
          refine A_iload_n hG 2 dX7_orderTo_41 rfl rfl ?_
          refine M_iald (v := w' i) hG dX7_orderTo_42 (obk_rw ho) (obn_rw ho) (by omega) (hx1 i (by omega) (by omega)) (fun ⟨ra_42, rb_42⟩ => ?_)
          refine A_icmp_eq hG 60 dX7_orderTo_43 (by decide) (by constructor <;> omega) (by constructor <;> omega) (fun c_43 => ?_) (fun c_43 => ?_)
          ·
            refine A_iinc (L' := [(2, vI (i + 1)), (0, .ref r), (1, .ref o)]) hG 2 dX7_orderTo_60 rfl (by decide) rfl ?_
            refine A_goto hG 23 dX7_orderTo_63 (by decide) ?_
            refine A_sub hG [1, 2, 0] rfl ?_
            exact ih_i (i + 1) (by omega) (fun j j0 j1 => by
                by_cases hj : j = i
                · rw [hj]; exact c_43
                · exact hq j j0 (by omega)) (by omega)
          ·
            refine A_aload_n hG 0 dX7_orderTo_46 rfl rfl ?_
            refine A_getR (r := (r + 200)) hG dX7_orderTo_47 fl_X7_9 (by decide) (obk_row hr) (by decide) rfl ?_
            refine A_iload_n hG 2 dX7_orderTo_50 rfl rfl ?_
            refine M_iald (v := w i) hG dX7_orderTo_51 (obk_rw hr) (obn_rw hr) (by omega) (hw1 i (by omega) (by omega)) (fun ⟨ra_51, rb_51⟩ => ?_)
            refine A_aload_n hG 1 dX7_orderTo_52 rfl rfl ?_
            refine A_getR (r := (o + 200)) hG dX7_orderTo_53 fl_X7_9 (by decide) (obk_row ho) (by decide) rfl ?_
            refine A_iload_n hG 2 dX7_orderTo_56 rfl rfl ?_
            refine M_iald (v := w' i) hG dX7_orderTo_57 (obk_rw ho) (obn_rw ho) (by omega) (hx1 i (by omega) (by omega)) (fun ⟨ra_57, rb_57⟩ => ?_)
            refine A_isub hG dX7_orderTo_58 ?_
            exact Ret_i hM dX7_orderTo_59 (by constructor <;> omega) (⟨by
                rcases (show w i < w' i ∨ w' i < w i by omega) with q | q
                · exact Or.inr (Or.inl ⟨by omega, Or.inr ⟨by omega, i, by omega, by omega, hq, q⟩⟩)
                · exact Or.inr (Or.inr ⟨by omega, Or.inr ⟨by omega, i, by omega, by omega, fun j j0 j1 => (hq j j0 j1).symm, q⟩⟩), rfl⟩)
    refine A_sub hG [1, 2, 0] rfl ?_
    exact i_0 _ 0 (by omega) (fun j j0 j1 => by omega) (Nat.lt_succ_self _)
  ·
    refine A_aload_n hG 0 dX7_orderTo_11 rfl rfl ?_
    refine M_getI (z := 1) (v := n) hG dX7_orderTo_12 fl_X7_15 (by decide) (obk_row hr) rfl rfl hw0 (fun ⟨ra_12, rb_12⟩ => ?_)
    refine A_aload_n hG 1 dX7_orderTo_15 rfl rfl ?_
    refine M_getI (z := 1) (v := n') hG dX7_orderTo_16 fl_X7_15 (by decide) (obk_row ho) rfl rfl hx0 (fun ⟨ra_16, rb_16⟩ => ?_)
    refine A_isub hG dX7_orderTo_19 ?_
    exact Ret_i hM dX7_orderTo_20 (by constructor <;> omega) (⟨by
        rcases (show n < n' ∨ n' < n by omega) with q | q
        · exact Or.inr (Or.inl ⟨by omega, Or.inl q⟩)
        · exact Or.inr (Or.inr ⟨by omega, Or.inl q⟩), rfl⟩)

set_option maxHeartbeats 2000000 in
set_option maxRecDepth 20000 in
theorem x_familyAt (h : AH) {r : Nat} (hr : 100 ≤ r ∧ r < 212) {gn : Nat} (hg : gn = 20 ∨ gn = 40) {g : Gm} (hgx : gX h gn = g) (hOk : okG g) {n p : Int} {w : Int → Int} (hwr : rowX h r n w) (hW : okW g w n) (hp : 0 ≤ p ∧ p < 8) : AMet yX7_familyAt cX7_familyAt 3 (some .int) 0 0 [.ref r, .ref gn, vI p] h (Qi (fun z h' => z = (if p < n then g 2 (w p) else 16) ∧ h' = h)) := by
  obtain ⟨hw0, hw1⟩ := hwr
  have hn := hW.1
  have hgn := hOk.1
  refine AMet.of (by decide) (Nat.le_of_ble_eq_true rfl) (fun G hM => ?_)
  have hG := hM.cx
  refine A_hm0 (G := G) (L := [(0, .ref r), (1, .ref gn), (2, vI p)]) ?_
  refine A_iload_n hG 2 dX7_familyAt_0 rfl rfl ?_
  refine A_aload_n hG 0 dX7_familyAt_1 rfl rfl ?_
  refine M_getI (z := 1) (v := n) hG dX7_familyAt_2 fl_X7_15 (by decide) (obk_row hr) rfl rfl hw0 (fun ⟨ra_2, rb_2⟩ => ?_)
  refine A_icmp_ge hG 22 dX7_familyAt_5 (by decide) (by constructor <;> omega) (by constructor <;> omega) (fun c_5 => ?_) (fun c_5 => ?_)
  ·
    refine A_bipush (n := 16) hG dX7_familyAt_22 (by decide) ?_
    exact Ret_i hM dX7_familyAt_24 (by constructor <;> omega) (⟨by rw [if_neg (by omega)], rfl⟩)
  ·
    have hww := hW.2 p (by omega) (by omega)
    have hfa := (hOk.2.2.1 (w p) hww.1 hww.2).2.2.1
    refine A_aload_n hG 1 dX7_familyAt_8 rfl rfl ?_
    refine A_getR (r := (gn + 3)) hG dX7_familyAt_9 fl_X7_36 (by decide) (kg0 hg) (by decide) rfl ?_
    refine A_aload_n hG 0 dX7_familyAt_12 rfl rfl ?_
    refine A_getR (r := (r + 200)) hG dX7_familyAt_13 fl_X7_9 (by decide) (obk_row hr) (by decide) rfl ?_
    refine A_iload_n hG 2 dX7_familyAt_16 rfl rfl ?_
    refine M_iald (v := w p) hG dX7_familyAt_17 (obk_rw hr) (obn_rw hr) (by omega) (hw1 p (by omega) (by omega)) (fun ⟨ra_17, rb_17⟩ => ?_)
    refine M_iald (v := g 2 (w p)) hG dX7_familyAt_18 (kg3 hg) (ng3 hg) (by omega) ((gx_w hgx hww).2.2.1) (fun ⟨ra_18, rb_18⟩ => ?_)
    refine A_goto hG 24 dX7_familyAt_19 (by decide) ?_
    exact Ret_i hM dX7_familyAt_24 (by constructor <;> omega) (⟨by rw [if_pos (by omega)], rfl⟩)

set_option maxHeartbeats 2000000 in
set_option maxRecDepth 20000 in
theorem x_hasFamiliesOf (h : AH) {r : Nat} (hr : 100 ≤ r ∧ r < 212) {o : Nat} (ho : 100 ≤ o ∧ o < 212) {gn : Nat} (hg : gn = 20 ∨ gn = 40) {g : Gm} (hgx : gX h gn = g) (hOk : okG g) {n n' : Int} {w w' : Int → Int} (hwr : rowX h r n w) (hwo : rowX h o n' w') (hW : okW g w n) (hW' : okW g w' n') : AMet yX7_hasFamiliesOf cX7_hasFamiliesOf 4 (some .boolean) 1 22 [.ref r, .ref gn, .ref o] h (Qi (fun z h' => ((z = 1 ∧ ∀ p, 0 ≤ p → p < 8 → (if p < n then g 2 (w p) else 16) = (if p < n' then g 2 (w' p) else 16)) ∨ (z = 0 ∧ ∃ p, 0 ≤ p ∧ p < 8 ∧ (if p < n then g 2 (w p) else 16) ≠ (if p < n' then g 2 (w' p) else 16))) ∧ h' = h)) := by
  refine AMet.of (by decide) (Nat.le_of_ble_eq_true rfl) (fun G hM => ?_)
  have hG := hM.cx
  refine A_hm0 (G := G) (L := [(0, .ref r), (1, .ref gn), (2, .ref o)]) ?_
  refine A_iconst (n := 0) hG dX7_hasFamiliesOf_0 ?_
  refine A_istore_n (L' := [(3, vI 0), (0, .ref r), (1, .ref gn), (2, .ref o)]) hG dX7_hasFamiliesOf_1 rfl (by decide) rfl ?_
  have i_0 : ∀ fu : Nat, ∀ (i : Int), (0 ≤ i ∧ i ≤ 8) → (∀ p, 0 ≤ p → p < i → (if p < n then g 2 (w p) else 16) = (if p < n' then g 2 (w' p) else 16)) → ((9 - i).toNat) < fu → G 2 [(0, .ref r), (1, .ref gn), (2, .ref o), (3, vI i)] [] (hm h [] [] []) := by
    intro fu
    induction fu with
    | zero => intro i hi hq hfu; exact absurd hfu (Nat.not_lt_zero _)
    | succ fu ih_i =>
      intro i hi hq hfu
      refine A_iload_n hG 3 dX7_hasFamiliesOf_2 rfl rfl ?_
      refine A_bipush (n := 8) hG dX7_hasFamiliesOf_3 (by decide) ?_
      refine A_icmp_ge hG 31 dX7_hasFamiliesOf_5 (by decide) (by constructor <;> omega) (by constructor <;> omega) (fun c_5 => ?_) (fun c_5 => ?_)
      ·
        refine A_iconst (n := 1) hG dX7_hasFamiliesOf_31 ?_
        exact Ret_z hM dX7_hasFamiliesOf_32 (by omega) (⟨Or.inl ⟨rfl, fun p p0 p1 => hq p p0 (by omega)⟩, rfl⟩)
      ·
        refine A_aload_n hG 0 dX7_hasFamiliesOf_8 rfl rfl ?_
        refine A_aload_n hG 1 dX7_hasFamiliesOf_9 rfl rfl ?_
        refine A_iload_n hG 3 dX7_hasFamiliesOf_10 rfl rfl ?_
        refine C_Vi (as := [.ref gn, vI i]) (st := []) (k := r) (c := 7) hG dX7_hasFamiliesOf_11 ml_X7_41 mf_X7_familyAt mi_X7_familyAt se_X7_familyAt rfl (by decide) (obk_row hr) (x_familyAt (hm h [] [] []) hr hg (g := g) hgx hOk (n := n) (p := i) (w := w) hwr hW (by omega)) (by decide) (by decide) rfl rfl (Nat.le_of_ble_eq_true rfl) (fun z11 g11 ri_11 hp_11 => ?_)
        obtain ⟨ra_11, rb_11⟩ := ri_11
        obtain ⟨hz11, rfl⟩ := hp_11
        refine A_aload_n hG 2 dX7_hasFamiliesOf_14 rfl rfl ?_
        refine A_aload_n hG 1 dX7_hasFamiliesOf_15 rfl rfl ?_
        refine A_iload_n hG 3 dX7_hasFamiliesOf_16 rfl rfl ?_
        refine C_Vi (as := [.ref gn, vI i]) (st := [vI z11]) (k := o) (c := 7) hG dX7_hasFamiliesOf_17 ml_X7_41 mf_X7_familyAt mi_X7_familyAt se_X7_familyAt rfl (by decide) (obk_row ho) (x_familyAt (hm h [] [] []) ho hg (g := g) hgx hOk (n := n') (p := i) (w := w') hwo hW' (by omega)) (by decide) (by decide) rfl rfl (Nat.le_of_ble_eq_true rfl) (fun z17 g17 ri_17 hp_17 => ?_)
        obtain ⟨ra_17, rb_17⟩ := ri_17
        obtain ⟨hz17, rfl⟩ := hp_17
        refine A_icmp_eq hG 25 dX7_hasFamiliesOf_20 (by decide) (by constructor <;> omega) (by constructor <;> omega) (fun c_20 => ?_) (fun c_20 => ?_)
        ·
          refine A_iinc (L' := [(3, vI (i + 1)), (0, .ref r), (1, .ref gn), (2, .ref o)]) hG 3 dX7_hasFamiliesOf_25 rfl (by decide) rfl ?_
          refine A_goto hG 2 dX7_hasFamiliesOf_28 (by decide) ?_
          refine A_sub hG [1, 2, 3, 0] rfl ?_
          exact ih_i (i + 1) (by omega) (fun j j0 j1 => by
              by_cases hj : j = i
              · rw [hj, ← hz11, ← hz17]; exact c_20
              · exact hq j j0 (by omega)) (by omega)
        ·
          refine A_iconst (n := 0) hG dX7_hasFamiliesOf_23 ?_
          exact Ret_z hM dX7_hasFamiliesOf_24 (by omega) (⟨Or.inr ⟨rfl, i, by omega, by omega, by rw [← hz11, ← hz17]; exact c_20⟩, rfl⟩)
  refine A_sub hG [1, 2, 3, 0] rfl ?_
  exact i_0 _ 0 (by omega) (fun j j0 j1 => by omega) (Nat.lt_succ_self _)

set_option maxHeartbeats 2000000 in
set_option maxRecDepth 20000 in
theorem x_handAppend (h : AH) {v : Int} (hv : ir v) (hn : 0 ≤ h.1 7 1 ∧ h.1 7 1 < 60) : AMet yX2_append cX2_append 2 none 0 0 [.ref 7, vI v] h (Qv (fun h' => h' = hm h [(8, up (h.1 8) (h.1 7 1) v), (7, up (h.1 7) 1 (h.1 7 1 + 1))] [] [])) := by
  refine AMet.of (by decide) (Nat.le_of_ble_eq_true rfl) (fun G hM => ?_)
  have hG := hM.cx
  refine A_hm0 (G := G) (L := [(0, .ref 7), (1, vI v)]) ?_
  refine A_aload_n hG 0 dX2_append_0 rfl rfl ?_
  refine M_getI (z := 1) (v := h.1 7 1) hG dX2_append_1 fl_X2_15 (by decide) k7 rfl rfl rfl (fun ⟨ra_1, rb_1⟩ => ?_)
  refine A_bipush (n := 60) hG dX2_append_4 (by decide) ?_
  refine A_icmp_ge hG 29 dX2_append_6 (by decide) (by constructor <;> omega) (by constructor <;> omega) (fun c_6 => ?_) (fun c_6 => ?_)
  ·
    exfalso; omega
  ·
    refine A_aload_n hG 0 dX2_append_9 rfl rfl ?_
    refine A_getR (r := 8) hG dX2_append_10 fl_X2_9 (by decide) k7 (by decide) rfl ?_
    refine A_aload_n hG 0 dX2_append_13 rfl rfl ?_
    refine M_getI (z := 1) (v := h.1 7 1) hG dX2_append_14 fl_X2_15 (by decide) k7 rfl rfl rfl (fun ⟨ra_14, rb_14⟩ => ?_)
    refine A_iload_n hG 1 dX2_append_17 rfl rfl ?_
    refine M_iast (li' := [(8, up (h.1 8) (h.1 7 1) v)]) hG dX2_append_18 k8 n8 (by omega) hv rfl ?_
    refine A_aload_n hG 0 dX2_append_19 rfl rfl ?_
    refine A_dup hG dX2_append_20 rfl ?_
    refine M_getI (z := 1) (v := h.1 7 1) hG dX2_append_21 fl_X2_15 (by decide) k7 rfl rfl rfl (fun ⟨ra_21, rb_21⟩ => ?_)
    refine A_iconst (n := 1) hG dX2_append_24 ?_
    refine A_iadd hG dX2_append_25 ?_
    refine M_putI (z := 1) (li' := [(8, up (h.1 8) (h.1 7 1) v), (7, up (h.1 7) 1 ((h.1 7 1) + 1))]) hG dX2_append_26 fl_X2_15 (by decide) k7 nf_2_1 rfl rfl (by constructor <;> omega) (Or.inl rfl) rfl ?_
    exact Ret_v hM dX2_append_29 rfl

set_option maxHeartbeats 2000000 in
set_option maxRecDepth 20000 in
theorem x_fittedPrice (h : AH) {c : Int} (hc : 0 ≤ c ∧ c ≤ 4) (hn : 0 < h.1 7 1 ∧ h.1 7 1 ≤ 60) : AMet yX2_fittedPrice cX2_fittedPrice 4 (some .int) 0 0 [.ref 7, vI c] h (Qi (fun z h' => z = 10 - idiv (9 * cntE (h.1 8) c (h.1 7 1).toNat) (h.1 7 1) ∧ h' = h)) := by
  refine AMet.of (by decide) (Nat.le_of_ble_eq_true rfl) (fun G hM => ?_)
  have hG := hM.cx
  refine A_hm0 (G := G) (L := [(0, .ref 7), (1, vI c)]) ?_
  refine A_iconst (n := 0) hG dX2_fittedPrice_0 ?_
  refine A_istore_n (L' := [(2, vI 0), (0, .ref 7), (1, vI c)]) hG dX2_fittedPrice_1 rfl (by decide) rfl ?_
  refine A_iconst (n := 0) hG dX2_fittedPrice_2 ?_
  refine A_istore_n (L' := [(3, vI 0), (2, vI 0), (0, .ref 7), (1, vI c)]) hG dX2_fittedPrice_3 rfl (by decide) rfl ?_
  have a_0 : ∀ fu : Nat, ∀ (x : Int) (j : Nat), (j ≤ (h.1 7 1).toNat) → (x = cntE (h.1 8) c j) → (60 - j) < fu → G 4 [(0, .ref 7), (1, vI c), (2, vI x), (3, vI (j : Int))] [] (hm h [] [] []) := by
    intro fu
    induction fu with
    | zero => intro x j hj hx hfu; exact absurd hfu (Nat.not_lt_zero _)
    | succ fu ih_a =>
      intro x j hj hx hfu
      have hb := cntE_le (h.1 8) c j
      refine A_iload_n hG 3 dX2_fittedPrice_4 rfl rfl ?_
      refine A_aload_n hG 0 dX2_fittedPrice_5 rfl rfl ?_
      refine M_getI (z := 1) (v := h.1 7 1) hG dX2_fittedPrice_6 fl_X2_15 (by decide) k7 rfl rfl rfl (fun ⟨ra_6, rb_6⟩ => ?_)
      refine A_icmp_ge hG 31 dX2_fittedPrice_9 (by decide) (by constructor <;> omega) (by constructor <;> omega) (fun c_9 => ?_) (fun c_9 => ?_)
      ·
        refine A_aload_n hG 0 dX2_fittedPrice_31 rfl rfl ?_
        refine M_getI (z := 1) (v := h.1 7 1) hG dX2_fittedPrice_32 fl_X2_15 (by decide) k7 rfl rfl rfl (fun ⟨ra_32, rb_32⟩ => ?_)
        refine A_if_ne hG 43 dX2_fittedPrice_35 (by decide) (by constructor <;> omega) (fun c_35 => ?_) (fun c_35 => ?_)
        ·
          refine A_bipush (n := 10) hG dX2_fittedPrice_43 (by decide) ?_
          refine A_bipush (n := 9) hG dX2_fittedPrice_45 (by decide) ?_
          refine A_iload_n hG 2 dX2_fittedPrice_47 rfl rfl ?_
          refine A_imul hG dX2_fittedPrice_48 ?_
          refine A_aload_n hG 0 dX2_fittedPrice_49 rfl rfl ?_
          refine M_getI (z := 1) (v := h.1 7 1) hG dX2_fittedPrice_50 fl_X2_15 (by decide) k7 rfl rfl rfl (fun ⟨ra_50, rb_50⟩ => ?_)
          refine A_idiv hG dX2_fittedPrice_53 (by constructor <;> omega) (by omega) ?_
          refine A_isub hG dX2_fittedPrice_54 ?_
          have hdv := idiv9 (n := h.1 7 1) (x := x) (by omega) (by omega)
          have hiv : ir (10 - idiv (9 * x) (h.1 7 1)) := by constructor <;> omega
          exact Ret_i hM dX2_fittedPrice_55 hiv (⟨by rw [hx, show j = (h.1 7 1).toNat from (by omega)], rfl⟩)
        ·
          exfalso; omega
      ·
        refine A_aload_n hG 0 dX2_fittedPrice_12 rfl rfl ?_
        refine A_getR (r := 8) hG dX2_fittedPrice_13 fl_X2_9 (by decide) k7 (by decide) rfl ?_
        refine A_iload_n hG 3 dX2_fittedPrice_16 rfl rfl ?_
        refine M_iald (v := h.1 8 (j : Int)) hG dX2_fittedPrice_17 k8 n8 (by omega) rfl (fun ⟨ra_17, rb_17⟩ => ?_)
        refine A_iload_n hG 1 dX2_fittedPrice_18 rfl rfl ?_
        refine A_icmp_ne hG 25 dX2_fittedPrice_19 (by decide) (by constructor <;> omega) (by constructor <;> omega) (fun c_19 => ?_) (fun c_19 => ?_)
        ·
          refine A_iinc (L' := [(3, vI ((j : Int) + 1)), (0, .ref 7), (1, vI c), (2, vI x)]) hG 3 dX2_fittedPrice_25 rfl (by decide) rfl ?_
          refine A_goto hG 4 dX2_fittedPrice_28 (by decide) ?_
          refine A_sub hG [1, 2, 3, 0] rfl ?_
          exact ih_a x (j + 1) (by omega) (by simp only [cntE]; split <;> omega) (by omega)
        ·
          refine A_iinc (L' := [(2, vI (x + 1)), (0, .ref 7), (1, vI c), (3, vI (j : Int))]) hG 2 dX2_fittedPrice_22 rfl (by decide) rfl ?_
          refine A_iinc (L' := [(3, vI ((j : Int) + 1)), (2, vI (x + 1)), (0, .ref 7), (1, vI c)]) hG 3 dX2_fittedPrice_25 rfl (by decide) rfl ?_
          refine A_goto hG 4 dX2_fittedPrice_28 (by decide) ?_
          refine A_sub hG [2, 3, 1, 0] rfl ?_
          exact ih_a (x + 1) (j + 1) (by omega) (by simp only [cntE]; split <;> omega) (by omega)
  refine A_sub hG [2, 3, 1, 0] rfl ?_
  exact a_0 _ 0 0 (by omega) rfl (Nat.lt_succ_self _)

theorem cmE_yes {f : Int → Int} {c a i : Int} : ∀ {n : Nat}, 0 ≤ i → i < n → a ≤ i → f i = c → cmE f c a n = 1
  | 0, h0, h1, _, _ => by omega
  | n + 1, h0, h1, h2, h3 => by
    simp only [cmE]
    by_cases hq : i = n
    · rw [if_pos (Or.inr ⟨by omega, by rw [← hq]; exact h3⟩)]
    · rw [if_pos (Or.inl (by rw [cmE_yes (n := n) h0 (by omega) h2 h3]; decide))]
theorem cmE_no {f : Int → Int} {c a : Int} : ∀ {n : Nat}, (∀ i : Int, 0 ≤ i → i < n → a ≤ i → f i ≠ c) → cmE f c a n = 0
  | 0, _ => rfl
  | n + 1, h => by
    simp only [cmE]
    rw [if_neg]
    rintro (q | ⟨q1, q2⟩)
    · exact q (cmE_no (n := n) (fun i i0 i1 i2 => h i i0 (by omega) i2))
    · exact h n (by omega) (by omega) q1 q2
set_option maxHeartbeats 2000000 in
set_option maxRecDepth 20000 in
theorem x_cameSince (h : AH) {c a : Int} (hc : 0 ≤ c ∧ c ≤ 4) (ha : -60 ≤ a ∧ a ≤ 60) (hn : 0 ≤ h.1 7 1 ∧ h.1 7 1 ≤ 60) : AMet yX2_cameSince cX2_cameSince 4 (some .boolean) 1 21 [.ref 7, vI c, vI a] h (Qi (fun z h' => z = cmE (h.1 8) c a (h.1 7 1).toNat ∧ h' = h)) := by
  refine AMet.of (by decide) (Nat.le_of_ble_eq_true rfl) (fun G hM => ?_)
  have hG := hM.cx
  refine A_hm0 (G := G) (L := [(0, .ref 7), (1, vI c), (2, vI a)]) ?_
  refine A_iconst (n := 0) hG dX2_cameSince_0 ?_
  refine A_iload_n hG 2 dX2_cameSince_1 rfl rfl ?_
  refine A_mmax hG (x := 0) (y := a) dX2_cameSince_2 lw_X2_19 (by constructor <;> omega) (by constructor <;> omega) (by decide) (by decide) (Nat.le_of_ble_eq_true rfl) (fun z2 hz2 => ?_)
  refine A_istore_n (L' := [(3, vI z2), (0, .ref 7), (1, vI c), (2, vI a)]) hG dX2_cameSince_5 rfl (by decide) rfl ?_
  have a_0 : ∀ fu : Nat, ∀ (j : Int), (a ≤ j ∧ 0 ≤ j ∧ j ≤ 60) → (∀ i : Int, 0 ≤ i → i < j → a ≤ i → h.1 8 i ≠ c) → ((61 - j).toNat) < fu → G 6 [(0, .ref 7), (1, vI c), (2, vI a), (3, vI j)] [] (hm h [] [] []) := by
    intro fu
    induction fu with
    | zero => intro j hj hx hfu; exact absurd hfu (Nat.not_lt_zero _)
    | succ fu ih_a =>
      intro j hj hx hfu
      refine A_iload_n hG 3 dX2_cameSince_6 rfl rfl ?_
      refine A_aload_n hG 0 dX2_cameSince_7 rfl rfl ?_
      refine M_getI (z := 1) (v := h.1 7 1) hG dX2_cameSince_8 fl_X2_15 (by decide) k7 rfl rfl rfl (fun ⟨ra_8, rb_8⟩ => ?_)
      refine A_icmp_ge hG 32 dX2_cameSince_11 (by decide) (by constructor <;> omega) (by constructor <;> omega) (fun c_11 => ?_) (fun c_11 => ?_)
      ·
        refine A_iconst (n := 0) hG dX2_cameSince_32 ?_
        exact Ret_z hM dX2_cameSince_33 (by omega) (⟨(cmE_no (fun i i0 i1 i2 => hx i i0 (by omega) i2)).symm, rfl⟩)
      ·
        refine A_aload_n hG 0 dX2_cameSince_14 rfl rfl ?_
        refine A_getR (r := 8) hG dX2_cameSince_15 fl_X2_9 (by decide) k7 (by decide) rfl ?_
        refine A_iload_n hG 3 dX2_cameSince_18 rfl rfl ?_
        refine M_iald (v := h.1 8 j) hG dX2_cameSince_19 k8 n8 (by omega) rfl (fun ⟨ra_19, rb_19⟩ => ?_)
        refine A_iload_n hG 1 dX2_cameSince_20 rfl rfl ?_
        refine A_icmp_ne hG 26 dX2_cameSince_21 (by decide) (by constructor <;> omega) (by constructor <;> omega) (fun c_21 => ?_) (fun c_21 => ?_)
        ·
          refine A_iinc (L' := [(3, vI (j + 1)), (0, .ref 7), (1, vI c), (2, vI a)]) hG 3 dX2_cameSince_26 rfl (by decide) rfl ?_
          refine A_goto hG 6 dX2_cameSince_29 (by decide) ?_
          refine A_sub hG [1, 2, 3, 0] rfl ?_
          exact ih_a (j + 1) (by omega) (fun i i0 i1 i2 => by
              by_cases hq : i = j
              · rw [hq]; exact c_21
              · exact hx i i0 (by omega) i2) (by omega)
        ·
          refine A_iconst (n := 1) hG dX2_cameSince_24 ?_
          exact Ret_z hM dX2_cameSince_25 (by omega) (⟨(cmE_yes (i := j) (by omega) (by omega) (by omega) c_21).symm, rfl⟩)
  refine A_sub hG [1, 2, 3, 0] rfl ?_
  exact a_0 _ z2 (by omega) (fun i i0 i1 i2 => by omega) (Nat.lt_succ_self _)

set_option maxHeartbeats 2000000 in
set_option maxRecDepth 20000 in
theorem x_isWronged (h : AH) {k : Nat} (hk : 80 ≤ k ∧ k < 92) {a b : Int} (ha : h.1 k 0 = a ∧ (a = 0 ∨ a = 1)) (hb : h.1 k 1 = b ∧ (b = 0 ∨ b = 1)) : AMet yX3_isWronged cX3_isWronged 1 (some .boolean) 0 0 [.ref k] h (Qi (fun z h' => ((z = 1 ∧ a = 1 ∧ b = 0) ∨ (z = 0 ∧ ¬ (a = 1 ∧ b = 0))) ∧ h' = h)) := by
  refine AMet.of (by decide) (Nat.le_of_ble_eq_true rfl) (fun G hM => ?_)
  have hG := hM.cx
  refine A_hm0 (G := G) (L := [(0, .ref k)]) ?_
  refine A_aload_n hG 0 dX3_isWronged_0 rfl rfl ?_
  refine M_getI (z := 0) (v := a) hG dX3_isWronged_1 fl_X3_9 (by decide) (obk_kept hk) rfl rfl ha.1 (fun ⟨ra_1, rb_1⟩ => ?_)
  refine A_if_eq hG 18 dX3_isWronged_4 (by decide) (by constructor <;> omega) (fun c_4 => ?_) (fun c_4 => ?_)
  ·
    refine A_iconst (n := 0) hG dX3_isWronged_18 ?_
    exact Ret_z hM dX3_isWronged_19 (by omega) (⟨by omega, rfl⟩)
  ·
    refine A_aload_n hG 0 dX3_isWronged_7 rfl rfl ?_
    refine M_getI (z := 1) (v := b) hG dX3_isWronged_8 fl_X3_15 (by decide) (obk_kept hk) rfl rfl hb.1 (fun ⟨ra_8, rb_8⟩ => ?_)
    refine A_if_ne hG 18 dX3_isWronged_11 (by decide) (by constructor <;> omega) (fun c_11 => ?_) (fun c_11 => ?_)
    ·
      refine A_iconst (n := 0) hG dX3_isWronged_18 ?_
      exact Ret_z hM dX3_isWronged_19 (by omega) (⟨by omega, rfl⟩)
    ·
      refine A_iconst (n := 1) hG dX3_isWronged_14 ?_
      refine A_goto hG 19 dX3_isWronged_15 (by decide) ?_
      exact Ret_z hM dX3_isWronged_19 (by omega) (⟨by omega, rfl⟩)

set_option maxHeartbeats 2000000 in
set_option maxRecDepth 20000 in
theorem x_isChangedUnread (h : AH) {k : Nat} (hk : 80 ≤ k ∧ k < 92) {a b : Int} (ha : h.1 k 0 = a ∧ (a = 0 ∨ a = 1)) (hb : h.1 k 1 = b ∧ (b = 0 ∨ b = 1)) : AMet yX3_isChangedUnread cX3_isChangedUnread 1 (some .boolean) 0 0 [.ref k] h (Qi (fun z h' => ((z = 1 ∧ a = 0 ∧ b = 0) ∨ (z = 0 ∧ ¬ (a = 0 ∧ b = 0))) ∧ h' = h)) := by
  refine AMet.of (by decide) (Nat.le_of_ble_eq_true rfl) (fun G hM => ?_)
  have hG := hM.cx
  refine A_hm0 (G := G) (L := [(0, .ref k)]) ?_
  refine A_aload_n hG 0 dX3_isChangedUnread_0 rfl rfl ?_
  refine M_getI (z := 0) (v := a) hG dX3_isChangedUnread_1 fl_X3_9 (by decide) (obk_kept hk) rfl rfl ha.1 (fun ⟨ra_1, rb_1⟩ => ?_)
  refine A_if_ne hG 18 dX3_isChangedUnread_4 (by decide) (by constructor <;> omega) (fun c_4 => ?_) (fun c_4 => ?_)
  ·
    refine A_iconst (n := 0) hG dX3_isChangedUnread_18 ?_
    exact Ret_z hM dX3_isChangedUnread_19 (by omega) (⟨by omega, rfl⟩)
  ·
    refine A_aload_n hG 0 dX3_isChangedUnread_7 rfl rfl ?_
    refine M_getI (z := 1) (v := b) hG dX3_isChangedUnread_8 fl_X3_15 (by decide) (obk_kept hk) rfl rfl hb.1 (fun ⟨ra_8, rb_8⟩ => ?_)
    refine A_if_ne hG 18 dX3_isChangedUnread_11 (by decide) (by constructor <;> omega) (fun c_11 => ?_) (fun c_11 => ?_)
    ·
      refine A_iconst (n := 0) hG dX3_isChangedUnread_18 ?_
      exact Ret_z hM dX3_isChangedUnread_19 (by omega) (⟨by omega, rfl⟩)
    ·
      refine A_iconst (n := 1) hG dX3_isChangedUnread_14 ?_
      refine A_goto hG 19 dX3_isChangedUnread_15 (by decide) ?_
      exact Ret_z hM dX3_isChangedUnread_19 (by omega) (⟨by omega, rfl⟩)

end
