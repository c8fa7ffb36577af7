/-! the class's face: grammars, sentences, hand (printed by gen) -/
section
/-! THE CLASS'S STATE -/
def lenX (h : AH) (s : Int) : Int := h.1 (100 + s.toNat) 1
def qdX (h : AH) (s : Int) : Int := h.1 (100 + s.toNat) 2
def rwX (h : AH) (s : Int) : Int → Int := clip (lenX h s) (h.1 (100 + s.toNat + 200))
def sRf (h : AH) : Prop := ∀ s : Int, 0 ≤ s → s < 8 → h.2.2 5 s = 100 + s.toNat
def kRf (h : AH) : Prop := ∀ k : Int, 0 ≤ k → k < 12 → h.2.2 6 k = 80 + k.toNat
def cndX (h : AH) (g : Gm) (s : Int) : Int → Prop := cnd g (rwX h s) (lenX h s) (hasb (qdX h s)) (fun _ _ _ => True)
def mHas (h : AH) (g : Gm) (C : Int → Prop) : Prop := ∃ many ms, topk C many ms ∧ mX h g many ms
/-- the mends that are held are those of their sentence -/
def cch (h : AH) (g : Gm) : Prop := ∀ s : Int, 0 ≤ s → s < 8 → h.1 1 13 = s → mHas h g (cndX h g s)
def v13 (h : AH) : Prop := ∀ i, 0 ≤ i → i < 3240 → 0 ≤ h.1 13 i ∧ h.1 13 i ≤ 100
/-- what lies beside the state proper -/
def sd (h : AH) (g : Gm) : Prop := sRf h ∧ kRf h ∧ mPer (h.2.2 61) ∧ tRf h ∧ v13 h ∧ cch h g
def kB (h : AH) (k : Int) : Prop := (h.1 (80 + k.toNat) 0 = 0 ∨ h.1 (80 + k.toNat) 0 = 1) ∧ (h.1 (80 + k.toNat) 1 = 0 ∨ h.1 (80 + k.toNat) 1 = 1)
def CI (h : AH) (gn : Nat) (g : Gm) : Prop := (gn = 20 ∨ gn = 40) ∧ (h.2.2 1 1 = gn ∧ h.2.2 1 2 = 60 - gn) ∧ gX h gn = g ∧ okG g ∧ (0 ≤ h.1 2 1 ∧ h.1 2 1 ≤ 400) ∧ (0 ≤ h.1 7 1 ∧ h.1 7 1 ≤ 60) ∧ (0 ≤ h.1 1 5 ∧ h.1 1 5 ≤ 12) ∧ (∀ s, 0 ≤ s → s < 8 → okW g (rwX h s) (lenX h s)) ∧ (∀ k, 0 ≤ k → k < h.1 1 5 → kB h k) ∧ sd h g
/-- what a question leaves as it is -/
def frC (h h' : AH) : Prop := (∀ k : Nat, (k = 2 ∨ k = 3 ∨ k = 7 ∨ k = 8 ∨ 500 ≤ k ∨ (20 ≤ k ∧ k ≤ 50) ∨ (80 ≤ k ∧ k < 108) ∨ (300 ≤ k ∧ k < 308)) → h'.1 k = h.1 k) ∧ (∀ q : Int, q ≠ 13 → h'.1 1 q = h.1 1 q) ∧ (∀ k : Nat, 500 ≤ k → h'.2.1 k = h.2.1 k) ∧ ∀ k : Nat, k ≠ 61 → h'.2.2 k = h.2.2 k
theorem frC_rf (h : AH) : frC h h := ⟨fun _ _ => rfl, fun _ _ => rfl, fun _ _ => rfl, fun _ _ => rfl⟩
theorem frC_tr {h h' h'' : AH} (a : frC h h') (b : frC h' h'') : frC h h'' := ⟨fun k k1 => (b.1 k k1).trans (a.1 k k1), fun q hq => (b.2.1 q hq).trans (a.2.1 q hq), fun k k1 => (b.2.2.1 k k1).trans (a.2.2.1 k k1), fun k k1 => (b.2.2.2 k k1).trans (a.2.2.2 k k1)⟩
theorem frM_C {h h' : AH} (a : frM h h') : frC h h' := ⟨fun k k1 => a.1 k (by omega) (by omega) (by omega) (by omega) (by omega), fun q _ => by rw [a.1 1 (by omega) (by omega) (by omega) (by omega) (by omega)], fun k k1 => a.2.1 k (by omega) (by omega), a.2.2⟩
theorem rowX_s {h : AH} {s : Int} : rowX h (100 + s.toNat) (lenX h s) (rwX h s) := ⟨rfl, fun i i0 i1 => (clip_in ⟨i0, i1⟩).symm⟩
theorem frC_s {h h' : AH} (a : frC h h') {s : Int} (hs : 0 ≤ s ∧ s < 8) : lenX h' s = lenX h s ∧ qdX h' s = qdX h s ∧ rwX h' s = rwX h s := by
  have e1 := a.1 (100 + s.toNat) (by omega)
  have e2 := a.1 (100 + s.toNat + 200) (by omega)
  unfold rwX lenX qdX
  rw [e1, e2]
  exact ⟨rfl, rfl, rfl⟩
theorem cndX_eq {h h' : AH} {g : Gm} (a : frC h h') {s : Int} (hs : 0 ≤ s ∧ s < 8) : cndX h' g s = cndX h g s := by
  obtain ⟨e1, e2, e3⟩ := frC_s a hs
  unfold cndX
  rw [e1, e2, e3]
/-- mends that are told anew for their rows -/
theorem mHas_eq {h h' : AH} {g : Gm} {C : Int → Prop} (e60 : h'.1 60 2 = h.1 60 2) (e61 : h'.2.2 61 = h.2.2 61) (e62 : h'.1 62 = h.1 62) (er : ∀ k : Nat, 108 ≤ k → k < 148 → h'.1 k = h.1 k ∧ h'.1 (k + 200) = h.1 (k + 200)) (q : mHas h g C) : mHas h' g C := by
  obtain ⟨many, ms, a, b⟩ := q
  exact ⟨many, ms, a, mX_eq a.1.2 e60 e61 e62 er b⟩
/-- the side is as it was -/
theorem sd_eq {h h' : AH} {g : Gm} (a : frC h h') (hM : h'.1 1 13 = h.1 1 13 ∨ h'.1 1 13 = -1) (e60 : h'.1 60 2 = h.1 60 2) (e61 : h'.2.2 61 = h.2.2 61) (e62 : h'.1 62 = h.1 62) (er : ∀ k : Nat, 108 ≤ k → k < 148 → h'.1 k = h.1 k ∧ h'.1 (k + 200) = h.1 (k + 200)) (hv : v13 h') (q : sd h g) : sd h' g := by
  obtain ⟨q1, q2, q3, q4, q5, q6⟩ := q
  refine ⟨fun s s0 s1 => ?_, fun k k0 k1 => ?_, by rw [e61]; exact q3, fun l l0 l1 => ?_, hv, fun s s0 s1 hs => ?_⟩
  · rw [a.2.2.2 5 (by omega)]; exact q1 s s0 s1
  · rw [a.2.2.2 6 (by omega)]; exact q2 k k0 k1
  · rw [a.2.2.2 63 (by omega)]; exact q4 l l0 l1
  · have h13 : h.1 1 13 = s := by omega
    rw [cndX_eq a ⟨s0, s1⟩]
    exact mHas_eq e60 e61 e62 er (q6 s s0 s1 h13)
set_option maxHeartbeats 2000000 in
set_option maxRecDepth 20000 in
theorem x_wipe (h : AH) : AMet yX11_wipe cX11_wipe 2 (some .int) 0 0 [.ref 1] h (Qi (fun z h' => z = h.1 2 1 ∧ h' = hm h [(2, up (h.1 2) 1 0)] [] [])) := by
  refine AMet.of (by decide) (Nat.le_of_ble_eq_true rfl) (fun G hM => ?_)
  have hG := hM.cx
  refine A_hm0 (G := G) (L := [(0, .ref 1)]) ?_
  refine A_aload_n hG 0 dX11_wipe_0 rfl rfl ?_
  refine A_getR (r := 2) hG dX11_wipe_1 fl_X11_12 (by decide) k1 (by decide) rfl ?_
  refine M_getI (z := 1) (v := h.1 2 1) hG dX11_wipe_4 fl_X11_97 (by decide) k2 rfl rfl rfl (fun ⟨ra_4, rb_4⟩ => ?_)
  refine A_istore_n (L' := [(1, vI (h.1 2 1)), (0, .ref 1)]) hG dX11_wipe_7 rfl (by decide) rfl ?_
  refine A_aload_n hG 1 dX11_wipe_8 rfl rfl ?_
  refine A_getR (r := 2) hG dX11_wipe_9 fl_X11_12 (by decide) k1 (by decide) rfl ?_
  refine A_iconst (n := 0) hG dX11_wipe_12 ?_
  refine M_putI (z := 1) (li' := [(2, up (h.1 2) 1 0)]) hG dX11_wipe_13 fl_X11_97 (by decide) k2 nf_8_1 rfl rfl (by constructor <;> omega) (Or.inl rfl) rfl ?_
  refine A_iload_n hG 0 dX11_wipe_16 rfl rfl ?_
  exact Ret_i hM dX11_wipe_17 (by constructor <;> omega) (⟨rfl, rfl⟩)

theorem byte_eq (v : Int64) {k : Int} (hk : 0 ≤ k ∧ k < 8) : iand (l2i (lushr v (8 * k))) 255 = byteV v k := by
  refine hasb_ext (irT _) (irT _) (fun i i0 i1 => ?_)
  unfold byteV
  rw [hasb_and ⟨i0, i1⟩, l2i_hasb _ ⟨i0, i1⟩, l2i_hasb _ ⟨i0, i1⟩, bitL_and]
  have e1 : bitL (i2l 255) i ↔ hasb 255 i := by
    rw [hasb_bv ⟨i0, i1⟩]
    unfold bitL
    rw [show (i2l 255).toBitVec = 255#64 by decide, show (Int32.ofInt 255).toBitVec = 255#32 by decide, BitVec.getLsbD_ofNat, BitVec.getLsbD_ofNat]
    have a1 : i.toNat < 32 := by omega
    have a2 : i.toNat < 64 := by omega
    simp [a1, a2]
  rw [e1]
  refine and_congr_left (fun h8 => ?_)
  have hi8 : i < 8 := by
    have n31 : ¬ hasb 255 31 := by unfold hasb; decide
    have i31 : i < 31 := by
      rcases (show i < 31 ∨ i = 31 by omega) with q | q
      · exact q
      · subst q; exact absurd h8 n31
    rw [hasb_iff (by omega) (by omega)] at h8
    rcases Int.lt_or_le i 8 with q | q
    · exact q
    · exfalso
      have : (255 : Int).toNat.testBit i.toNat = false := Nat.testBit_lt_two_pow (Nat.lt_of_lt_of_le (by decide : (255 : Int).toNat < 2 ^ 8) (Nat.pow_le_pow_right (by omega) (by omega)))
      rw [this] at h8
      exact absurd h8 (by decide)
  unfold bitL
  rw [lushr_bv v (by omega), lshr_bv v (by omega), BitVec.getLsbD_ushiftRight, BitVec.getLsbD_sshiftRight]
  have a1 : ¬ 64 ≤ i.toNat := by omega
  have a2 : (8 * k).toNat + i.toNat < 64 := by omega
  simp [a1, a2]
set_option maxHeartbeats 2000000 in
set_option maxRecDepth 20000 in
theorem x_write (h : AH) {n : Int} (v : Int64) (hn : ir n) (hlen : 0 ≤ h.1 2 1 ∧ h.1 2 1 ≤ 400) : AMet yX11_write cX11_write 5 (some .int) 1 22 [.ref 1, vI n, .long v] h (Qi (fun z h' => ((z = -1 ∧ (n < 1 ∨ 8 < n)) ∧ h' = h) ∨ ((z = -3 ∧ (1 ≤ n ∧ n ≤ 8) ∧ 400 < h.1 2 1 + n) ∧ h' = h) ∨ (∃ e f : Int → Int, (((1 ≤ n ∧ n ≤ 8) ∧ h.1 2 1 + n ≤ 400 ∧ z = h.1 2 1 + n) ∧ (∀ p, f p = if h.1 2 1 ≤ p ∧ p < h.1 2 1 + n then byteV v (n - 1 - (p - h.1 2 1)) else h.1 3 p) ∧ e 1 = h.1 2 1 + n) ∧ h' = hm h [(2, e), (3, f)] [] []))) := by
  obtain ⟨hn1, hn2⟩ := hn
  refine AMet.of (by decide) (Nat.le_of_ble_eq_true rfl) (fun G hM => ?_)
  have hG := hM.cx
  refine A_hm0 (G := G) (L := [(0, .ref 1), (1, vI n), (2, .long v)]) ?_
  refine A_iload_n hG 1 dX11_write_0 rfl rfl ?_
  refine A_iconst (n := 1) hG dX11_write_1 ?_
  refine A_bipush (n := 8) hG dX11_write_2 (by decide) ?_
  refine C_Si (as := [vI n, vI 1, vI 8]) (st := []) hG dX11_write_4 ml_X11_93 mf_X11_isWithin ms_X11_isWithin (x_isWithin (hm h [] [] []) (by constructor <;> omega) (by constructor <;> omega) (by constructor <;> omega)) (by decide) (by decide) rfl rfl (Nat.le_of_ble_eq_true rfl) (fun z4 g4 ri_4 hp_4 => ?_)
  obtain ⟨ra_4, rb_4⟩ := ri_4
  obtain ⟨hz4, rfl⟩ := hp_4
  refine A_if_ne hG 12 dX11_write_7 (by decide) (by constructor <;> omega) (fun c_7 => ?_) (fun c_7 => ?_)
  ·
    refine A_aload_n hG 0 dX11_write_12 rfl rfl ?_
    refine A_getR (r := 2) hG dX11_write_13 fl_X11_12 (by decide) k1 (by decide) rfl ?_
    refine M_getI (z := 1) (v := h.1 2 1) hG dX11_write_16 fl_X11_97 (by decide) k2 rfl rfl rfl (fun ⟨ra_16, rb_16⟩ => ?_)
    refine A_iload_n hG 1 dX11_write_19 rfl rfl ?_
    refine A_iadd hG dX11_write_20 ?_
    refine A_sipush (n := 400) hG dX11_write_21 (by decide) ?_
    refine A_icmp_le hG 30 dX11_write_24 (by decide) (by constructor <;> omega) (by constructor <;> omega) (fun c_24 => ?_) (fun c_24 => ?_)
    ·
      refine A_iload_n hG 1 dX11_write_30 rfl rfl ?_
      refine A_iconst (n := 1) hG dX11_write_31 ?_
      refine A_isub hG dX11_write_32 ?_
      refine A_istore (L' := [(4, vI (n - 1)), (0, .ref 1), (1, vI n), (2, .long v)]) hG dX11_write_33 (by decide) rfl ?_
      refine A_insI 2 (li' := [(2, h.1 2)]) rfl ?_
      refine A_insI 3 (li' := [(2, h.1 2), (3, h.1 3)]) rfl ?_
      have k_1 : ∀ fu : Nat, ∀ (k : Int) (e : Int → Int) (f : Int → Int), (-1 ≤ k ∧ k < n) → (e 1 = h.1 2 1 + (n - 1 - k)) → (∀ p, f p = if h.1 2 1 ≤ p ∧ p < h.1 2 1 + (n - 1 - k) then byteV v (n - 1 - (p - h.1 2 1)) else h.1 3 p) → ((k + 1).toNat) < fu → G 35 [(0, .ref 1), (1, vI n), (2, .long v), (4, vI k)] [] (hm h [(2, e), (3, f)] [] []) := by
        intro fu
        induction fu with
        | zero => intro k e f hk he hf hfu; exact absurd hfu (Nat.not_lt_zero _)
        | succ fu ih_k =>
          intro k e f hk he hf hfu
          refine A_iload hG 3 dX11_write_35 rfl ?_
          refine A_if_lt hG 65 dX11_write_37 (by decide) (by constructor <;> omega) (fun c_37 => ?_) (fun c_37 => ?_)
          ·
            refine A_aload_n hG 0 dX11_write_65 rfl rfl ?_
            refine A_getR (r := 2) hG dX11_write_66 fl_X11_12 (by decide) k1 (by decide) rfl ?_
            refine M_getI (z := 1) (v := e 1) hG dX11_write_69 fl_X11_97 (by decide) k2 rfl rfl rfl (fun ⟨ra_69, rb_69⟩ => ?_)
            exact Ret_i hM dX11_write_72 (by constructor <;> omega) (Or.inr (Or.inr ⟨e, f, ⟨⟨by omega, by omega, by omega⟩, fun p => by rw [hf p, show k = -1 by omega, show n - 1 - (-1) = n by omega], by omega⟩, rfl⟩))
          ·
            refine A_aload_n hG 0 dX11_write_40 rfl rfl ?_
            refine A_getR (r := 2) hG dX11_write_41 fl_X11_12 (by decide) k1 (by decide) rfl ?_
            refine A_lload_n hG 2 dX11_write_44 rfl rfl ?_
            refine A_bipush (n := 8) hG dX11_write_45 (by decide) ?_
            refine A_iload hG 3 dX11_write_47 rfl ?_
            refine A_imul hG dX11_write_49 ?_
            refine A_lushr hG dX11_write_50 ?_
            refine A_l2i hG dX11_write_51 ?_
            refine A_sipush (n := 255) hG dX11_write_52 (by decide) ?_
            refine A_iand hG dX11_write_55 ?_
            refine C_Vv (as := [vI (iand (l2i (lushr v (8 * k))) 255)]) (st := []) (k := 2) (c := 8) hG dX11_write_56 ml_X11_100 mf_X9_append mi_X9_append se_X9_append rfl (by decide) k2 (x_textAppend (hm h [(2, e), (3, f)] [] []) (v := (iand (l2i (lushr v (8 * k))) 255)) (e := e) (f := f) rfl rfl (irT _) (by omega)) (by decide) (by decide) rfl rfl (Nat.le_of_ble_eq_true rfl) (fun g56 hp_56 => ?_)
            subst hp_56
            refine A_hm (la := [(2, up e 1 (e 1 + 1)), (3, up f (e 1) (iand (l2i (lushr v (8 * k))) 255))]) (lb := []) (lc := []) rfl rfl rfl ?_
            refine A_iinc (L' := [(4, vI (k + (-1))), (0, .ref 1), (1, vI n), (2, .long v)]) hG 3 dX11_write_59 rfl (by decide) rfl ?_
            refine A_goto hG 35 dX11_write_62 (by decide) ?_
            refine A_sub hG [1, 2, 3, 0] rfl ?_
            exact ih_k (k + (-1)) (up e 1 (e 1 + 1)) (up f (e 1) (iand (l2i (lushr v (8 * k))) 255)) (by omega) (by rw [up_eq]; omega) (fun p => by
                by_cases q : p = e 1
                · rw [q, up_eq, if_pos (by omega), byte_eq v (by omega)]; exact congrArg _ (by omega)
                · rw [up_ne _ _ q, hf p]
                  by_cases q2 : h.1 2 1 ≤ p ∧ p < h.1 2 1 + (n - 1 - k)
                  · rw [if_pos q2, if_pos (by omega)]
                  · rw [if_neg q2, if_neg (by omega)]) (by omega)
      refine A_sub hG [1, 2, 3, 0] rfl ?_
      exact k_1 _ (n - 1) (h.1 2) (h.1 3) (by omega) (by omega) (fun p => by rw [if_neg (by omega)]) (Nat.lt_succ_self _)
    ·
      refine A_bipush (n := -3) hG dX11_write_27 (by decide) ?_
      exact Ret_i hM dX11_write_29 (by constructor <;> omega) (Or.inr (Or.inl ⟨⟨rfl, by omega, by omega⟩, rfl⟩))
  ·
    refine A_iconst (n := -1) hG dX11_write_10 ?_
    exact Ret_i hM dX11_write_11 (by constructor <;> omega) (Or.inl ⟨⟨rfl, by omega⟩, rfl⟩)

set_option maxHeartbeats 2000000 in
set_option maxRecDepth 20000 in
theorem x_priceOf (h : AH) {gn : Nat} (hg : gn = 20 ∨ gn = 40) {g : Gm} (hgx : gX h gn = g) (hLd : h.2.2 1 1 = gn) {c f : Int} (hc : 0 ≤ c ∧ c ≤ 4) (hf : f = 0 ∨ f = 1) (hn : 0 ≤ h.1 7 1 ∧ h.1 7 1 ≤ 60) : AMet yX11_priceOf cX11_priceOf 3 (some .int) 1 23 [.ref 1, vI c, vI f] h (Qi (fun z h' => z = fitP (h.1 7 1) (g 9) (h.1 8) c f ∧ h' = h)) := by
  refine AMet.of (by decide) (Nat.le_of_ble_eq_true rfl) (fun G hM => ?_)
  have hG := hM.cx
  refine A_hm0 (G := G) (L := [(0, .ref 1), (1, vI c), (2, vI f)]) ?_
  refine A_iload_n hG 2 dX11_priceOf_0 rfl rfl ?_
  refine A_if_eq hG 25 dX11_priceOf_1 (by decide) (by constructor <;> omega) (fun c_1 => ?_) (fun c_1 => ?_)
  ·
    refine A_aload_n hG 0 dX11_priceOf_25 rfl rfl ?_
    refine A_getR (r := gn) hG dX11_priceOf_26 fl_X11_19 (by decide) k1 (by decide) hLd ?_
    refine A_getR (r := (gn + 10)) hG dX11_priceOf_29 fl_X11_237 (by decide) (kg0 hg) (by decide) rfl ?_
    refine A_iload_n hG 1 dX11_priceOf_32 rfl rfl ?_
    refine M_iald (v := (g 9 c)) hG dX11_priceOf_33 (kg10 hg) (ng10 hg) (by omega) (gx_p hgx (by omega)) (fun ⟨ra_33, rb_33⟩ => ?_)
    exact Ret_i hM dX11_priceOf_34 (by constructor <;> omega) (⟨by unfold fitP; rw [if_neg (by omega)], rfl⟩)
  ·
    refine A_aload_n hG 0 dX11_priceOf_4 rfl rfl ?_
    refine A_getR (r := 7) hG dX11_priceOf_5 fl_X11_45 (by decide) k1 (by decide) rfl ?_
    refine M_getI (z := 1) (v := h.1 7 1) hG dX11_priceOf_8 fl_X11_111 (by decide) k7 rfl rfl rfl (fun ⟨ra_8, rb_8⟩ => ?_)
    refine A_if_le hG 25 dX11_priceOf_11 (by decide) (by constructor <;> omega) (fun c_11 => ?_) (fun c_11 => ?_)
    ·
      refine A_aload_n hG 0 dX11_priceOf_25 rfl rfl ?_
      refine A_getR (r := gn) hG dX11_priceOf_26 fl_X11_19 (by decide) k1 (by decide) hLd ?_
      refine A_getR (r := (gn + 10)) hG dX11_priceOf_29 fl_X11_237 (by decide) (kg0 hg) (by decide) rfl ?_
      refine A_iload_n hG 1 dX11_priceOf_32 rfl rfl ?_
      refine M_iald (v := (g 9 c)) hG dX11_priceOf_33 (kg10 hg) (ng10 hg) (by omega) (gx_p hgx (by omega)) (fun ⟨ra_33, rb_33⟩ => ?_)
      exact Ret_i hM dX11_priceOf_34 (by constructor <;> omega) (⟨by unfold fitP; rw [if_neg (by omega)], rfl⟩)
    ·
      refine A_aload_n hG 0 dX11_priceOf_14 rfl rfl ?_
      refine A_getR (r := 7) hG dX11_priceOf_15 fl_X11_45 (by decide) k1 (by decide) rfl ?_
      refine A_iload_n hG 1 dX11_priceOf_18 rfl rfl ?_
      refine C_Vi (as := [vI c]) (st := []) (k := 7) (c := 2) hG dX11_priceOf_19 ml_X11_233 mf_X2_fittedPrice mi_X2_fittedPrice se_X2_fittedPrice rfl (by decide) k7 (x_fittedPrice (hm h [] [] []) (c := c) (by omega) (show 0 < h.1 7 1 ∧ h.1 7 1 ≤ 60 by omega)) (by decide) (by decide) rfl rfl (Nat.le_of_ble_eq_true rfl) (fun z19 g19 ri_19 hp_19 => ?_)
      obtain ⟨ra_19, rb_19⟩ := ri_19
      obtain ⟨hz19, rfl⟩ := hp_19
      refine A_goto hG 34 dX11_priceOf_22 (by decide) ?_
      exact Ret_i hM dX11_priceOf_34 (by constructor <;> omega) (⟨by unfold fitP; rw [if_pos (by omega)]; exact hz19, rfl⟩)

set_option maxHeartbeats 2000000 in
set_option maxRecDepth 20000 in
theorem x_price (h : AH) {gn : Nat} {g : Gm} (hCI : CI h gn g) {c f : Int} (hc : ir c) (hf : f = 0 ∨ f = 1) : AMet yX11_price cX11_price 3 (some .int) 2 45 [.ref 1, vI c, vI f] h (Qi (fun z h' => ((z = -1 ∧ (c < 0 ∨ 4 < c)) ∧ h' = h) ∨ (((0 ≤ c ∧ c ≤ 4) ∧ z = fitP (h.1 7 1) (g 9) (h.1 8) c f) ∧ h' = h))) := by
  have hCI0 := hCI
  obtain ⟨hg, ⟨hLd, hTl⟩, hgx, hOk, hL0, hE0, hK0, hWs, hKb, hS, hKr, hPer, hTf, hV13, hCc⟩ := hCI
  have hgw := hOk.1
  have hgr := hOk.2.1
  obtain ⟨hc1, hc2⟩ := hc
  refine AMet.of (by decide) (Nat.le_of_ble_eq_true rfl) (fun G hM => ?_)
  have hG := hM.cx
  refine A_hm0 (G := G) (L := [(0, .ref 1), (1, vI c), (2, vI f)]) ?_
  refine A_iload_n hG 1 dX11_price_0 rfl rfl ?_
  refine A_iconst (n := 0) hG dX11_price_1 ?_
  refine A_iconst (n := 4) hG dX11_price_2 ?_
  refine C_Si (as := [vI c, vI 0, vI 4]) (st := []) hG dX11_price_3 ml_X11_93 mf_X11_isWithin ms_X11_isWithin (x_isWithin (hm h [] [] []) (by constructor <;> omega) (by constructor <;> omega) (by constructor <;> omega)) (by decide) (by decide) rfl rfl (Nat.le_of_ble_eq_true rfl) (fun z3 g3 ri_3 hp_3 => ?_)
  obtain ⟨ra_3, rb_3⟩ := ri_3
  obtain ⟨hz3, rfl⟩ := hp_3
  refine A_if_ne hG 11 dX11_price_6 (by decide) (by constructor <;> omega) (fun c_6 => ?_) (fun c_6 => ?_)
  ·
    refine A_aload_n hG 0 dX11_price_11 rfl rfl ?_
    refine A_iload_n hG 1 dX11_price_12 rfl rfl ?_
    refine A_iload_n hG 2 dX11_price_13 rfl rfl ?_
    refine C_Vi (as := [vI c, vI f]) (st := []) (k := 1) (c := 10) hG dX11_price_14 ml_X11_115 mf_X11_priceOf mi_X11_priceOf se_X11_priceOf rfl (by decide) k1 (x_priceOf (hm h [] [] []) hg (g := g) hgx hLd (c := c) (f := f) (by omega) hf hE0) (by decide) (by decide) rfl rfl (Nat.le_of_ble_eq_true rfl) (fun z14 g14 ri_14 hp_14 => ?_)
    obtain ⟨ra_14, rb_14⟩ := ri_14
    obtain ⟨hz14, rfl⟩ := hp_14
    exact Ret_i hM dX11_price_17 (by constructor <;> omega) (Or.inr ⟨⟨by omega, hz14⟩, rfl⟩)
  ·
    refine A_iconst (n := -1) hG dX11_price_9 ?_
    exact Ret_i hM dX11_price_10 (by constructor <;> omega) (Or.inl ⟨⟨rfl, by omega⟩, rfl⟩)

set_option maxHeartbeats 2000000 in
set_option maxRecDepth 20000 in
theorem x_word (h : AH) {gn : Nat} {g : Gm} (hCI : CI h gn g) {s w : Int} (hs : ir s) (hw : ir w) : AMet yX11_word cX11_word 4 (some .int) 2 42 [.ref 1, vI s, vI w] h (Qi (fun z h' => ((z = -1 ∧ (s < 0 ∨ 7 < s ∨ w < 0 ∨ g 10 0 ≤ w)) ∧ h' = h) ∨ ((z = -3 ∧ (0 ≤ s ∧ s ≤ 7 ∧ 0 ≤ w ∧ w < g 10 0) ∧ lenX h s = 8) ∧ h' = h) ∨ (((0 ≤ s ∧ s ≤ 7 ∧ 0 ≤ w ∧ w < g 10 0) ∧ lenX h s ≠ 8 ∧ z = lenX h s + 1) ∧ h' = hm h [(100 + s.toNat, up (h.1 (100 + s.toNat)) 1 (lenX h s + 1)), (100 + s.toNat + 200, up (h.1 (100 + s.toNat + 200)) (lenX h s) w), (1, up (h.1 1) 13 (-1))] [] []))) := by
  have hCI0 := hCI
  obtain ⟨hg, ⟨hLd, hTl⟩, hgx, hOk, hL0, hE0, hK0, hWs, hKb, hS, hKr, hPer, hTf, hV13, hCc⟩ := hCI
  have hgw := hOk.1
  have hgr := hOk.2.1
  obtain ⟨hs1, hs2⟩ := hs
  obtain ⟨hw1, hw2⟩ := hw
  refine AMet.of (by decide) (Nat.le_of_ble_eq_true rfl) (fun G hM => ?_)
  have hG := hM.cx
  refine A_hm0 (G := G) (L := [(0, .ref 1), (1, vI s), (2, vI w)]) ?_
  refine A_iload_n hG 1 dX11_word_0 rfl rfl ?_
  refine C_Si (as := [vI s]) (st := []) hG dX11_word_1 ml_X11_119 mf_X11_isSentence ms_X11_isSentence (x_isSentence (hm h [] [] []) (by constructor <;> omega)) (by decide) (by decide) rfl rfl (Nat.le_of_ble_eq_true rfl) (fun z1 g1 ri_1 hp_1 => ?_)
  obtain ⟨ra_1, rb_1⟩ := ri_1
  obtain ⟨hz1, rfl⟩ := hp_1
  refine A_if_eq hG 24 dX11_word_4 (by decide) (by constructor <;> omega) (fun c_4 => ?_) (fun c_4 => ?_)
  ·
    refine A_iconst (n := -1) hG dX11_word_24 ?_
    exact Ret_i hM dX11_word_25 (by constructor <;> omega) (Or.inl ⟨⟨rfl, by omega⟩, rfl⟩)
  ·
    refine A_iload_n hG 2 dX11_word_7 rfl rfl ?_
    refine A_iconst (n := 0) hG dX11_word_8 ?_
    refine A_aload_n hG 0 dX11_word_9 rfl rfl ?_
    refine A_getR (r := gn) hG dX11_word_10 fl_X11_19 (by decide) k1 (by decide) hLd ?_
    refine M_getI (z := 4) (v := g 10 0) hG dX11_word_13 fl_X11_112 (by decide) (kg0 hg) rfl rfl ((gx_n hgx).1) (fun ⟨ra_13, rb_13⟩ => ?_)
    refine A_iconst (n := 1) hG dX11_word_16 ?_
    refine A_isub hG dX11_word_17 ?_
    refine C_Si (as := [vI w, vI 0, vI ((g 10 0) - 1)]) (st := []) hG dX11_word_18 ml_X11_93 mf_X11_isWithin ms_X11_isWithin (x_isWithin (hm h [] [] []) (by constructor <;> omega) (by constructor <;> omega) (by constructor <;> omega)) (by decide) (by decide) rfl rfl (Nat.le_of_ble_eq_true rfl) (fun z18 g18 ri_18 hp_18 => ?_)
    obtain ⟨ra_18, rb_18⟩ := ri_18
    obtain ⟨hz18, rfl⟩ := hp_18
    refine A_if_ne hG 26 dX11_word_21 (by decide) (by constructor <;> omega) (fun c_21 => ?_) (fun c_21 => ?_)
    ·
      obtain ⟨r, hre⟩ : ∃ r : Nat, r = 100 + (s).toNat := ⟨_, rfl⟩
      have hr0 : 100 ≤ r ∧ r < 108 := by omega
      have hr : 100 ≤ r ∧ r < 212 := by omega
      have hwr : rowX h r (lenX h s) (rwX h s) := by rw [hre]; exact rowX_s
      have hqr : h.1 r 2 = qdX h s := by rw [hre]; rfl
      have hW := hWs s (by omega) (by omega)
      have hn8 := hW.1
      refine A_aload_n hG 0 dX11_word_26 rfl rfl ?_
      refine A_getR (r := 5) hG dX11_word_27 fl_X11_28 (by decide) k1 (by decide) rfl ?_
      refine A_iload_n hG 1 dX11_word_30 rfl rfl ?_
      refine M_aald (r := r) hG dX11_word_31 (Or.inl k5) n5 (by omega) ((hS s (by omega) (by omega)).trans hre.symm) ?_
      refine A_astore_n (L' := [(3, .ref r), (0, .ref 1), (1, vI s), (2, vI w)]) hG dX11_word_32 rfl (by decide) rfl ?_
      refine A_aload_n hG 0 dX11_word_33 rfl rfl ?_
      refine M_getI (z := 1) (v := (lenX h s)) hG dX11_word_34 fl_X11_123 (by decide) (obk_row hr) rfl rfl hwr.1 (fun ⟨ra_34, rb_34⟩ => ?_)
      refine A_bipush (n := 8) hG dX11_word_37 (by decide) ?_
      refine A_icmp_lt hG 45 dX11_word_39 (by decide) (by constructor <;> omega) (by constructor <;> omega) (fun c_39 => ?_) (fun c_39 => ?_)
      ·
        refine A_aload_n hG 0 dX11_word_45 rfl rfl ?_
        refine A_iload_n hG 3 dX11_word_46 rfl rfl ?_
        have hrn : h.1 r 1 = lenX h s := hwr.1
        refine C_Vv (as := [vI w]) (st := []) (k := r) (c := 7) hG dX11_word_47 ml_X11_124 mf_X7_append mi_X7_append se_X7_append rfl (by decide) (obk_row hr) (x_append (hm h [] [] []) hr (v := w) (e := h.1 r) (f := h.1 (r + 200)) rfl rfl (by constructor <;> omega) (by omega)) (by decide) (by decide) rfl rfl (Nat.le_of_ble_eq_true rfl) (fun g47 hp_47 => ?_)
        subst hp_47
        refine A_hm (la := [(r, up (h.1 r) 1 (h.1 r 1 + 1)), (r + 200, up (h.1 (r + 200)) (h.1 r 1) w)]) (lb := []) (lc := []) (by simp (disch := omega) only [amg, aset, alk, if_neg, if_pos, ite_true]) rfl rfl ?_
        refine A_aload_n hG 1 dX11_word_50 rfl rfl ?_
        refine A_iconst (n := -1) hG dX11_word_51 ?_
        refine M_putI (z := 13) (li' := [(r, up (h.1 r) 1 (h.1 r 1 + 1)), (r + 200, up (h.1 (r + 200)) (h.1 r 1) w), (1, up (h.1 1) 13 (-1))]) hG dX11_word_52 fl_X11_88 (by decide) k1 nf_10_13 rfl rfl (by constructor <;> omega) (Or.inl rfl) (by simp (disch := omega) only [amg, aset, alk, if_neg, if_pos, ite_true]) ?_
        refine A_aload_n hG 0 dX11_word_55 rfl rfl ?_
        refine M_getI (z := 1) (v := (lenX h s + 1)) hG dX11_word_56 fl_X11_123 (by decide) (obk_row hr) rfl rfl ((congrFun (show alk [(r, up (h.1 r) 1 (h.1 r 1 + 1)), (r + 200, up (h.1 (r + 200)) (h.1 r 1) w), (1, up (h.1 1) 13 (-1))] r (h.1 r) = up (h.1 r) 1 (h.1 r 1 + 1) from (by simp (disch := omega) only [alk, if_neg, if_pos, ite_true])) 1).trans ((up_eq _ _ _).trans (by rw [hwr.1]))) (fun ⟨ra_56, rb_56⟩ => ?_)
        exact Ret_i hM dX11_word_59 (by constructor <;> omega) (Or.inr (Or.inr ⟨⟨by omega, by omega, rfl⟩, by rw [← hrn, ← hre]⟩))
      ·
        refine A_bipush (n := -3) hG dX11_word_42 (by decide) ?_
        exact Ret_i hM dX11_word_44 (by constructor <;> omega) (Or.inr (Or.inl ⟨⟨rfl, by omega, by omega⟩, rfl⟩))
    ·
      refine A_iconst (n := -1) hG dX11_word_24 ?_
      exact Ret_i hM dX11_word_25 (by constructor <;> omega) (Or.inl ⟨⟨rfl, by omega⟩, rfl⟩)

set_option maxHeartbeats 2000000 in
set_option maxRecDepth 20000 in
theorem x_clear (h : AH) {gn : Nat} {g : Gm} (hCI : CI h gn g) {s : Int} (hs : ir s) : AMet yX11_clear cX11_clear 3 (some .int) 2 42 [.ref 1, vI s] h (Qi (fun z h' => ((z = -1 ∧ (s < 0 ∨ 7 < s)) ∧ h' = h) ∨ (((0 ≤ s ∧ s ≤ 7) ∧ z = lenX h s) ∧ h' = hm h [(100 + s.toNat, up (up (h.1 (100 + s.toNat)) 1 0) 2 0), (1, up (h.1 1) 13 (-1))] [] []))) := by
  have hCI0 := hCI
  obtain ⟨hg, ⟨hLd, hTl⟩, hgx, hOk, hL0, hE0, hK0, hWs, hKb, hS, hKr, hPer, hTf, hV13, hCc⟩ := hCI
  have hgw := hOk.1
  have hgr := hOk.2.1
  obtain ⟨hs1, hs2⟩ := hs
  refine AMet.of (by decide) (Nat.le_of_ble_eq_true rfl) (fun G hM => ?_)
  have hG := hM.cx
  refine A_hm0 (G := G) (L := [(0, .ref 1), (1, vI s)]) ?_
  refine A_iload_n hG 1 dX11_clear_0 rfl rfl ?_
  refine C_Si (as := [vI s]) (st := []) hG dX11_clear_1 ml_X11_119 mf_X11_isSentence ms_X11_isSentence (x_isSentence (hm h [] [] []) (by constructor <;> omega)) (by decide) (by decide) rfl rfl (Nat.le_of_ble_eq_true rfl) (fun z1 g1 ri_1 hp_1 => ?_)
  obtain ⟨ra_1, rb_1⟩ := ri_1
  obtain ⟨hz1, rfl⟩ := hp_1
  refine A_if_ne hG 9 dX11_clear_4 (by decide) (by constructor <;> omega) (fun c_4 => ?_) (fun c_4 => ?_)
  ·
    obtain ⟨r, hre⟩ : ∃ r : Nat, r = 100 + (s).toNat := ⟨_, rfl⟩
    have hr0 : 100 ≤ r ∧ r < 108 := by omega
    have hr : 100 ≤ r ∧ r < 212 := by omega
    have hwr : rowX h r (lenX h s) (rwX h s) := by rw [hre]; exact rowX_s
    have hqr : h.1 r 2 = qdX h s := by rw [hre]; rfl
    have hW := hWs s (by omega) (by omega)
    have hn8 := hW.1
    refine A_aload_n hG 0 dX11_clear_9 rfl rfl ?_
    refine A_getR (r := 5) hG dX11_clear_10 fl_X11_28 (by decide) k1 (by decide) rfl ?_
    refine A_iload_n hG 1 dX11_clear_13 rfl rfl ?_
    refine M_aald (r := r) hG dX11_clear_14 (Or.inl k5) n5 (by omega) ((hS s (by omega) (by omega)).trans hre.symm) ?_
    refine M_getI (z := 1) (v := (lenX h s)) hG dX11_clear_15 fl_X11_123 (by decide) (obk_row hr) rfl rfl hwr.1 (fun ⟨ra_15, rb_15⟩ => ?_)
    refine A_istore_n (L' := [(2, vI (lenX h s)), (0, .ref 1), (1, vI s)]) hG dX11_clear_18 rfl (by decide) rfl ?_
    refine A_aload_n hG 1 dX11_clear_19 rfl rfl ?_
    refine A_getR (r := 5) hG dX11_clear_20 fl_X11_28 (by decide) k1 (by decide) rfl ?_
    refine A_iload_n hG 2 dX11_clear_23 rfl rfl ?_
    refine M_aald (r := r) hG dX11_clear_24 (Or.inl k5) n5 (by omega) ((hS s (by omega) (by omega)).trans hre.symm) ?_
    refine C_Vv (as := []) (st := []) (k := r) (c := 7) hG dX11_clear_25 ml_X11_108 mf_X7_restart mi_X7_restart se_X7_restart rfl (by decide) (obk_row hr) (x_rrestart (hm h [] [] []) hr) (by decide) (by decide) rfl rfl (Nat.le_of_ble_eq_true rfl) (fun g25 hp_25 => ?_)
    subst hp_25
    refine A_hm (la := [(r, up (up (h.1 r) 1 0) 2 0)]) (lb := []) (lc := []) rfl rfl rfl ?_
    refine A_aload_n hG 1 dX11_clear_28 rfl rfl ?_
    refine A_iconst (n := -1) hG dX11_clear_29 ?_
    refine M_putI (z := 13) (li' := [(r, up (up (h.1 r) 1 0) 2 0), (1, up (h.1 1) 13 (-1))]) hG dX11_clear_30 fl_X11_88 (by decide) k1 nf_10_13 rfl rfl (by constructor <;> omega) (Or.inl rfl) (by simp (disch := omega) only [amg, aset, alk, if_neg, if_pos, ite_true]) ?_
    refine A_iload_n hG 0 dX11_clear_33 rfl rfl ?_
    exact Ret_i hM dX11_clear_34 (by constructor <;> omega) (Or.inr ⟨⟨by omega, rfl⟩, by rw [← hre]⟩)
  ·
    refine A_iconst (n := -1) hG dX11_clear_7 ?_
    exact Ret_i hM dX11_clear_8 (by constructor <;> omega) (Or.inl ⟨⟨rfl, by omega⟩, rfl⟩)

set_option maxHeartbeats 2000000 in
set_option maxRecDepth 20000 in
theorem x_quote (h : AH) {gn : Nat} {g : Gm} (hCI : CI h gn g) {s p : Int} (hs : ir s) (hp : ir p) : AMet yX11_quote cX11_quote 4 (some .int) 2 42 [.ref 1, vI s, vI p] h (Qi (fun z h' => ((z = -1 ∧ (s < 0 ∨ 7 < s ∨ p < 0 ∨ 255 < p)) ∧ h' = h) ∨ (((0 ≤ s ∧ s ≤ 7 ∧ 0 ≤ p ∧ p ≤ 255) ∧ z = qdX h s) ∧ h' = hm h [(100 + s.toNat, up (h.1 (100 + s.toNat)) 2 p), (1, up (h.1 1) 13 (-1))] [] []))) := by
  have hCI0 := hCI
  obtain ⟨hg, ⟨hLd, hTl⟩, hgx, hOk, hL0, hE0, hK0, hWs, hKb, hS, hKr, hPer, hTf, hV13, hCc⟩ := hCI
  have hgw := hOk.1
  have hgr := hOk.2.1
  obtain ⟨hs1, hs2⟩ := hs
  obtain ⟨hp1, hp2⟩ := hp
  refine AMet.of (by decide) (Nat.le_of_ble_eq_true rfl) (fun G hM => ?_)
  have hG := hM.cx
  refine A_hm0 (G := G) (L := [(0, .ref 1), (1, vI s), (2, vI p)]) ?_
  refine A_iload_n hG 1 dX11_quote_0 rfl rfl ?_
  refine C_Si (as := [vI s]) (st := []) hG dX11_quote_1 ml_X11_119 mf_X11_isSentence ms_X11_isSentence (x_isSentence (hm h [] [] []) (by constructor <;> omega)) (by decide) (by decide) rfl rfl (Nat.le_of_ble_eq_true rfl) (fun z1 g1 ri_1 hp_1 => ?_)
  obtain ⟨ra_1, rb_1⟩ := ri_1
  obtain ⟨hz1, rfl⟩ := hp_1
  refine A_if_eq hG 18 dX11_quote_4 (by decide) (by constructor <;> omega) (fun c_4 => ?_) (fun c_4 => ?_)
  ·
    refine A_iconst (n := -1) hG dX11_quote_18 ?_
    exact Ret_i hM dX11_quote_19 (by constructor <;> omega) (Or.inl ⟨⟨rfl, by omega⟩, rfl⟩)
  ·
    refine A_iload_n hG 2 dX11_quote_7 rfl rfl ?_
    refine A_iconst (n := 0) hG dX11_quote_8 ?_
    refine A_sipush (n := 255) hG dX11_quote_9 (by decide) ?_
    refine C_Si (as := [vI p, vI 0, vI 255]) (st := []) hG dX11_quote_12 ml_X11_93 mf_X11_isWithin ms_X11_isWithin (x_isWithin (hm h [] [] []) (by constructor <;> omega) (by constructor <;> omega) (by constructor <;> omega)) (by decide) (by decide) rfl rfl (Nat.le_of_ble_eq_true rfl) (fun z12 g12 ri_12 hp_12 => ?_)
    obtain ⟨ra_12, rb_12⟩ := ri_12
    obtain ⟨hz12, rfl⟩ := hp_12
    refine A_if_ne hG 20 dX11_quote_15 (by decide) (by constructor <;> omega) (fun c_15 => ?_) (fun c_15 => ?_)
    ·
      obtain ⟨r, hre⟩ : ∃ r : Nat, r = 100 + (s).toNat := ⟨_, rfl⟩
      have hr0 : 100 ≤ r ∧ r < 108 := by omega
      have hr : 100 ≤ r ∧ r < 212 := by omega
      have hwr : rowX h r (lenX h s) (rwX h s) := by rw [hre]; exact rowX_s
      have hqr : h.1 r 2 = qdX h s := by rw [hre]; rfl
      have hW := hWs s (by omega) (by omega)
      have hn8 := hW.1
      refine A_aload_n hG 0 dX11_quote_20 rfl rfl ?_
      refine A_getR (r := 5) hG dX11_quote_21 fl_X11_28 (by decide) k1 (by decide) rfl ?_
      refine A_iload_n hG 1 dX11_quote_24 rfl rfl ?_
      refine M_aald (r := r) hG dX11_quote_25 (Or.inl k5) n5 (by omega) ((hS s (by omega) (by omega)).trans hre.symm) ?_
      refine M_getI (z := 2) (v := (qdX h s)) hG dX11_quote_26 fl_X11_125 (by decide) (obk_row hr) rfl rfl (by rw [hre]; rfl) (fun ⟨ra_26, rb_26⟩ => ?_)
      refine A_istore_n (L' := [(3, vI (qdX h s)), (0, .ref 1), (1, vI s), (2, vI p)]) hG dX11_quote_29 rfl (by decide) rfl ?_
      refine A_aload_n hG 1 dX11_quote_30 rfl rfl ?_
      refine A_getR (r := 5) hG dX11_quote_31 fl_X11_28 (by decide) k1 (by decide) rfl ?_
      refine A_iload_n hG 2 dX11_quote_34 rfl rfl ?_
      refine M_aald (r := r) hG dX11_quote_35 (Or.inl k5) n5 (by omega) ((hS s (by omega) (by omega)).trans hre.symm) ?_
      refine A_iload_n hG 3 dX11_quote_36 rfl rfl ?_
      refine M_putI (z := 2) (li' := [(r, up (h.1 r) 2 p)]) hG dX11_quote_37 fl_X11_125 (by decide) (obk_row hr) nf_7_2 rfl rfl (by constructor <;> omega) (Or.inl rfl) rfl ?_
      refine A_aload_n hG 1 dX11_quote_40 rfl rfl ?_
      refine A_iconst (n := -1) hG dX11_quote_41 ?_
      refine M_putI (z := 13) (li' := [(r, up (h.1 r) 2 p), (1, up (h.1 1) 13 (-1))]) hG dX11_quote_42 fl_X11_88 (by decide) k1 nf_10_13 rfl rfl (by constructor <;> omega) (Or.inl rfl) (by simp (disch := omega) only [amg, aset, alk, if_neg, if_pos, ite_true]) ?_
      refine A_iload_n hG 0 dX11_quote_45 rfl rfl ?_
      exact Ret_i hM dX11_quote_46 (by constructor <;> omega) (Or.inr ⟨⟨by omega, rfl⟩, by rw [← hre]⟩)
    ·
      refine A_iconst (n := -1) hG dX11_quote_18 ?_
      exact Ret_i hM dX11_quote_19 (by constructor <;> omega) (Or.inl ⟨⟨rfl, by omega⟩, rfl⟩)

set_option maxHeartbeats 2000000 in
set_option maxRecDepth 20000 in
theorem x_err (h : AH) {gn : Nat} {g : Gm} (hCI : CI h gn g) {c : Int} (hc : ir c) : AMet yX11_err cX11_err 2 (some .int) 1 22 [.ref 1, vI c] h (Qi (fun z h' => ((z = -1 ∧ (c < 0 ∨ 4 < c)) ∧ h' = h) ∨ ((z = -3 ∧ (0 ≤ c ∧ c ≤ 4) ∧ h.1 7 1 = 60) ∧ h' = h) ∨ (((0 ≤ c ∧ c ≤ 4) ∧ h.1 7 1 ≠ 60 ∧ z = h.1 7 1 + 1) ∧ h' = hm h [(7, up (h.1 7) 1 (h.1 7 1 + 1)), (8, up (h.1 8) (h.1 7 1) c)] [] []))) := by
  have hCI0 := hCI
  obtain ⟨hg, ⟨hLd, hTl⟩, hgx, hOk, hL0, hE0, hK0, hWs, hKb, hS, hKr, hPer, hTf, hV13, hCc⟩ := hCI
  have hgw := hOk.1
  have hgr := hOk.2.1
  obtain ⟨hc1, hc2⟩ := hc
  refine AMet.of (by decide) (Nat.le_of_ble_eq_true rfl) (fun G hM => ?_)
  have hG := hM.cx
  refine A_hm0 (G := G) (L := [(0, .ref 1), (1, vI c)]) ?_
  refine A_iload_n hG 1 dX11_err_0 rfl rfl ?_
  refine A_iconst (n := 0) hG dX11_err_1 ?_
  refine A_iconst (n := 4) hG dX11_err_2 ?_
  refine C_Si (as := [vI c, vI 0, vI 4]) (st := []) hG dX11_err_3 ml_X11_93 mf_X11_isWithin ms_X11_isWithin (x_isWithin (hm h [] [] []) (by constructor <;> omega) (by constructor <;> omega) (by constructor <;> omega)) (by decide) (by decide) rfl rfl (Nat.le_of_ble_eq_true rfl) (fun z3 g3 ri_3 hp_3 => ?_)
  obtain ⟨ra_3, rb_3⟩ := ri_3
  obtain ⟨hz3, rfl⟩ := hp_3
  refine A_if_ne hG 11 dX11_err_6 (by decide) (by constructor <;> omega) (fun c_6 => ?_) (fun c_6 => ?_)
  ·
    refine A_aload_n hG 0 dX11_err_11 rfl rfl ?_
    refine A_getR (r := 7) hG dX11_err_12 fl_X11_45 (by decide) k1 (by decide) rfl ?_
    refine M_getI (z := 1) (v := h.1 7 1) hG dX11_err_15 fl_X11_111 (by decide) k7 rfl rfl rfl (fun ⟨ra_15, rb_15⟩ => ?_)
    refine A_bipush (n := 60) hG dX11_err_18 (by decide) ?_
    refine A_icmp_lt hG 26 dX11_err_20 (by decide) (by constructor <;> omega) (by constructor <;> omega) (fun c_20 => ?_) (fun c_20 => ?_)
    ·
      refine A_aload_n hG 0 dX11_err_26 rfl rfl ?_
      refine A_getR (r := 7) hG dX11_err_27 fl_X11_45 (by decide) k1 (by decide) rfl ?_
      refine A_iload_n hG 1 dX11_err_30 rfl rfl ?_
      refine C_Vv (as := [vI c]) (st := []) (k := 7) (c := 2) hG dX11_err_31 ml_X11_225 mf_X2_append mi_X2_append se_X2_append rfl (by decide) k7 (x_handAppend (hm h [] [] []) (v := c) (by constructor <;> omega) (show 0 ≤ h.1 7 1 ∧ h.1 7 1 < 60 by omega)) (by decide) (by decide) rfl rfl (Nat.le_of_ble_eq_true rfl) (fun g31 hp_31 => ?_)
      subst hp_31
      refine A_hm (la := [(7, up (h.1 7) 1 (h.1 7 1 + 1)), (8, up (h.1 8) (h.1 7 1) c)]) (lb := []) (lc := []) rfl rfl rfl ?_
      refine A_aload_n hG 0 dX11_err_34 rfl rfl ?_
      refine A_getR (r := 7) hG dX11_err_35 fl_X11_45 (by decide) k1 (by decide) rfl ?_
      refine M_getI (z := 1) (v := h.1 7 1 + 1) hG dX11_err_38 fl_X11_111 (by decide) k7 rfl rfl (up_eq (h.1 7) 1 (h.1 7 1 + 1)) (fun ⟨ra_38, rb_38⟩ => ?_)
      exact Ret_i hM dX11_err_41 (by constructor <;> omega) (Or.inr (Or.inr ⟨⟨by omega, by omega, rfl⟩, rfl⟩))
    ·
      refine A_bipush (n := -3) hG dX11_err_23 (by decide) ?_
      exact Ret_i hM dX11_err_25 (by constructor <;> omega) (Or.inr (Or.inl ⟨⟨rfl, by omega, by omega⟩, rfl⟩))
  ·
    refine A_iconst (n := -1) hG dX11_err_9 ?_
    exact Ret_i hM dX11_err_10 (by constructor <;> omega) (Or.inl ⟨⟨rfl, by omega⟩, rfl⟩)

set_option maxHeartbeats 2000000 in
set_option maxRecDepth 20000 in
theorem x_gone (h : AH) {gn : Nat} {g : Gm} (hCI : CI h gn g) {c m : Int} (hc : ir c) (hm0 : ir m) : AMet yX11_gone cX11_gone 3 (some .int) 2 44 [.ref 1, vI c, vI m] h (Qi (fun z h' => ((z = -1 ∧ (c < 0 ∨ 4 < c ∨ m < 1 ∨ 60 < m)) ∧ h' = h) ∨ (((0 ≤ c ∧ c ≤ 4 ∧ 1 ≤ m ∧ m ≤ 60) ∧ z = (if cmE (h.1 8) c 0 (h.1 7 1).toNat = 1 ∧ cmE (h.1 8) c (h.1 7 1 - m) (h.1 7 1).toNat = 0 then 1 else 0)) ∧ h' = h))) := by
  have hCI0 := hCI
  obtain ⟨hg, ⟨hLd, hTl⟩, hgx, hOk, hL0, hE0, hK0, hWs, hKb, hS, hKr, hPer, hTf, hV13, hCc⟩ := hCI
  have hgw := hOk.1
  have hgr := hOk.2.1
  obtain ⟨hc1, hc2⟩ := hc
  obtain ⟨hm1, hm2⟩ := hm0
  refine AMet.of (by decide) (Nat.le_of_ble_eq_true rfl) (fun G hM => ?_)
  have hG := hM.cx
  refine A_hm0 (G := G) (L := [(0, .ref 1), (1, vI c), (2, vI m)]) ?_
  refine A_iload_n hG 1 dX11_gone_0 rfl rfl ?_
  refine A_iconst (n := 0) hG dX11_gone_1 ?_
  refine A_iconst (n := 4) hG dX11_gone_2 ?_
  refine C_Si (as := [vI c, vI 0, vI 4]) (st := []) hG dX11_gone_3 ml_X11_93 mf_X11_isWithin ms_X11_isWithin (x_isWithin (hm h [] [] []) (by constructor <;> omega) (by constructor <;> omega) (by constructor <;> omega)) (by decide) (by decide) rfl rfl (Nat.le_of_ble_eq_true rfl) (fun z3 g3 ri_3 hp_3 => ?_)
  obtain ⟨ra_3, rb_3⟩ := ri_3
  obtain ⟨hz3, rfl⟩ := hp_3
  refine A_if_eq hG 19 dX11_gone_6 (by decide) (by constructor <;> omega) (fun c_6 => ?_) (fun c_6 => ?_)
  ·
    refine A_iconst (n := -1) hG dX11_gone_19 ?_
    exact Ret_i hM dX11_gone_20 (by constructor <;> omega) (Or.inl ⟨⟨rfl, by omega⟩, rfl⟩)
  ·
    refine A_iload_n hG 2 dX11_gone_9 rfl rfl ?_
    refine A_iconst (n := 1) hG dX11_gone_10 ?_
    refine A_bipush (n := 60) hG dX11_gone_11 (by decide) ?_
    refine C_Si (as := [vI m, vI 1, vI 60]) (st := []) hG dX11_gone_13 ml_X11_93 mf_X11_isWithin ms_X11_isWithin (x_isWithin (hm h [] [] []) (by constructor <;> omega) (by constructor <;> omega) (by constructor <;> omega)) (by decide) (by decide) rfl rfl (Nat.le_of_ble_eq_true rfl) (fun z13 g13 ri_13 hp_13 => ?_)
    obtain ⟨ra_13, rb_13⟩ := ri_13
    obtain ⟨hz13, rfl⟩ := hp_13
    refine A_if_ne hG 21 dX11_gone_16 (by decide) (by constructor <;> omega) (fun c_16 => ?_) (fun c_16 => ?_)
    ·
      refine A_aload_n hG 0 dX11_gone_21 rfl rfl ?_
      refine A_getR (r := 7) hG dX11_gone_22 fl_X11_45 (by decide) k1 (by decide) rfl ?_
      refine A_iload_n hG 1 dX11_gone_25 rfl rfl ?_
      refine A_iconst (n := 0) hG dX11_gone_26 ?_
      refine C_Vi (as := [vI c, vI 0]) (st := []) (k := 7) (c := 2) hG dX11_gone_27 ml_X11_226 mf_X2_cameSince mi_X2_cameSince se_X2_cameSince rfl (by decide) k7 (x_cameSince (hm h [] [] []) (c := c) (a := 0) (by omega) (by omega) hE0) (by decide) (by decide) rfl rfl (Nat.le_of_ble_eq_true rfl) (fun z27 g27 ri_27 hp_27 => ?_)
      obtain ⟨ra_27, rb_27⟩ := ri_27
      have hq_27 : z27 = cmE (h.1 8) c 0 (h.1 7 1).toNat ∧ g27 = hm h [] [] [] := hp_27
      clear hp_27
      obtain ⟨hz27, rfl⟩ := hq_27
      have hy27 := cmE_01 (h.1 8) c 0 (h.1 7 1).toNat
      rw [← hz27] at hy27
      refine A_if_eq hG 57 dX11_gone_30 (by decide) (by constructor <;> omega) (fun c_30 => ?_) (fun c_30 => ?_)
      ·
        refine A_iconst (n := 0) hG dX11_gone_57 ?_
        exact Ret_i hM dX11_gone_58 (by constructor <;> omega) (Or.inr ⟨⟨by omega, by rw [if_neg (by omega)]⟩, rfl⟩)
      ·
        refine A_aload_n hG 0 dX11_gone_33 rfl rfl ?_
        refine A_getR (r := 7) hG dX11_gone_34 fl_X11_45 (by decide) k1 (by decide) rfl ?_
        refine A_iload_n hG 1 dX11_gone_37 rfl rfl ?_
        refine A_aload_n hG 0 dX11_gone_38 rfl rfl ?_
        refine A_getR (r := 7) hG dX11_gone_39 fl_X11_45 (by decide) k1 (by decide) rfl ?_
        refine M_getI (z := 1) (v := h.1 7 1) hG dX11_gone_42 fl_X11_111 (by decide) k7 rfl rfl rfl (fun ⟨ra_42, rb_42⟩ => ?_)
        refine A_iload_n hG 2 dX11_gone_45 rfl rfl ?_
        refine A_isub hG dX11_gone_46 ?_
        refine C_Vi (as := [vI c, vI ((h.1 7 1) - m)]) (st := []) (k := 7) (c := 2) hG dX11_gone_47 ml_X11_226 mf_X2_cameSince mi_X2_cameSince se_X2_cameSince rfl (by decide) k7 (x_cameSince (hm h [] [] []) (c := c) (a := (h.1 7 1) - m) (by omega) (by omega) hE0) (by decide) (by decide) rfl rfl (Nat.le_of_ble_eq_true rfl) (fun z47 g47 ri_47 hp_47 => ?_)
        obtain ⟨ra_47, rb_47⟩ := ri_47
        have hq_47 : z47 = cmE (h.1 8) c ((h.1 7 1) - m) (h.1 7 1).toNat ∧ g47 = hm h [] [] [] := hp_47
        clear hp_47
        obtain ⟨hz47, rfl⟩ := hq_47
        have hy47 := cmE_01 (h.1 8) c ((h.1 7 1) - m) (h.1 7 1).toNat
        rw [← hz47] at hy47
        refine A_if_ne hG 57 dX11_gone_50 (by decide) (by constructor <;> omega) (fun c_50 => ?_) (fun c_50 => ?_)
        ·
          refine A_iconst (n := 0) hG dX11_gone_57 ?_
          exact Ret_i hM dX11_gone_58 (by constructor <;> omega) (Or.inr ⟨⟨by omega, by rw [if_neg (by omega)]⟩, rfl⟩)
        ·
          refine A_iconst (n := 1) hG dX11_gone_53 ?_
          refine A_goto hG 58 dX11_gone_54 (by decide) ?_
          exact Ret_i hM dX11_gone_58 (by constructor <;> omega) (Or.inr ⟨⟨by omega, by rw [if_pos (by omega)]⟩, rfl⟩)
    ·
      refine A_iconst (n := -1) hG dX11_gone_19 ?_
      exact Ret_i hM dX11_gone_20 (by constructor <;> omega) (Or.inl ⟨⟨rfl, by omega⟩, rfl⟩)

set_option maxHeartbeats 2000000 in
set_option maxRecDepth 20000 in
theorem x_wordsOf (h : AH) (hS : sRf h) (hl : ∀ s, 0 ≤ s → s < 8 → 0 ≤ lenX h s ∧ lenX h s ≤ 8) : AMet yX11_wordsOfSentences cX11_wordsOfSentences 3 (some .int) 0 0 [.ref 1] h (Qi (fun z h' => z = sumN (lenX h) 8 ∧ h' = h)) := by
  refine AMet.of (by decide) (Nat.le_of_ble_eq_true rfl) (fun G hM => ?_)
  have hG := hM.cx
  refine A_hm0 (G := G) (L := [(0, .ref 1)]) ?_
  refine A_iconst (n := 0) hG dX11_wordsOfSentences_0 ?_
  refine A_istore_n (L' := [(1, vI 0), (0, .ref 1)]) hG dX11_wordsOfSentences_1 rfl (by decide) rfl ?_
  refine A_iconst (n := 0) hG dX11_wordsOfSentences_2 ?_
  refine A_istore_n (L' := [(2, vI 0), (1, vI 0), (0, .ref 1)]) hG dX11_wordsOfSentences_3 rfl (by decide) rfl ?_
  have j_0 : ∀ fu : Nat, ∀ (x : Int) (j : Nat), (j ≤ 8) → (x = sumN (lenX h) j) → (0 ≤ x ∧ x ≤ 8 * j) → (9 - j) < fu → G 4 [(0, .ref 1), (1, vI x), (2, vI (j : Int))] [] (hm h [] [] []) := by
    intro fu
    induction fu with
    | zero => intro x j hj hx hxr hfu; exact absurd hfu (Nat.not_lt_zero _)
    | succ fu ih_j =>
      intro x j hj hx hxr hfu
      refine A_iload_n hG 2 dX11_wordsOfSentences_4 rfl rfl ?_
      refine A_bipush (n := 8) hG dX11_wordsOfSentences_5 (by decide) ?_
      refine A_icmp_ge hG 28 dX11_wordsOfSentences_7 (by decide) (by constructor <;> omega) (by constructor <;> omega) (fun c_7 => ?_) (fun c_7 => ?_)
      ·
        refine A_iload_n hG 1 dX11_wordsOfSentences_28 rfl rfl ?_
        exact Ret_i hM dX11_wordsOfSentences_29 (by constructor <;> omega) (⟨by rw [hx, show j = 8 by omega], rfl⟩)
      ·
        obtain ⟨r, hre⟩ : ∃ r : Nat, r = 100 + (j : Int).toNat := ⟨_, rfl⟩
        have hr : 100 ≤ r ∧ r < 212 := by omega
        have hlj := hl j (by omega) (by omega)
        refine A_iload_n hG 1 dX11_wordsOfSentences_10 rfl rfl ?_
        refine A_aload_n hG 0 dX11_wordsOfSentences_11 rfl rfl ?_
        refine A_getR (r := 5) hG dX11_wordsOfSentences_12 fl_X11_28 (by decide) k1 (by decide) rfl ?_
        refine A_iload_n hG 2 dX11_wordsOfSentences_15 rfl rfl ?_
        refine M_aald (r := r) hG dX11_wordsOfSentences_16 (Or.inl k5) n5 (by omega) ((hS j (by omega) (by omega)).trans hre.symm) ?_
        refine M_getI (z := 1) (v := (lenX h j)) hG dX11_wordsOfSentences_17 fl_X11_123 (by decide) (obk_row hr) rfl rfl (by rw [hre]; rfl) (fun ⟨ra_17, rb_17⟩ => ?_)
        refine A_iadd hG dX11_wordsOfSentences_20 ?_
        refine A_istore_n (L' := [(1, vI (x + (lenX h j))), (0, .ref 1), (2, vI (j : Int))]) hG dX11_wordsOfSentences_21 rfl (by decide) rfl ?_
        refine A_iinc (L' := [(2, vI ((j : Int) + 1)), (1, vI (x + (lenX h j))), (0, .ref 1)]) hG 2 dX11_wordsOfSentences_22 rfl (by decide) rfl ?_
        refine A_goto hG 4 dX11_wordsOfSentences_25 (by decide) ?_
        refine A_sub hG [2, 1, 0] rfl ?_
        exact ih_j (x + (lenX h j)) (j + 1) (by omega) (by simp only [sumN]; omega) (by omega) (by omega)
  refine A_sub hG [2, 1, 0] rfl ?_
  exact j_0 _ 0 0 (by omega) rfl (by omega) (Nat.lt_succ_self _)

set_option maxHeartbeats 2000000 in
set_option maxRecDepth 20000 in
theorem x_count (h : AH) {gn : Nat} {g : Gm} (hCI : CI h gn g) {w : Int} (hw : ir w) : AMet yX11_count cX11_count 2 (some .int) 1 22 [.ref 1, vI w] h (Qi (fun z h' => ((w = 0 ∧ z = g 10 0) ∨ (w = 1 ∧ z = g 10 1) ∨ (w = 2 ∧ z = h.1 2 1) ∨ (w = 3 ∧ z = h.1 1 5) ∨ (w = 4 ∧ z = h.1 7 1) ∨ (w = 5 ∧ z = sumN (lenX h) 8) ∨ ((w < 0 ∨ 5 < w) ∧ z = -1)) ∧ h' = h)) := by
  have hCI0 := hCI
  obtain ⟨hg, ⟨hLd, hTl⟩, hgx, hOk, hL0, hE0, hK0, hWs, hKb, hS, hKr, hPer, hTf, hV13, hCc⟩ := hCI
  have hgw := hOk.1
  have hgr := hOk.2.1
  obtain ⟨hw1, hw2⟩ := hw
  refine AMet.of (by decide) (Nat.le_of_ble_eq_true rfl) (fun G hM => ?_)
  have hG := hM.cx
  refine A_hm0 (G := G) (L := [(0, .ref 1), (1, vI w)]) ?_
  refine A_iload_n hG 1 dX11_count_0 rfl rfl ?_
  rcases (show w = 0 ∨ w = 1 ∨ w = 2 ∨ w = 3 ∨ w = 4 ∨ w = 5 ∨ w < 0 ∨ 5 < w by omega) with hsw | hsw | hsw | hsw | hsw | hsw | hsw
  ·
    refine A_tabIn hG 40 dX11_count_1 (by constructor <;> omega) (by omega) (by rw [hsw]; rfl) (by decide) ?_
    refine A_aload_n hG 0 dX11_count_40 rfl rfl ?_
    refine A_getR (r := gn) hG dX11_count_41 fl_X11_19 (by decide) k1 (by decide) hLd ?_
    refine M_getI (z := 4) (v := (g 10 0)) hG dX11_count_44 fl_X11_112 (by decide) (kg0 hg) rfl rfl ((gx_n hgx).1) (fun ⟨ra_44, rb_44⟩ => ?_)
    exact Ret_i hM dX11_count_47 (by constructor <;> omega) (⟨by omega, rfl⟩)
  ·
    refine A_tabIn hG 48 dX11_count_1 (by constructor <;> omega) (by omega) (by rw [hsw]; rfl) (by decide) ?_
    refine A_aload_n hG 0 dX11_count_48 rfl rfl ?_
    refine A_getR (r := gn) hG dX11_count_49 fl_X11_19 (by decide) k1 (by decide) hLd ?_
    refine M_getI (z := 10) (v := (g 10 1)) hG dX11_count_52 fl_X11_218 (by decide) (kg0 hg) rfl rfl ((gx_n hgx).2) (fun ⟨ra_52, rb_52⟩ => ?_)
    exact Ret_i hM dX11_count_55 (by constructor <;> omega) (⟨by omega, rfl⟩)
  ·
    refine A_tabIn hG 56 dX11_count_1 (by constructor <;> omega) (by omega) (by rw [hsw]; rfl) (by decide) ?_
    refine A_aload_n hG 0 dX11_count_56 rfl rfl ?_
    refine A_getR (r := 2) hG dX11_count_57 fl_X11_12 (by decide) k1 (by decide) rfl ?_
    refine M_getI (z := 1) (v := h.1 2 1) hG dX11_count_60 fl_X11_97 (by decide) k2 rfl rfl rfl (fun ⟨ra_60, rb_60⟩ => ?_)
    exact Ret_i hM dX11_count_63 (by constructor <;> omega) (⟨by omega, rfl⟩)
  ·
    refine A_tabIn hG 64 dX11_count_1 (by constructor <;> omega) (by omega) (by rw [hsw]; rfl) (by decide) ?_
    refine A_aload_n hG 0 dX11_count_64 rfl rfl ?_
    refine M_getI (z := 5) (v := h.1 1 5) hG dX11_count_65 fl_X11_38 (by decide) k1 rfl rfl rfl (fun ⟨ra_65, rb_65⟩ => ?_)
    exact Ret_i hM dX11_count_68 (by constructor <;> omega) (⟨by omega, rfl⟩)
  ·
    refine A_tabIn hG 69 dX11_count_1 (by constructor <;> omega) (by omega) (by rw [hsw]; rfl) (by decide) ?_
    refine A_aload_n hG 0 dX11_count_69 rfl rfl ?_
    refine A_getR (r := 7) hG dX11_count_70 fl_X11_45 (by decide) k1 (by decide) rfl ?_
    refine M_getI (z := 1) (v := h.1 7 1) hG dX11_count_73 fl_X11_111 (by decide) k7 rfl rfl rfl (fun ⟨ra_73, rb_73⟩ => ?_)
    exact Ret_i hM dX11_count_76 (by constructor <;> omega) (⟨by omega, rfl⟩)
  ·
    refine A_tabIn hG 77 dX11_count_1 (by constructor <;> omega) (by omega) (by rw [hsw]; rfl) (by decide) ?_
    refine A_aload_n hG 0 dX11_count_77 rfl rfl ?_
    refine C_Vi (as := []) (st := []) (k := 1) (c := 10) hG dX11_count_78 ml_X11_229 mf_X11_wordsOfSentences mi_X11_wordsOfSentences se_X11_wordsOfSentences rfl (by decide) k1 (x_wordsOf (hm h [] [] []) hS (fun s s0 s1 => (hWs s s0 s1).1)) (by decide) (by decide) rfl rfl (Nat.le_of_ble_eq_true rfl) (fun z78 g78 ri_78 hp_78 => ?_)
    obtain ⟨ra_78, rb_78⟩ := ri_78
    have hq_78 : z78 = sumN (lenX h) 8 ∧ g78 = hm h [] [] [] := hp_78
    clear hp_78
    obtain ⟨hz78, rfl⟩ := hq_78
    exact Ret_i hM dX11_count_81 (by constructor <;> omega) (⟨by omega, rfl⟩)
  ·
    refine A_tabOut hG 82 dX11_count_1 (by constructor <;> omega) hsw (by decide) ?_
    refine A_iconst (n := -1) hG dX11_count_82 ?_
    exact Ret_i hM dX11_count_83 (by constructor <;> omega) (⟨by omega, rfl⟩)

end
