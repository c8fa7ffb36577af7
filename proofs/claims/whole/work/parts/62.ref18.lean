/-! the reference: layMends (printed by gen) -/
section
theorem rowC_congr {w w' : Int → Int} {n c p v : Int} (h : ∀ i, 0 ≤ i → i < n → w i = w' i) (hp : 0 ≤ p) (hc : (c = 0 ∧ p < n) ∨ (c = 1 ∧ p < n) ∨ (c = 2 ∧ p ≤ n)) : ∀ j, 0 ≤ j → j < lenC n c → rowC w c p v j = rowC w' c p v j := by
  intro j j0 j1
  rcases hc with ⟨rfl, hc⟩ | ⟨rfl, hc⟩ | ⟨rfl, hc⟩
  · have j1 : j < n := j1
    show swp w p v j = swp w' p v j
    unfold swp
    split
    · rfl
    · exact h j j0 j1
  · have j1 : j < n - 1 := j1
    show del w p j = del w' p j
    unfold del
    split
    · exact h j j0 (by omega)
    · exact h _ (by omega) (by omega)
  · have j1 : j < n + 1 := j1
    show insr w p v j = insr w' p v j
    unfold insr
    split
    · exact h j j0 (by omega)
    · split
      · rfl
      · exact h _ (by omega) (by omega)
theorem tried_ok {g : Gm} {w w9 : Int → Int} {n c p v l9 : Int} {q : Int → Prop} (hG : okG g) (hw : okW g w n) (hm : mayC g w n q c p v ∨ lenC n c = 0) (hl : l9 = lenC n c) (h9 : ∀ j, 0 ≤ j → j < l9 → w9 j = rowC w c p v j) : okW g w9 l9 := by
  rcases hm with hm | hm
  · have := (okW_C hw hm hG).1
    refine ⟨by rw [hl]; exact this.1, fun i i0 i1 => ?_⟩
    rw [h9 i i0 i1]
    exact this.2 i i0 (by rw [← hl]; exact i1)
  · refine ⟨by omega, fun i i0 i1 => by omega⟩
theorem tried_set {g : Gm} {w w9 r9 ms : Int → Int} {n c p v l9 pr many : Int} {q : Int → Prop} {D D' : Int → Int → Int → Prop} (h : topk (fun y => cnd g w n q D y ∨ (READ g (hasb 0) w9 l9 ∧ 1 ≤ l9 ∧ y = kK pr l9 r9)) many ms) (hl : l9 = lenC n c) (h9 : ∀ j, 0 ≤ j → j < l9 → w9 j = rowC w c p v j) (hr : ∀ j, 0 ≤ j → j < l9 → r9 j = rowC w c p v j) (hm : (mayC g w n q c p v ∧ pr = prC g w c p v ∧ 1 ≤ lenC n c) ∨ (¬ mayC g w n q c p v ∧ lenC n c = 0)) (hD : ∀ c' p' v', mayC g w n q c' p' v' → (D' c' p' v' ↔ D c' p' v' ∨ (c' = c ∧ p' = p ∧ v' = v))) : topk (cnd g w n q D') many ms := by
  subst hl
  rcases hm with ⟨m1, rfl, m3⟩ | ⟨m1, m2⟩
  · refine topk_congr h (fun y => ?_)
    rw [cnd_add m1 hD]
    have e1 : READ g (hasb 0) w9 (lenC n c) ↔ READ g (hasb 0) (rowC w c p v) (lenC n c) := READ_congr (fun _ _ _ => Iff.rfl) m3 h9
    have e2 : kK (prC g w c p v) (lenC n c) r9 = kK (prC g w c p v) (lenC n c) (rowC w c p v) := kK_congr hr
    rw [e1, e2]
    constructor
    · rintro (a | ⟨a, -, b⟩)
      · exact Or.inl a
      · exact Or.inr ⟨a, b⟩
    · rintro (a | ⟨a, b⟩)
      · exact Or.inl a
      · exact Or.inr ⟨a, m3, b⟩
  · refine topk_congr h (fun y => ?_)
    rw [cnd_no m1 hD]
    constructor
    · rintro (a | ⟨-, a, -⟩)
      · exact a
      · omega
    · exact Or.inl
/-- a table that holds the mends of a set -/
def mQ (C : Int → Prop) (nw : Int) (o f3 f4 f5 : Int → Int) : Prop := ∃ ms, topk C (o 21) ms ∧ mT nw (o 21) f3 f4 f5 ms
theorem mQ_sub {g : Gm} {w : Int → Int} {n nw : Int} {q : Int → Prop} {D D' : Int → Int → Int → Prop} {o f3 f4 f5 : Int → Int} (h : mQ (cnd g w n q D) nw o f3 f4 f5) (hD : ∀ c p v, mayC g w n q c p v → (D c p v ↔ D' c p v)) : mQ (cnd g w n q D') nw o f3 f4 f5 := by
  obtain ⟨ms, h1, h2⟩ := h
  exact ⟨ms, topk_congr h1 (fun y => cnd_sub hD y), h2⟩
theorem mQ_no {g : Gm} {w : Int → Int} {n nw c p v : Int} {q : Int → Prop} {D D' : Int → Int → Int → Prop} {o f3 f4 f5 : Int → Int} (h : mQ (cnd g w n q D) nw o f3 f4 f5) (hm : ¬ mayC g w n q c p v) (hD : ∀ c' p' v', mayC g w n q c' p' v' → (D' c' p' v' ↔ D c' p' v' ∨ (c' = c ∧ p' = p ∧ v' = v))) : mQ (cnd g w n q D') nw o f3 f4 f5 := by
  obtain ⟨ms, h1, h2⟩ := h
  exact ⟨ms, topk_congr h1 (fun y => (cnd_no hm hD y).symm), h2⟩
theorem may_q {g : Gm} {w : Int → Int} {n c p v : Int} {q : Int → Prop} (hm : mayC g w n q c p v) (hc : c ≠ 2) : p < n ∧ ¬ q p := by
  rcases hm.2 with h | h | h
  · exact ⟨h.2.1, h.2.2.1⟩
  · exact ⟨h.2.1, h.2.2.1⟩
  · exact absurd h.1 hc
/-- the place is not quoted -/
def myQ (h : AH) (s p : Int) : Prop := p < h.1 508 s ∧ ¬ hasb (h.1 510 s) p
theorem chg_swp {h : AH} {u v z : Int} {pv : Int → Int} (hG : okG (gR h)) (hu : 0 ≤ u ∧ u < h.1 503 0) (hv : 0 ≤ v ∧ v < h.1 503 0) (hpv : ∀ c, 0 ≤ c → c < 5 → pv c = h.1 507 c) (hne : u ≠ v)
    (hz : ((u = v ∧ z = 0) ∨ (u ≠ v ∧ (0 ≤ z ∧ z ≤ 100000) ∧ (h.1 504 (4 * u + 2) = h.1 504 (4 * v + 2) → z ≤ pv 0) ∧ (h.1 504 (4 * u + 3) = h.1 504 (4 * v + 3) → z ≤ pv 1) ∧ (h.1 504 (4 * u + 0) = h.1 504 (4 * v + 0) → z ≤ pv 2) ∧ (z = 100000 ∨ (h.1 504 (4 * u + 2) = h.1 504 (4 * v + 2) ∧ z = pv 0) ∨ (h.1 504 (4 * u + 3) = h.1 504 (4 * v + 3) ∧ z = pv 1) ∨ (h.1 504 (4 * u + 0) = h.1 504 (4 * v + 0) ∧ z = pv 2))))) :
    (z < 100000 ∧ z = swpP (gR h) (gR h 9) u v ∧ swpP (gR h) (gR h 9) u v < 100) ∨ (z = 100000 ∧ ¬ swpP (gR h) (gR h 9) u v < 100) := by
  obtain ⟨-, hz0, hz1, hz2, hz3, hz4⟩ := hz.resolve_left (fun q => hne q.1)
  have eu := gR_w hu
  have ev := gR_w hv
  have pp := okG_pr hG
  have p0 := gR_p (h := h) (j := 0) (by omega)
  have p1 := gR_p (h := h) (j := 1) (by omega)
  have p2' := gR_p (h := h) (j := 2) (by omega)
  rw [hpv 0 (by omega) (by omega), ← p0] at hz1 hz4
  rw [hpv 1 (by omega) (by omega), ← p1] at hz2 hz4
  rw [hpv 2 (by omega) (by omega), ← p2'] at hz3 hz4
  rw [Int.add_zero, Int.add_zero] at hz3 hz4
  rw [← eu.2.2.1, ← ev.2.2.1] at hz1 hz4
  rw [← eu.2.2.2, ← ev.2.2.2] at hz2 hz4
  rw [← eu.1, ← ev.1] at hz3 hz4
  unfold swpP
  by_cases c1 : gR h 2 u = gR h 2 v
  · have d1 := hz1 c1
    rw [if_pos c1]
    by_cases c2 : gR h 3 u = gR h 3 v
    · have d2 := hz2 c2
      rw [if_pos c2]
      by_cases c3 : gR h 0 u = gR h 0 v
      · have d3 := hz3 c3
        rw [if_pos c3]; clear hz1 hz2 hz3; omega
      · rw [if_neg c3]; clear hz1 hz2 hz3; omega
    · rw [if_neg c2]
      by_cases c3 : gR h 0 u = gR h 0 v
      · have d3 := hz3 c3
        rw [if_pos c3]; clear hz1 hz2 hz3; omega
      · rw [if_neg c3]; clear hz1 hz2 hz3; omega
  · rw [if_neg c1]
    by_cases c2 : gR h 3 u = gR h 3 v
    · have d2 := hz2 c2
      rw [if_pos c2]
      by_cases c3 : gR h 0 u = gR h 0 v
      · have d3 := hz3 c3
        rw [if_pos c3]; clear hz1 hz2 hz3; omega
      · rw [if_neg c3]; clear hz1 hz2 hz3; omega
    · rw [if_neg c2]
      by_cases c3 : gR h 0 u = gR h 0 v
      · have d3 := hz3 c3
        rw [if_pos c3]; clear hz1 hz2 hz3; omega
      · rw [if_neg c3]; clear hz1 hz2 hz3; omega
set_option maxHeartbeats 2000000 in
set_option maxRecDepth 20000 in
theorem r_layMends (h : AH) {s : Int} (hs : 0 ≤ s ∧ s ≤ 8) (hG0 : okG (gR h)) (hW0 : okW (gR h) (rowR h s) (h.1 508 s)) (hl0 : 1 ≤ h.1 508 s) : AMet yX12_layMends cX12_layMends 6 none 4 101 [.ref 500, vI s] h (Qv (fun h' => ∃ e f o f3 f4 f5 pv : Int → Int, ∃ fl : Int → Int64, (mQ (cnd (gR h) (rowR h s) (h.1 508 s) (hasb (h.1 510 s)) (fun c' p' v' => True)) (h.1 503 0) o f3 f4 f5 ∧ (∀ q, q ≠ 9 → e q = h.1 508 q) ∧ (∀ j, j < 90 → f j = h.1 509 j) ∧ (∀ q, q ≠ 21 → o q = h.1 500 q)) ∧ h' = hm h [(500, o), (521, pv), (508, e), (509, f), (523, f3), (524, f4), (525, f5)] [(518, fl)] [])) := by
  have hlen := hW0.1
  have hnw := hG0.1
  rw [(gR_n h).1] at hnw
  have pp := okG_pr hG0
  have hnw2 : gR h 10 0 = h.1 503 0 := rfl
  refine AMet.of (by decide) (Nat.le_of_ble_eq_true rfl) (fun G hM => ?_)
  have hG := hM.cx
  refine A_hm0 (G := G) (L := [(0, .ref 500), (1, vI s)]) ?_
  refine A_aload_n hG 0 dX12_layMends_0 rfl rfl ?_
  refine A_iconst (n := 0) hG dX12_layMends_1 ?_
  refine M_putI (z := 21) (li' := [(500, up (h.1 500) 21 0)]) hG dX12_layMends_2 fl_X12_188 (by decide) k500 nf_11_21 rfl rfl (by constructor <;> omega) (Or.inl rfl) rfl ?_
  refine A_iconst (n := 0) hG dX12_layMends_5 ?_
  refine A_istore_n (L' := [(2, vI 0), (0, .ref 500), (1, vI s)]) hG dX12_layMends_6 rfl (by decide) rfl ?_
  refine A_insI 521 (li' := [(500, up (h.1 500) 21 0), (521, h.1 521)]) rfl ?_
  have c_0 : ∀ fu : Nat, ∀ (c : Int) (pv : Int → Int), (0 ≤ c ∧ c ≤ 5) → (∀ j, 0 ≤ j → j < c → pv j = h.1 507 j) → ((5 - c).toNat) < fu → G 7 [(0, .ref 500), (1, vI s), (2, vI c)] [] (hm h [(500, up (h.1 500) 21 0), (521, pv)] [] []) := by
    intro fu
    induction fu with
    | zero => intro c pv hc hpv hfu; exact absurd hfu (Nat.not_lt_zero _)
    | succ fu ih_c =>
      intro c pv hc hpv hfu
      refine A_iload_n hG 2 dX12_layMends_7 rfl rfl ?_
      refine A_iconst (n := 5) hG dX12_layMends_8 ?_
      refine A_icmp_ge hG 30 dX12_layMends_9 (by decide) (by constructor <;> omega) (by constructor <;> omega) (fun c_9 => ?_) (fun c_9 => ?_)
      ·
        have hpv : ∀ c, 0 ≤ c → c < 5 → pv c = h.1 507 c := fun j j1 j2 => hpv j j1 (by omega)
        have hpr : ∀ c, 0 ≤ c → c < 5 → 0 ≤ pv c ∧ pv c ≤ 99 := fun c c1 c2 => by rw [hpv c c1 c2, ← gR_p ⟨c1, c2⟩]; exact hG0.2.2.2.2 c c1 c2
        have hp0 := hpr 0 (by omega) (by omega)
        have hp1 := hpr 1 (by omega) (by omega)
        have hp2 := hpr 2 (by omega) (by omega)
        have hp3 := hpr 3 (by omega) (by omega)
        have hp4 := hpr 4 (by omega) (by omega)
        refine A_iconst (n := 0) hG dX12_layMends_30 ?_
        refine A_istore_n (L' := [(2, vI 0), (0, .ref 500), (1, vI s)]) hG dX12_layMends_31 rfl (by decide) rfl ?_
        refine A_insI 508 (li' := [(500, up (h.1 500) 21 0), (521, pv), (508, h.1 508)]) rfl ?_
        refine A_insI 509 (li' := [(500, up (h.1 500) 21 0), (521, pv), (508, h.1 508), (509, h.1 509)]) rfl ?_
        refine A_insI 523 (li' := [(500, up (h.1 500) 21 0), (521, pv), (508, h.1 508), (509, h.1 509), (523, h.1 523)]) rfl ?_
        refine A_insI 524 (li' := [(500, up (h.1 500) 21 0), (521, pv), (508, h.1 508), (509, h.1 509), (523, h.1 523), (524, h.1 524)]) rfl ?_
        refine A_insI 525 (li' := [(500, up (h.1 500) 21 0), (521, pv), (508, h.1 508), (509, h.1 509), (523, h.1 523), (524, h.1 524), (525, h.1 525)]) rfl ?_
        refine A_insL 518 (ll' := [(518, h.2.1 518)]) rfl ?_
        have p_1 : ∀ fu : Nat, ∀ (pl : Int) (e : Int → Int) (f : Int → Int) (o : Int → Int) (f3 : Int → Int) (f4 : Int → Int) (f5 : Int → Int) (fl : Int → Int64), (0 ≤ pl ∧ pl ≤ h.1 508 s + 1) → (∀ q, q ≠ 9 → e q = h.1 508 q) → (∀ j, j < 90 → f j = h.1 509 j) → (∀ q, q ≠ 21 → o q = h.1 500 q) → (mQ (cnd (gR h) (rowR h s) (h.1 508 s) (hasb (h.1 510 s)) (fun c' p' v' => p' < pl)) (h.1 503 0) o f3 f4 f5) → ((10 - pl).toNat) < fu → G 32 [(0, .ref 500), (1, vI s), (2, vI pl)] [] (hm h [(500, o), (521, pv), (508, e), (509, f), (523, f3), (524, f4), (525, f5)] [(518, fl)] []) := by
          intro fu
          induction fu with
          | zero => intro pl e f o f3 f4 f5 fl hpl hE hF hO hQ hfu; exact absurd hfu (Nat.not_lt_zero _)
          | succ fu ih_p =>
            intro pl e f o f3 f4 f5 fl hpl hE hF hO hQ hfu
            have hes : e s = h.1 508 s := hE s (by omega)
            refine A_iload_n hG 2 dX12_layMends_32 rfl rfl ?_
            refine A_aload_n hG 0 dX12_layMends_33 rfl rfl ?_
            refine A_getR (r := 508) hG dX12_layMends_34 fl_X12_28 (by decide) k500 (by decide) rfl ?_
            refine A_iload_n hG 1 dX12_layMends_37 rfl rfl ?_
            refine M_iald (v := e s) hG dX12_layMends_38 k508 n508 (by omega) rfl (fun ⟨ra_38, rb_38⟩ => ?_)
            refine A_icmp_gt hG 208 dX12_layMends_39 (by decide) (by constructor <;> omega) (by constructor <;> omega) (fun c_39 => ?_) (fun c_39 => ?_)
            ·
              exact Ret_v hM dX12_layMends_208 (⟨e, f, o, f3, f4, f5, pv, fl, ⟨mQ_sub hQ (fun c' p' v' hm => by have := hm.2; constructor; (intro _; trivial); (intro _; omega)), hE, hF, hO⟩, rfl⟩)
            ·
              have x_2 : ∀ (x : Int), ((x = 1 ∧ myQ h s pl) ∨ (x = 0 ∧ ¬ myQ h s pl)) → G 70 [(0, .ref 500), (1, vI s), (2, vI pl)] [vI x] (hm h [(500, o), (521, pv), (508, e), (509, f), (523, f3), (524, f4), (525, f5)] [(518, fl)] []) := by
                intro x hx
                refine A_istore_n (L' := [(3, vI x), (0, .ref 500), (1, vI s), (2, vI pl)]) hG dX12_layMends_70 rfl (by decide) rfl ?_
                refine A_iconst (n := 0) hG dX12_layMends_71 ?_
                refine A_istore (L' := [(4, vI 0), (3, vI x), (0, .ref 500), (1, vI s), (2, vI pl)]) hG dX12_layMends_72 (by decide) rfl ?_
                have w_3 : ∀ fu : Nat, ∀ (wd : Int) (e : Int → Int) (f : Int → Int) (o : Int → Int) (f3 : Int → Int) (f4 : Int → Int) (f5 : Int → Int) (fl : Int → Int64), (0 ≤ wd ∧ wd ≤ h.1 503 0) → (∀ q, q ≠ 9 → e q = h.1 508 q) → (∀ j, j < 90 → f j = h.1 509 j) → (∀ q, q ≠ 21 → o q = h.1 500 q) → (mQ (cnd (gR h) (rowR h s) (h.1 508 s) (hasb (h.1 510 s)) (fun c' p' v' => p' < pl ∨ (p' = pl ∧ c' ≠ 1 ∧ v' < wd))) (h.1 503 0) o f3 f4 f5) → ((20 - wd).toNat) < fu → G 74 [(0, .ref 500), (1, vI s), (2, vI pl), (3, vI x), (4, vI wd)] [] (hm h [(500, o), (521, pv), (508, e), (509, f), (523, f3), (524, f4), (525, f5)] [(518, fl)] []) := by
                  intro fu
                  induction fu with
                  | zero => intro wd e f o f3 f4 f5 fl hwd hE hF hO hQ hfu; exact absurd hfu (Nat.not_lt_zero _)
                  | succ fu ih_w =>
                    intro wd e f o f3 f4 f5 fl hwd hE hF hO hQ hfu
                    have hes : e s = h.1 508 s := hE s (by omega)
                    refine A_iload hG 4 dX12_layMends_74 rfl ?_
                    refine A_aload_n hG 0 dX12_layMends_76 rfl rfl ?_
                    refine A_getR (r := 503) hG dX12_layMends_77 fl_X12_13 (by decide) k500 (by decide) rfl ?_
                    refine A_iconst (n := 0) hG dX12_layMends_80 ?_
                    refine M_iald (v := h.1 503 0) hG dX12_layMends_81 k503 n503 (by omega) rfl (fun ⟨ra_81, rb_81⟩ => ?_)
                    refine A_icmp_ge hG 179 dX12_layMends_82 (by decide) (by constructor <;> omega) (by constructor <;> omega) (fun c_82 => ?_) (fun c_82 => ?_)
                    ·
                      refine A_iload_n hG 3 dX12_layMends_179 rfl rfl ?_
                      refine A_if_eq hG 202 dX12_layMends_180 (by decide) (by constructor <;> omega) (fun c_180 => ?_) (fun c_180 => ?_)
                      ·
                        refine A_iinc (L' := [(2, vI (pl + 1)), (0, .ref 500), (1, vI s), (3, vI x), (4, vI wd)]) hG 2 dX12_layMends_202 rfl (by decide) rfl ?_
                        refine A_goto hG 32 dX12_layMends_205 (by decide) ?_
                        refine A_sub hG [1, 2, 0] rfl ?_
                        exact ih_p (pl + 1) e f o f3 f4 f5 fl (by omega) hE hF hO (mQ_no (c := 1) (p := pl) (v := 0) hQ (fun q => hx.elim (fun r => by omega) (fun r => r.2 (may_q q (by decide)))) (fun c' p' v' hm => by have := hm.2; omega)) (by omega)
                      ·
                        have hmq : myQ h s pl := hx.elim (fun q => q.2) (fun q => by omega)
                        have hmq1 := hmq.1
                        refine A_aload_n hG 0 dX12_layMends_183 rfl rfl ?_
                        refine A_iload_n hG 1 dX12_layMends_184 rfl rfl ?_
                        refine A_iload_n hG 2 dX12_layMends_185 rfl rfl ?_
                        refine A_bipush (n := -4) hG dX12_layMends_186 (by decide) ?_
                        refine A_iconst (n := 0) hG dX12_layMends_188 ?_
                        refine C_Vv (as := [vI s, vI pl, vI (-4), vI 0]) (st := []) (k := 500) (c := 11) hG dX12_layMends_189 ml_X12_194 mf_X12_layTried mi_X12_layTried se_X12_layTried rfl (by decide) k500 (r_layTried (hm h [(500, o), (521, pv), (508, e), (509, f), (523, f3), (524, f4), (525, f5)] [(518, fl)] []) (s := s) (p := pl) (u := (-4)) (mo := 0) (c := 1) (v := 0) (by omega) (show 0 ≤ e s ∧ e s ≤ 8 by omega) (show 0 ≤ pl ∧ pl ≤ e s by omega) (show (1 = 0 ∧ (-4) = 0 ∧ 0 ≤ 0 ∧ 0 < 16 ∧ 0 = 0 ∧ pl < e s) ∨ (1 = 1 ∧ (-4) = -4 ∧ 0 = 0 ∧ pl < e s) ∨ (1 = 2 ∧ (-4) = 0 ∧ 0 ≤ 0 ∧ 0 < 16 ∧ 0 = 1 ∧ e s < 8) by omega)) (by decide) (by decide) rfl rfl (Nat.le_of_ble_eq_true rfl) (fun g189 hp_189 => ?_)
                        have hq_189 : ∃ ex fx : Int → Int, (ex 9 = lenC (e s) 1 ∧ (∀ q, q ≠ 9 → ex q = e q) ∧ (∀ j, j < 90 → fx j = f j) ∧ ∀ j, 0 ≤ j → j < ex 9 → fx (90 + j) = rowC (fun i => f (10 * s + i)) 1 pl 0 j) ∧ g189 = hm (hm h [(500, o), (521, pv), (508, e), (509, f), (523, f3), (524, f4), (525, f5)] [(518, fl)] []) [(508, ex), (509, fx)] [] [] := hp_189
                        obtain ⟨e189, f189, ⟨tl189, te189, tf189, tr189⟩, rfl⟩ := hq_189
                        refine A_hm (la := [(500, o), (521, pv), (508, e189), (509, f189), (523, f3), (524, f4), (525, f5)]) (lb := [(518, fl)]) (lc := []) rfl rfl rfl ?_
                        refine A_aload_n hG 0 dX12_layMends_192 rfl rfl ?_
                        refine A_aload_n hG 0 dX12_layMends_193 rfl rfl ?_
                        refine A_getR (r := 521) hG dX12_layMends_194 fl_X12_59 (by decide) k500 (by decide) rfl ?_
                        refine A_iconst (n := 3) hG dX12_layMends_197 ?_
                        refine M_iald (v := pv 3) hG dX12_layMends_198 k521 n521 (by omega) rfl (fun ⟨ra_198, rb_198⟩ => ?_)
                        obtain ⟨ms, hC, hT⟩ := hQ
                        have hl9 : e189 9 = lenC (h.1 508 s) 1 := by rw [tl189, hes]
                        have hr9 : ∀ j, 0 ≤ j → j < e189 9 → f189 (90 + j) = rowC (rowR h s) 1 pl 0 j := fun j j0 j1 => (tr189 j j0 j1).trans (rowC_congr (n := h.1 508 s) (fun i i0 i1 => by rw [rowR_in ⟨i0, i1⟩]; exact hF _ (by omega)) (by omega) (by omega) j j0 (by rw [← hl9]; exact j1))
                        have hw9 : ∀ j, 0 ≤ j → j < e189 9 → rowR (hm h [(500, o), (521, pv), (508, e189), (509, f189), (523, f3), (524, f4), (525, f5)] [(518, fl)] []) 9 j = rowC (rowR h s) 1 pl 0 j := fun j j0 j1 => (rowR_in (h := hm h [(500, o), (521, pv), (508, e189), (509, f189), (523, f3), (524, f4), (525, f5)] [(518, fl)] []) (s := 9) ⟨j0, j1⟩).trans (hr9 j j0 j1)
                        have hmay : (mayC (gR h) (rowR h s) (h.1 508 s) (hasb (h.1 510 s)) 1 pl 0 ∧ 2 ≤ h.1 508 s) ∨ (¬ mayC (gR h) (rowR h s) (h.1 508 s) (hasb (h.1 510 s)) 1 pl 0 ∧ h.1 508 s = 1) := by
                            rcases (show 2 ≤ h.1 508 s ∨ h.1 508 s = 1 by omega) with q | q
                            · exact Or.inl ⟨⟨by omega, Or.inr (Or.inl ⟨rfl, hmq.1, hmq.2, rfl, q⟩)⟩, q⟩
                            · exact Or.inr ⟨fun r => by have := r.2; omega, q⟩
                        have hlc : lenC (h.1 508 s) 1 = h.1 508 s - 1 := rfl
                        have hk9 : okW (gR h) (rowR (hm h [(500, o), (521, pv), (508, e189), (509, f189), (523, f3), (524, f4), (525, f5)] [(518, fl)] []) 9) (e189 9) := tried_ok (q := hasb (h.1 510 s)) (c := 1) (p := pl) (v := 0) hG0 hW0 (hmay.imp (fun q => q.1) (fun q => by omega)) hl9 hw9
                        refine C_Vv (as := [vI (pv 3)]) (st := []) (k := 500) (c := 11) hG dX12_layMends_199 ml_X12_198 mf_X12_tryRow mi_X12_tryRow se_X12_tryRow rfl (by decide) k500 (r_tryRow (hm h [(500, o), (521, pv), (508, e189), (509, f189), (523, f3), (524, f4), (525, f5)] [(518, fl)] []) (p := (pv 3)) (C := cnd (gR h) (rowR h s) (h.1 508 s) (hasb (h.1 510 s)) (fun c' p' v' => p' < pl ∨ (p' = pl ∧ c' ≠ 1 ∧ v' < wd))) (ms := ms) hp3 hG0 hk9 hC hT) (by decide) (by decide) rfl rfl (Nat.le_of_ble_eq_true rfl) (fun g199 hp_199 => ?_)
                        have hq_199 : ∃ (nx : Int) (fx3 fx4 fx5 msx ex : Int → Int) (fx : Int → Int64), (topk (fun y => cnd (gR h) (rowR h s) (h.1 508 s) (hasb (h.1 510 s)) (fun c' p' v' => p' < pl ∨ (p' = pl ∧ c' ≠ 1 ∧ v' < wd)) y ∨ (READ (gR h) (hasb 0) (rowR (hm h [(500, o), (521, pv), (508, e189), (509, f189), (523, f3), (524, f4), (525, f5)] [(518, fl)] []) 9) (e189 9) ∧ 1 ≤ e189 9 ∧ y = (kK (pv 3) (e189 9) (fun i => f189 (90 + i))))) nx msx ∧ mT (h.1 503 0) nx fx3 fx4 fx5 msx ∧ ex 21 = nx ∧ ∀ q, q ≠ 21 → ex q = o q) ∧ g199 = hm (hm h [(500, o), (521, pv), (508, e189), (509, f189), (523, f3), (524, f4), (525, f5)] [(518, fl)] []) [(523, fx3), (524, fx4), (525, fx5), (500, ex)] [(518, fx)] [] := hp_199
                        obtain ⟨many199, f3x199, f4x199, f5x199, ms199, o199, fl199, ⟨hC199, hT199, ho199, hO199⟩, rfl⟩ := hq_199
                        have hQ199 : mQ (cnd (gR h) (rowR h s) (h.1 508 s) (hasb (h.1 510 s)) (fun c' p' v' => p' < pl + 1)) (h.1 503 0) o199 f3x199 f4x199 f5x199 := ⟨ms199, by rw [ho199]; exact tried_set hC199 hl9 hw9 hr9 (hmay.imp (fun q => ⟨q.1, (hpv 3 (by omega) (by omega)).trans (gR_p (by omega)).symm, by omega⟩) (fun q => ⟨q.1, by omega⟩)) (fun c' p' v' hm => by have := hm.2; omega), by rw [ho199]; exact hT199⟩
                        have hO199' : ∀ q, q ≠ 21 → o199 q = h.1 500 q := fun q hq => (hO199 q hq).trans (hO q hq)
                        refine A_hm (la := [(500, o199), (521, pv), (508, e189), (509, f189), (523, f3x199), (524, f4x199), (525, f5x199)]) (lb := [(518, fl199)]) (lc := []) rfl rfl rfl ?_
                        refine A_iinc (L' := [(2, vI (pl + 1)), (0, .ref 500), (1, vI s), (3, vI x), (4, vI wd)]) hG 2 dX12_layMends_202 rfl (by decide) rfl ?_
                        refine A_goto hG 32 dX12_layMends_205 (by decide) ?_
                        refine A_sub hG [1, 2, 0] rfl ?_
                        exact ih_p (pl + 1) e189 f189 o199 f3x199 f4x199 f5x199 fl199 (by omega) (fun q hq => (te189 q hq).trans (hE q hq)) (fun j hj => (tf189 j hj).trans (hF j hj)) hO199' hQ199 (by omega)
                    ·
                      refine A_aload_n hG 0 dX12_layMends_85 rfl rfl ?_
                      refine A_getR (r := 509) hG dX12_layMends_86 fl_X12_31 (by decide) k500 (by decide) rfl ?_
                      refine A_bipush (n := 10) hG dX12_layMends_89 (by decide) ?_
                      refine A_iload_n hG 1 dX12_layMends_91 rfl rfl ?_
                      refine A_imul hG dX12_layMends_92 ?_
                      refine A_iload_n hG 2 dX12_layMends_93 rfl rfl ?_
                      refine A_iadd hG dX12_layMends_94 ?_
                      refine M_iald (v := f ((10 * s) + pl)) hG dX12_layMends_95 k509 n509 (by omega) rfl (fun ⟨ra_95, rb_95⟩ => ?_)
                      refine A_istore (L' := [(5, vI (f ((10 * s) + pl))), (0, .ref 500), (1, vI s), (2, vI pl), (3, vI x), (4, vI wd)]) hG dX12_layMends_96 (by decide) rfl ?_
                      have m_6 : ∀ (e : Int → Int) (f : Int → Int) (o : Int → Int) (f3 : Int → Int) (f4 : Int → Int) (f5 : Int → Int) (fl : Int → Int64), (∀ q, q ≠ 9 → e q = h.1 508 q) → (∀ j, j < 90 → f j = h.1 509 j) → (∀ q, q ≠ 21 → o q = h.1 500 q) → (mQ (cnd (gR h) (rowR h s) (h.1 508 s) (hasb (h.1 510 s)) (fun c' p' v' => p' < pl ∨ (p' = pl ∧ ((c' ≠ 1 ∧ v' < wd) ∨ (c' = 0 ∧ v' = wd))))) (h.1 503 0) o f3 f4 f5) → G 143 [(0, .ref 500), (1, vI s), (2, vI pl), (3, vI x), (4, vI wd)] [] (hm h [(500, o), (521, pv), (508, e), (509, f), (523, f3), (524, f4), (525, f5)] [(518, fl)] []) := by
                        intro e f o f3 f4 f5 fl hE hF hO hQ
                        have hes : e s = h.1 508 s := hE s (by omega)
                        refine A_aload_n hG 0 dX12_layMends_143 rfl rfl ?_
                        refine A_getR (r := 508) hG dX12_layMends_144 fl_X12_28 (by decide) k500 (by decide) rfl ?_
                        refine A_iload_n hG 1 dX12_layMends_147 rfl rfl ?_
                        refine M_iald (v := e s) hG dX12_layMends_148 k508 n508 (by omega) rfl (fun ⟨ra_148, rb_148⟩ => ?_)
                        refine A_bipush (n := 8) hG dX12_layMends_149 (by decide) ?_
                        refine A_icmp_ge hG 173 dX12_layMends_151 (by decide) (by constructor <;> omega) (by constructor <;> omega) (fun c_151 => ?_) (fun c_151 => ?_)
                        ·
                          have n_7 : ∀ (e : Int → Int) (f : Int → Int) (o : Int → Int) (f3 : Int → Int) (f4 : Int → Int) (f5 : Int → Int) (fl : Int → Int64), (∀ q, q ≠ 9 → e q = h.1 508 q) → (∀ j, j < 90 → f j = h.1 509 j) → (∀ q, q ≠ 21 → o q = h.1 500 q) → (mQ (cnd (gR h) (rowR h s) (h.1 508 s) (hasb (h.1 510 s)) (fun c' p' v' => p' < pl ∨ (p' = pl ∧ c' ≠ 1 ∧ v' < wd + 1))) (h.1 503 0) o f3 f4 f5) → G 173 [(0, .ref 500), (1, vI s), (2, vI pl), (3, vI x), (4, vI wd)] [] (hm h [(500, o), (521, pv), (508, e), (509, f), (523, f3), (524, f4), (525, f5)] [(518, fl)] []) := by
                            intro e f o f3 f4 f5 fl hE hF hO hQ
                            refine A_iinc (L' := [(4, vI (wd + 1)), (0, .ref 500), (1, vI s), (2, vI pl), (3, vI x)]) hG 4 dX12_layMends_173 rfl (by decide) rfl ?_
                            refine A_goto hG 74 dX12_layMends_176 (by decide) ?_
                            refine A_sub hG [1, 2, 3, 4, 0] rfl ?_
                            exact ih_w (wd + 1) e f o f3 f4 f5 fl (by omega) hE hF hO hQ (by omega)
                          refine A_sub hG [0, 1, 2, 3, 4] rfl ?_
                          exact n_7 e f o f3 f4 f5 fl hE hF hO (mQ_no (c := 2) (p := pl) (v := wd) hQ (fun q => by have := q.2; omega) (fun c' p' v' hm => by have := hm.2; omega))
                        ·
                          refine A_aload_n hG 0 dX12_layMends_154 rfl rfl ?_
                          refine A_iload_n hG 1 dX12_layMends_155 rfl rfl ?_
                          refine A_iload_n hG 2 dX12_layMends_156 rfl rfl ?_
                          refine A_iload hG 4 dX12_layMends_157 rfl ?_
                          refine A_iconst (n := 1) hG dX12_layMends_159 ?_
                          refine C_Vv (as := [vI s, vI pl, vI wd, vI 1]) (st := []) (k := 500) (c := 11) hG dX12_layMends_160 ml_X12_194 mf_X12_layTried mi_X12_layTried se_X12_layTried rfl (by decide) k500 (r_layTried (hm h [(500, o), (521, pv), (508, e), (509, f), (523, f3), (524, f4), (525, f5)] [(518, fl)] []) (s := s) (p := pl) (u := wd) (mo := 1) (c := 2) (v := wd) (by omega) (show 0 ≤ e s ∧ e s ≤ 8 by omega) (show 0 ≤ pl ∧ pl ≤ e s by omega) (show (2 = 0 ∧ wd = wd ∧ 0 ≤ wd ∧ wd < 16 ∧ 1 = 0 ∧ pl < e s) ∨ (2 = 1 ∧ wd = -4 ∧ 1 = 0 ∧ pl < e s) ∨ (2 = 2 ∧ wd = wd ∧ 0 ≤ wd ∧ wd < 16 ∧ 1 = 1 ∧ e s < 8) by omega)) (by decide) (by decide) rfl rfl (Nat.le_of_ble_eq_true rfl) (fun g160 hp_160 => ?_)
                          have hq_160 : ∃ ex fx : Int → Int, (ex 9 = lenC (e s) 2 ∧ (∀ q, q ≠ 9 → ex q = e q) ∧ (∀ j, j < 90 → fx j = f j) ∧ ∀ j, 0 ≤ j → j < ex 9 → fx (90 + j) = rowC (fun i => f (10 * s + i)) 2 pl wd j) ∧ g160 = hm (hm h [(500, o), (521, pv), (508, e), (509, f), (523, f3), (524, f4), (525, f5)] [(518, fl)] []) [(508, ex), (509, fx)] [] [] := hp_160
                          obtain ⟨e160, f160, ⟨tl160, te160, tf160, tr160⟩, rfl⟩ := hq_160
                          refine A_hm (la := [(500, o), (521, pv), (508, e160), (509, f160), (523, f3), (524, f4), (525, f5)]) (lb := [(518, fl)]) (lc := []) rfl rfl rfl ?_
                          refine A_aload_n hG 0 dX12_layMends_163 rfl rfl ?_
                          refine A_aload_n hG 0 dX12_layMends_164 rfl rfl ?_
                          refine A_getR (r := 521) hG dX12_layMends_165 fl_X12_59 (by decide) k500 (by decide) rfl ?_
                          refine A_iconst (n := 4) hG dX12_layMends_168 ?_
                          refine M_iald (v := pv 4) hG dX12_layMends_169 k521 n521 (by omega) rfl (fun ⟨ra_169, rb_169⟩ => ?_)
                          obtain ⟨ms, hC, hT⟩ := hQ
                          have hl9 : e160 9 = lenC (h.1 508 s) 2 := by rw [tl160, hes]
                          have hr9 : ∀ j, 0 ≤ j → j < e160 9 → f160 (90 + j) = rowC (rowR h s) 2 pl wd j := fun j j0 j1 => (tr160 j j0 j1).trans (rowC_congr (n := h.1 508 s) (fun i i0 i1 => by rw [rowR_in ⟨i0, i1⟩]; exact hF _ (by omega)) (by omega) (by omega) j j0 (by rw [← hl9]; exact j1))
                          have hw9 : ∀ j, 0 ≤ j → j < e160 9 → rowR (hm h [(500, o), (521, pv), (508, e160), (509, f160), (523, f3), (524, f4), (525, f5)] [(518, fl)] []) 9 j = rowC (rowR h s) 2 pl wd j := fun j j0 j1 => (rowR_in (h := hm h [(500, o), (521, pv), (508, e160), (509, f160), (523, f3), (524, f4), (525, f5)] [(518, fl)] []) (s := 9) ⟨j0, j1⟩).trans (hr9 j j0 j1)
                          have hmay : mayC (gR h) (rowR h s) (h.1 508 s) (hasb (h.1 510 s)) 2 pl wd := ⟨by omega, Or.inr (Or.inr ⟨rfl, by omega, by omega, by rw [(gR_n h).1]; omega, by omega⟩)⟩
                          have hk9 : okW (gR h) (rowR (hm h [(500, o), (521, pv), (508, e160), (509, f160), (523, f3), (524, f4), (525, f5)] [(518, fl)] []) 9) (e160 9) := tried_ok (q := hasb (h.1 510 s)) (c := 2) (p := pl) (v := wd) hG0 hW0 (Or.inl hmay) hl9 hw9
                          refine C_Vv (as := [vI (pv 4)]) (st := []) (k := 500) (c := 11) hG dX12_layMends_170 ml_X12_198 mf_X12_tryRow mi_X12_tryRow se_X12_tryRow rfl (by decide) k500 (r_tryRow (hm h [(500, o), (521, pv), (508, e160), (509, f160), (523, f3), (524, f4), (525, f5)] [(518, fl)] []) (p := (pv 4)) (C := cnd (gR h) (rowR h s) (h.1 508 s) (hasb (h.1 510 s)) (fun c' p' v' => p' < pl ∨ (p' = pl ∧ ((c' ≠ 1 ∧ v' < wd) ∨ (c' = 0 ∧ v' = wd))))) (ms := ms) hp4 hG0 hk9 hC hT) (by decide) (by decide) rfl rfl (Nat.le_of_ble_eq_true rfl) (fun g170 hp_170 => ?_)
                          have hq_170 : ∃ (nx : Int) (fx3 fx4 fx5 msx ex : Int → Int) (fx : Int → Int64), (topk (fun y => cnd (gR h) (rowR h s) (h.1 508 s) (hasb (h.1 510 s)) (fun c' p' v' => p' < pl ∨ (p' = pl ∧ ((c' ≠ 1 ∧ v' < wd) ∨ (c' = 0 ∧ v' = wd)))) y ∨ (READ (gR h) (hasb 0) (rowR (hm h [(500, o), (521, pv), (508, e160), (509, f160), (523, f3), (524, f4), (525, f5)] [(518, fl)] []) 9) (e160 9) ∧ 1 ≤ e160 9 ∧ y = (kK (pv 4) (e160 9) (fun i => f160 (90 + i))))) nx msx ∧ mT (h.1 503 0) nx fx3 fx4 fx5 msx ∧ ex 21 = nx ∧ ∀ q, q ≠ 21 → ex q = o q) ∧ g170 = hm (hm h [(500, o), (521, pv), (508, e160), (509, f160), (523, f3), (524, f4), (525, f5)] [(518, fl)] []) [(523, fx3), (524, fx4), (525, fx5), (500, ex)] [(518, fx)] [] := hp_170
                          obtain ⟨many170, f3x170, f4x170, f5x170, ms170, o170, fl170, ⟨hC170, hT170, ho170, hO170⟩, rfl⟩ := hq_170
                          have hQ170 : mQ (cnd (gR h) (rowR h s) (h.1 508 s) (hasb (h.1 510 s)) (fun c' p' v' => p' < pl ∨ (p' = pl ∧ c' ≠ 1 ∧ v' < wd + 1))) (h.1 503 0) o170 f3x170 f4x170 f5x170 := ⟨ms170, by rw [ho170]; exact tried_set hC170 hl9 hw9 hr9 (Or.inl ⟨hmay, (hpv 4 (by omega) (by omega)).trans (gR_p (by omega)).symm, (okW_C hW0 hmay hG0).2.1⟩) (fun c' p' v' hm => by have := hm.2; omega), by rw [ho170]; exact hT170⟩
                          have hO170' : ∀ q, q ≠ 21 → o170 q = h.1 500 q := fun q hq => (hO170 q hq).trans (hO q hq)
                          refine A_hm (la := [(500, o170), (521, pv), (508, e160), (509, f160), (523, f3x170), (524, f4x170), (525, f5x170)]) (lb := [(518, fl170)]) (lc := []) rfl rfl rfl ?_
                          have n_10 : ∀ (e : Int → Int) (f : Int → Int) (o : Int → Int) (f3 : Int → Int) (f4 : Int → Int) (f5 : Int → Int) (fl : Int → Int64), (∀ q, q ≠ 9 → e q = h.1 508 q) → (∀ j, j < 90 → f j = h.1 509 j) → (∀ q, q ≠ 21 → o q = h.1 500 q) → (mQ (cnd (gR h) (rowR h s) (h.1 508 s) (hasb (h.1 510 s)) (fun c' p' v' => p' < pl ∨ (p' = pl ∧ c' ≠ 1 ∧ v' < wd + 1))) (h.1 503 0) o f3 f4 f5) → G 173 [(0, .ref 500), (1, vI s), (2, vI pl), (3, vI x), (4, vI wd)] [] (hm h [(500, o), (521, pv), (508, e), (509, f), (523, f3), (524, f4), (525, f5)] [(518, fl)] []) := by
                            intro e f o f3 f4 f5 fl hE hF hO hQ
                            refine A_iinc (L' := [(4, vI (wd + 1)), (0, .ref 500), (1, vI s), (2, vI pl), (3, vI x)]) hG 4 dX12_layMends_173 rfl (by decide) rfl ?_
                            refine A_goto hG 74 dX12_layMends_176 (by decide) ?_
                            refine A_sub hG [1, 2, 3, 4, 0] rfl ?_
                            exact ih_w (wd + 1) e f o f3 f4 f5 fl (by omega) hE hF hO hQ (by omega)
                          refine A_sub hG [0, 1, 2, 3, 4] rfl ?_
                          exact n_10 e160 f160 o170 f3x170 f4x170 f5x170 fl170 (fun q hq => (te160 q hq).trans (hE q hq)) (fun j hj => (tf160 j hj).trans (hF j hj)) hO170' hQ170
                      refine A_iload_n hG 4 dX12_layMends_98 rfl rfl ?_
                      refine A_if_eq hG 143 dX12_layMends_99 (by decide) (by constructor <;> omega) (fun c_99 => ?_) (fun c_99 => ?_)
                      ·
                        refine A_sub hG [1, 2, 3, 4, 5] rfl ?_
                        exact m_6 e f o f3 f4 f5 fl hE hF hO (mQ_no (c := 0) (p := pl) (v := wd) hQ (fun q => hx.elim (fun r => by omega) (fun r => r.2 (may_q q (by decide)))) (fun c' p' v' hm => by have := hm.2; omega))
                      ·
                        refine A_iload hG 5 dX12_layMends_102 rfl ?_
                        refine A_iload hG 0 dX12_layMends_104 rfl ?_
                        refine A_icmp_eq hG 143 dX12_layMends_106 (by decide) (by constructor <;> omega) (by constructor <;> omega) (fun c_106 => ?_) (fun c_106 => ?_)
                        ·
                          refine A_sub hG [1, 2, 3, 4, 5] rfl ?_
                          exact m_6 e f o f3 f4 f5 fl hE hF hO (mQ_no (c := 0) (p := pl) (v := wd) hQ (fun q => by have e := rowR_in (h := h) (s := s) (i := pl) (by have := q.2; omega); have := hF (10 * s + pl) (by omega); have := q.2; omega) (fun c' p' v' hm => by have := hm.2; omega))
                        ·
                          have hmq : myQ h s pl := hx.elim (fun q => q.2) (fun q => by omega)
                          have hmq1 := hmq.1
                          have hown0 : f (10 * s + pl) = h.1 509 (10 * s + pl) := hF _ (by omega)
                          have hown : rowR h s pl = f (10 * s + pl) := (rowR_in ⟨by omega, hmq1⟩).trans hown0.symm
                          have hwo := hW0.2 pl (by omega) hmq1
                          rw [hown, (gR_n h).1] at hwo
                          refine A_aload_n hG 1 dX12_layMends_109 rfl rfl ?_
                          refine A_iload hG 0 dX12_layMends_110 rfl ?_
                          refine A_iload hG 5 dX12_layMends_112 rfl ?_
                          refine C_Vi (as := [vI (f ((10 * s) + pl)), vI wd]) (st := []) (k := 500) (c := 11) hG dX12_layMends_114 ml_X12_171 mf_X12_changes mi_X12_changes se_X12_changes rfl (by decide) k500 (r_changes (hm h [(500, o), (521, pv), (508, e), (509, f), (523, f3), (524, f4), (525, f5)] [(518, fl)] []) (u := (f ((10 * s) + pl))) (v := wd) (by omega) (by omega) hp0 hp1 hp2) (by decide) (by decide) rfl rfl (Nat.le_of_ble_eq_true rfl) (fun z114 g114 ri_114 hp_114 => ?_)
                          obtain ⟨ra_114, rb_114⟩ := ri_114
                          have hq_114 : (((f ((10 * s) + pl)) = wd ∧ z114 = 0) ∨ ((f ((10 * s) + pl)) ≠ wd ∧ (0 ≤ z114 ∧ z114 ≤ 100000) ∧ (h.1 504 (4 * (f ((10 * s) + pl)) + 2) = h.1 504 (4 * wd + 2) → z114 ≤ pv 0) ∧ (h.1 504 (4 * (f ((10 * s) + pl)) + 3) = h.1 504 (4 * wd + 3) → z114 ≤ pv 1) ∧ (h.1 504 (4 * (f ((10 * s) + pl)) + 0) = h.1 504 (4 * wd + 0) → z114 ≤ pv 2) ∧ (z114 = 100000 ∨ (h.1 504 (4 * (f ((10 * s) + pl)) + 2) = h.1 504 (4 * wd + 2) ∧ z114 = pv 0) ∨ (h.1 504 (4 * (f ((10 * s) + pl)) + 3) = h.1 504 (4 * wd + 3) ∧ z114 = pv 1) ∨ (h.1 504 (4 * (f ((10 * s) + pl)) + 0) = h.1 504 (4 * wd + 0) ∧ z114 = pv 2)))) ∧ g114 = hm h [(500, o), (521, pv), (508, e), (509, f), (523, f3), (524, f4), (525, f5)] [(518, fl)] [] := hp_114
                          obtain ⟨hz114, rfl⟩ := hq_114
                          have hcg := chg_swp (u := f (10 * s + pl)) (v := wd) hG0 hwo (by omega) hpv (fun q => c_106 q.symm) hz114
                          refine A_ldc (n := 100000) hG dX12_layMends_117 kc_X12_166 ?_
                          refine A_icmp_ge hG 143 dX12_layMends_119 (by decide) (by constructor <;> omega) (by constructor <;> omega) (fun c_119 => ?_) (fun c_119 => ?_)
                          ·
                            refine A_sub hG [1, 2, 3, 4, 5] rfl ?_
                            exact m_6 e f o f3 f4 f5 fl hE hF hO (mQ_no (c := 0) (p := pl) (v := wd) hQ (fun q => by have e := q.2; rw [hown] at e; omega) (fun c' p' v' hm => by have := hm.2; omega))
                          ·
                            have hsw : swpP (gR h) (gR h 9) (f (10 * s + pl)) wd < 100 := hcg.elim (fun q => q.2.2) (fun q => by omega)
                            refine A_aload_n hG 1 dX12_layMends_122 rfl rfl ?_
                            refine A_iload_n hG 2 dX12_layMends_123 rfl rfl ?_
                            refine A_iload_n hG 3 dX12_layMends_124 rfl rfl ?_
                            refine A_iload hG 5 dX12_layMends_125 rfl ?_
                            refine A_iconst (n := 0) hG dX12_layMends_127 ?_
                            refine C_Vv (as := [vI s, vI pl, vI wd, vI 0]) (st := []) (k := 500) (c := 11) hG dX12_layMends_128 ml_X12_194 mf_X12_layTried mi_X12_layTried se_X12_layTried rfl (by decide) k500 (r_layTried (hm h [(500, o), (521, pv), (508, e), (509, f), (523, f3), (524, f4), (525, f5)] [(518, fl)] []) (s := s) (p := pl) (u := wd) (mo := 0) (c := 0) (v := wd) (by omega) (show 0 ≤ e s ∧ e s ≤ 8 by omega) (show 0 ≤ pl ∧ pl ≤ e s by omega) (show (0 = 0 ∧ wd = wd ∧ 0 ≤ wd ∧ wd < 16 ∧ 0 = 0 ∧ pl < e s) ∨ (0 = 1 ∧ wd = -4 ∧ 0 = 0 ∧ pl < e s) ∨ (0 = 2 ∧ wd = wd ∧ 0 ≤ wd ∧ wd < 16 ∧ 0 = 1 ∧ e s < 8) by omega)) (by decide) (by decide) rfl rfl (Nat.le_of_ble_eq_true rfl) (fun g128 hp_128 => ?_)
                            have hq_128 : ∃ ex fx : Int → Int, (ex 9 = lenC (e s) 0 ∧ (∀ q, q ≠ 9 → ex q = e q) ∧ (∀ j, j < 90 → fx j = f j) ∧ ∀ j, 0 ≤ j → j < ex 9 → fx (90 + j) = rowC (fun i => f (10 * s + i)) 0 pl wd j) ∧ g128 = hm (hm h [(500, o), (521, pv), (508, e), (509, f), (523, f3), (524, f4), (525, f5)] [(518, fl)] []) [(508, ex), (509, fx)] [] [] := hp_128
                            obtain ⟨e128, f128, ⟨tl128, te128, tf128, tr128⟩, rfl⟩ := hq_128
                            refine A_hm (la := [(500, o), (521, pv), (508, e128), (509, f128), (523, f3), (524, f4), (525, f5)]) (lb := [(518, fl)]) (lc := []) rfl rfl rfl ?_
                            refine A_aload_n hG 1 dX12_layMends_131 rfl rfl ?_
                            refine A_aload_n hG 1 dX12_layMends_132 rfl rfl ?_
                            refine A_iload hG 0 dX12_layMends_133 rfl ?_
                            refine A_iload hG 5 dX12_layMends_135 rfl ?_
                            refine C_Vi (as := [vI (f ((10 * s) + pl)), vI wd]) (st := [.ref 500]) (k := 500) (c := 11) hG dX12_layMends_137 ml_X12_171 mf_X12_changes mi_X12_changes se_X12_changes rfl (by decide) k500 (r_changes (hm h [(500, o), (521, pv), (508, e128), (509, f128), (523, f3), (524, f4), (525, f5)] [(518, fl)] []) (u := (f ((10 * s) + pl))) (v := wd) (by omega) (by omega) hp0 hp1 hp2) (by decide) (by decide) rfl rfl (Nat.le_of_ble_eq_true rfl) (fun z137 g137 ri_137 hp_137 => ?_)
                            obtain ⟨ra_137, rb_137⟩ := ri_137
                            have hq_137 : (((f ((10 * s) + pl)) = wd ∧ z137 = 0) ∨ ((f ((10 * s) + pl)) ≠ wd ∧ (0 ≤ z137 ∧ z137 ≤ 100000) ∧ (h.1 504 (4 * (f ((10 * s) + pl)) + 2) = h.1 504 (4 * wd + 2) → z137 ≤ pv 0) ∧ (h.1 504 (4 * (f ((10 * s) + pl)) + 3) = h.1 504 (4 * wd + 3) → z137 ≤ pv 1) ∧ (h.1 504 (4 * (f ((10 * s) + pl)) + 0) = h.1 504 (4 * wd + 0) → z137 ≤ pv 2) ∧ (z137 = 100000 ∨ (h.1 504 (4 * (f ((10 * s) + pl)) + 2) = h.1 504 (4 * wd + 2) ∧ z137 = pv 0) ∨ (h.1 504 (4 * (f ((10 * s) + pl)) + 3) = h.1 504 (4 * wd + 3) ∧ z137 = pv 1) ∨ (h.1 504 (4 * (f ((10 * s) + pl)) + 0) = h.1 504 (4 * wd + 0) ∧ z137 = pv 2)))) ∧ g137 = hm h [(500, o), (521, pv), (508, e128), (509, f128), (523, f3), (524, f4), (525, f5)] [(518, fl)] [] := hp_137
                            obtain ⟨hz137, rfl⟩ := hq_137
                            have hcg2 := chg_swp (u := f (10 * s + pl)) (v := wd) hG0 hwo (by omega) hpv (fun q => c_106 q.symm) hz137
                            obtain ⟨ms, hC, hT⟩ := hQ
                            have hl9 : e128 9 = lenC (h.1 508 s) 0 := by rw [tl128, hes]
                            have hr9 : ∀ j, 0 ≤ j → j < e128 9 → f128 (90 + j) = rowC (rowR h s) 0 pl wd j := fun j j0 j1 => (tr128 j j0 j1).trans (rowC_congr (n := h.1 508 s) (fun i i0 i1 => by rw [rowR_in ⟨i0, i1⟩]; exact hF _ (by omega)) (by omega) (by omega) j j0 (by rw [← hl9]; exact j1))
                            have hw9 : ∀ j, 0 ≤ j → j < e128 9 → rowR (hm h [(500, o), (521, pv), (508, e128), (509, f128), (523, f3), (524, f4), (525, f5)] [(518, fl)] []) 9 j = rowC (rowR h s) 0 pl wd j := fun j j0 j1 => (rowR_in (h := hm h [(500, o), (521, pv), (508, e128), (509, f128), (523, f3), (524, f4), (525, f5)] [(518, fl)] []) (s := 9) ⟨j0, j1⟩).trans (hr9 j j0 j1)
                            have hmay : mayC (gR h) (rowR h s) (h.1 508 s) (hasb (h.1 510 s)) 0 pl wd := ⟨by omega, Or.inl ⟨rfl, hmq.1, hmq.2, by omega, by rw [(gR_n h).1]; omega, by rw [hown]; omega, by rw [hown]; omega⟩⟩
                            have hk9 : okW (gR h) (rowR (hm h [(500, o), (521, pv), (508, e128), (509, f128), (523, f3), (524, f4), (525, f5)] [(518, fl)] []) 9) (e128 9) := tried_ok (q := hasb (h.1 510 s)) (c := 0) (p := pl) (v := wd) hG0 hW0 (Or.inl hmay) hl9 hw9
                            refine C_Vv (as := [vI z137]) (st := []) (k := 500) (c := 11) hG dX12_layMends_140 ml_X12_198 mf_X12_tryRow mi_X12_tryRow se_X12_tryRow rfl (by decide) k500 (r_tryRow (hm h [(500, o), (521, pv), (508, e128), (509, f128), (523, f3), (524, f4), (525, f5)] [(518, fl)] []) (p := z137) (C := cnd (gR h) (rowR h s) (h.1 508 s) (hasb (h.1 510 s)) (fun c' p' v' => p' < pl ∨ (p' = pl ∧ c' ≠ 1 ∧ v' < wd))) (ms := ms) (by omega) hG0 hk9 hC hT) (by decide) (by decide) rfl rfl (Nat.le_of_ble_eq_true rfl) (fun g140 hp_140 => ?_)
                            have hq_140 : ∃ (nx : Int) (fx3 fx4 fx5 msx ex : Int → Int) (fx : Int → Int64), (topk (fun y => cnd (gR h) (rowR h s) (h.1 508 s) (hasb (h.1 510 s)) (fun c' p' v' => p' < pl ∨ (p' = pl ∧ c' ≠ 1 ∧ v' < wd)) y ∨ (READ (gR h) (hasb 0) (rowR (hm h [(500, o), (521, pv), (508, e128), (509, f128), (523, f3), (524, f4), (525, f5)] [(518, fl)] []) 9) (e128 9) ∧ 1 ≤ e128 9 ∧ y = (kK z137 (e128 9) (fun i => f128 (90 + i))))) nx msx ∧ mT (h.1 503 0) nx fx3 fx4 fx5 msx ∧ ex 21 = nx ∧ ∀ q, q ≠ 21 → ex q = o q) ∧ g140 = hm (hm h [(500, o), (521, pv), (508, e128), (509, f128), (523, f3), (524, f4), (525, f5)] [(518, fl)] []) [(523, fx3), (524, fx4), (525, fx5), (500, ex)] [(518, fx)] [] := hp_140
                            obtain ⟨many140, f3x140, f4x140, f5x140, ms140, o140, fl140, ⟨hC140, hT140, ho140, hO140⟩, rfl⟩ := hq_140
                            have hQ140 : mQ (cnd (gR h) (rowR h s) (h.1 508 s) (hasb (h.1 510 s)) (fun c' p' v' => p' < pl ∨ (p' = pl ∧ ((c' ≠ 1 ∧ v' < wd) ∨ (c' = 0 ∧ v' = wd))))) (h.1 503 0) o140 f3x140 f4x140 f5x140 := ⟨ms140, by rw [ho140]; exact tried_set hC140 hl9 hw9 hr9 (Or.inl ⟨hmay, by show _ = swpP _ _ _ _; rw [hown]; omega, (okW_C hW0 hmay hG0).2.1⟩) (fun c' p' v' hm => by have := hm.2; omega), by rw [ho140]; exact hT140⟩
                            have hO140' : ∀ q, q ≠ 21 → o140 q = h.1 500 q := fun q hq => (hO140 q hq).trans (hO q hq)
                            refine A_hm (la := [(500, o140), (521, pv), (508, e128), (509, f128), (523, f3x140), (524, f4x140), (525, f5x140)]) (lb := [(518, fl140)]) (lc := []) rfl rfl rfl ?_
                            refine A_sub hG [1, 2, 3, 4, 5] rfl ?_
                            exact m_6 e128 f128 o140 f3x140 f4x140 f5x140 fl140 (fun q hq => (te128 q hq).trans (hE q hq)) (fun j hj => (tf128 j hj).trans (hF j hj)) hO140' hQ140
                refine A_sub hG [2, 3, 4, 1, 0] rfl ?_
                exact w_3 _ 0 e f o f3 f4 f5 fl (by omega) hE hF hO (mQ_sub hQ (fun c' p' v' hm => by have := hm.2; omega)) (Nat.lt_succ_self _)
              refine A_iload_n hG 2 dX12_layMends_42 rfl rfl ?_
              refine A_aload_n hG 0 dX12_layMends_43 rfl rfl ?_
              refine A_getR (r := 508) hG dX12_layMends_44 fl_X12_28 (by decide) k500 (by decide) rfl ?_
              refine A_iload_n hG 1 dX12_layMends_47 rfl rfl ?_
              refine M_iald (v := e s) hG dX12_layMends_48 k508 n508 (by omega) rfl (fun ⟨ra_48, rb_48⟩ => ?_)
              refine A_icmp_ge hG 69 dX12_layMends_49 (by decide) (by constructor <;> omega) (by constructor <;> omega) (fun c_49 => ?_) (fun c_49 => ?_)
              ·
                refine A_iconst (n := 0) hG dX12_layMends_69 ?_
                refine A_sub hG [0, 1, 2] rfl ?_
                exact x_2 0 (by first | exact Or.inr ⟨rfl, fun q => q.2 (has_yes hz59 c_62)⟩ | exact Or.inr ⟨rfl, fun q => by have := q.1; omega⟩)
              ·
                refine A_aload_n hG 0 dX12_layMends_52 rfl rfl ?_
                refine A_getR (r := 510) hG dX12_layMends_53 fl_X12_34 (by decide) k500 (by decide) rfl ?_
                refine A_iload_n hG 1 dX12_layMends_56 rfl rfl ?_
                refine M_iald (v := h.1 510 s) hG dX12_layMends_57 k510 n510 (by omega) rfl (fun ⟨ra_57, rb_57⟩ => ?_)
                refine A_iload_n hG 2 dX12_layMends_58 rfl rfl ?_
                refine C_Si (as := [vI (h.1 510 s), vI pl]) (st := []) hG dX12_layMends_59 ml_X12_143 mf_X12_has ms_X12_has (r_has (hm h [(500, o), (521, pv), (508, e), (509, f), (523, f3), (524, f4), (525, f5)] [(518, fl)] []) (h.1 510 s) pl) (by decide) (by decide) rfl rfl (Nat.le_of_ble_eq_true rfl) (fun z59 g59 ri_59 hp_59 => ?_)
                obtain ⟨ra_59, rb_59⟩ := ri_59
                obtain ⟨hz59, rfl⟩ := hp_59
                refine A_if_ne hG 69 dX12_layMends_62 (by decide) (by constructor <;> omega) (fun c_62 => ?_) (fun c_62 => ?_)
                ·
                  refine A_iconst (n := 0) hG dX12_layMends_69 ?_
                  refine A_sub hG [0, 1, 2] rfl ?_
                  exact x_2 0 (by first | exact Or.inr ⟨rfl, fun q => q.2 (has_yes hz59 c_62)⟩ | exact Or.inr ⟨rfl, fun q => by have := q.1; omega⟩)
                ·
                  refine A_iconst (n := 1) hG dX12_layMends_65 ?_
                  refine A_goto hG 70 dX12_layMends_66 (by decide) ?_
                  refine A_sub hG [0, 1, 2] rfl ?_
                  exact x_2 1 (Or.inl ⟨rfl, by omega, has_no hz59 c_62⟩)
        refine A_sub hG [1, 2, 0] rfl ?_
        exact p_1 _ 0 (h.1 508) (h.1 509) (up (h.1 500) 21 0) (h.1 523) (h.1 524) (h.1 525) (h.2.1 518) (by omega) (fun _ _ => rfl) (fun _ _ => rfl) (fun q hq => up_ne _ _ hq) (⟨fun _ => 0, by rw [up_eq]; exact topk_congr topk_0 (fun y => ⟨fun q => q.elim, fun ⟨c, p, v, q1, q2, _⟩ => by have := q2.1; omega⟩), by rw [up_eq]; exact fun k k0 k1 => by omega⟩) (Nat.lt_succ_self _)
      ·
        refine A_aload_n hG 0 dX12_layMends_12 rfl rfl ?_
        refine A_getR (r := 521) hG dX12_layMends_13 fl_X12_59 (by decide) k500 (by decide) rfl ?_
        refine A_iload_n hG 2 dX12_layMends_16 rfl rfl ?_
        refine A_aload_n hG 0 dX12_layMends_17 rfl rfl ?_
        refine A_getR (r := 507) hG dX12_layMends_18 fl_X12_25 (by decide) k500 (by decide) rfl ?_
        refine A_iload_n hG 2 dX12_layMends_21 rfl rfl ?_
        refine M_iald (v := h.1 507 c) hG dX12_layMends_22 k507 n507 (by omega) rfl (fun ⟨ra_22, rb_22⟩ => ?_)
        refine M_iast (li' := [(500, up (h.1 500) 21 0), (521, up pv c (h.1 507 c))]) hG dX12_layMends_23 k521 n521 (by omega) (by constructor <;> omega) rfl ?_
        refine A_iinc (L' := [(2, vI (c + 1)), (0, .ref 500), (1, vI s)]) hG 2 dX12_layMends_24 rfl (by decide) rfl ?_
        refine A_goto hG 7 dX12_layMends_27 (by decide) ?_
        refine A_sub hG [1, 2, 0] rfl ?_
        exact ih_c (c + 1) (up pv c (h.1 507 c)) (by omega) (fun j j1 j2 => by
            by_cases hj : j = c
            · rw [hj, up_eq]
            · rw [up_ne _ _ hj]; exact hpv j j1 (by omega)) (by omega)
  refine A_sub hG [1, 2, 0] rfl ?_
  exact c_0 _ 0 (h.1 521) (by omega) (fun j j1 j2 => by omega) (Nat.lt_succ_self _)

end
