/-! the reference: theirs, kept, byRule (printed by gen) -/
section
theorem hm_insL (h : AH) (k : Nat) (li : List (Nat × (Int → Int))) : hm h li [(k, h.2.1 k)] [] = hm h li [] [] := by
  have e : (fun q => alk [(k, h.2.1 k)] q (h.2.1 q)) = fun q => alk [] q (h.2.1 q) := by
    funext q
    simp only [alk]
    by_cases hq : q = k
    · subst hq; simp
    · simp [hq]
  unfold hm
  rw [e]
theorem topk_eq {C C' : Int → Prop} {n : Int} {ms : Int → Int} (h : topk C n ms) (e : C = C') : topk C' n ms := e ▸ h
theorem cnd_k {g : Gm} {W w' : Int → Int} {l l' q8 : Int} {D : Int → Int → Int → Prop} (e : ∀ i, 0 ≤ i → i < l → W i = w' i) (hl : l = l') (hq : q8 = 0) : cnd g W l (hasb q8) D = cnd g w' l' (hasb 0) D := by
  subst hl hq
  exact cnd_iff e (fun _ _ _ => Iff.rfl)
/-- one that is right, not READ, but READ if a rule need not agree -/
def brP (g : Gm) (r ls lt : Int) (ws wt : Int → Int) : Prop := kRt ls lt ws wt ∧ ¬ READ g (hasb 0) ws ls ∧ READ g (hasb (ishl 1 r)) ws ls
set_option maxHeartbeats 2000000 in
set_option maxRecDepth 20000 in
theorem r_theirs (h : AH) {k : Int} (hk : ir k) (hG0 : okG (gR h)) (hKP : okK h) (hkn : 0 ≤ h.1 500 10 ∧ h.1 500 10 ≤ 12) : AMet yX12_theirs cX12_theirs 2 (some .int) 5 126 [.ref 500, vI k] h (Qi (fun z h' => (z = -1 ∧ (k < 0 ∨ h.1 500 10 ≤ k) ∧ h' = h) ∨ (∃ e f q8 : Int → Int, ∃ fl : Int → Int64, (z = -2 ∧ (0 ≤ k ∧ k < h.1 500 10) ∧ (kRi h k ∨ READ (gR h) (hasb 0) (kS h k) (h.1 512 (2 * k))) ∧ (∀ q, q < 8 → e q = h.1 508 q) ∧ (∀ j, j < 80 → f j = h.1 509 j) ∧ (∀ q, q < 8 → q8 q = h.1 510 q)) ∧ h' = hm h [(509, f), (510, q8), (508, e)] [(518, fl)] []) ∨ (∃ e f q8 f5 f4 f3 pv o : Int → Int, ∃ fl : Int → Int64, ((0 ≤ k ∧ k < h.1 500 10) ∧ ¬ kRi h k ∧ ¬ READ (gR h) (hasb 0) (kS h k) (h.1 512 (2 * k)) ∧ kPl (gR h) (h.1 512 (2 * k)) (h.1 512 (2 * k + 1)) (kS h k) (kM h k) z ∧ ((∀ q, q < 8 → e q = h.1 508 q) ∧ (∀ j, j < 80 → f j = h.1 509 j) ∧ (∀ q, q < 8 → q8 q = h.1 510 q) ∧ (∀ q, q ≠ 21 → o q = h.1 500 q))) ∧ h' = hm h [(509, f), (510, q8), (508, e), (525, f5), (524, f4), (523, f3), (521, pv), (500, o)] [(518, fl)] []))) := by
  obtain ⟨hk1, hk2⟩ := hk
  have hnw := hG0.1
  rw [(gR_n h).1] at hnw
  refine AMet.of (by decide) (Nat.le_of_ble_eq_true rfl) (fun G hM => ?_)
  have hG := hM.cx
  refine A_hm0 (G := G) (L := [(0, .ref 500), (1, vI k)]) ?_
  refine A_iload_n hG 1 dX12_theirs_0 rfl rfl ?_
  refine A_i2l hG dX12_theirs_1 ?_
  refine A_lconst (v := i2l 0) hG dX12_theirs_2 (by decide) ?_
  refine A_aload_n hG 0 dX12_theirs_3 rfl rfl ?_
  refine M_getI (z := 10) (v := h.1 500 10) hG dX12_theirs_4 fl_X12_117 (by decide) k500 rfl rfl rfl (fun ⟨ra_4, rb_4⟩ => ?_)
  refine A_iconst (n := 1) hG dX12_theirs_7 ?_
  refine A_isub hG dX12_theirs_8 ?_
  refine A_i2l hG dX12_theirs_9 ?_
  refine C_Si (as := [.long (i2l k), .long (i2l 0), .long (i2l ((h.1 500 10) - 1))]) (st := []) hG dX12_theirs_10 ml_X12_80 mf_X12_in ms_X12_in (r_in (hm h [] [] []) (by constructor <;> omega) (by constructor <;> omega) (by constructor <;> omega)) (by decide) (by decide) rfl rfl (Nat.le_of_ble_eq_true rfl) (fun z10 g10 ri_10 hp_10 => ?_)
  obtain ⟨ra_10, rb_10⟩ := ri_10
  obtain ⟨hz10, rfl⟩ := hp_10
  refine A_if_ne hG 18 dX12_theirs_13 (by decide) (by constructor <;> omega) (fun c_13 => ?_) (fun c_13 => ?_)
  ·
    refine A_aload_n hG 0 dX12_theirs_18 rfl rfl ?_
    refine A_iload_n hG 1 dX12_theirs_19 rfl rfl ?_
    refine C_Vv (as := [vI k]) (st := []) (k := 500) (c := 11) hG dX12_theirs_20 ml_X12_224 mf_X12_look mi_X12_look se_X12_look rfl (by decide) k500 (r_look (hm h [] [] []) (k := k) (by omega)) (by decide) (by decide) rfl rfl (Nat.le_of_ble_eq_true rfl) (fun g20 hp_20 => ?_)
    have hq_20 : ∃ fx : Int → Int, ((∀ jx, 0 ≤ jx → jx < 8 → fx (80 + jx) = h.1 513 (16 * k + jx)) ∧ ∀ jx, jx < 80 ∨ 88 ≤ jx → fx jx = h.1 509 jx) ∧ g20 = hm (hm h [] [] []) [(508, up (h.1 508) 8 (h.1 512 (2 * k))), (510, up (h.1 510) 8 0), (509, fx)] [] [] := hp_20
    obtain ⟨r0, ⟨hr1, hr2⟩, rfl⟩ := hq_20
    have hWk := hKP k (by omega) (by omega)
    have hl8 : up (h.1 508) 8 (h.1 512 (2 * k)) 8 = h.1 512 (2 * k) := up_eq _ _ _
    obtain ⟨l8, hl80⟩ : ∃ l8, l8 = up (h.1 508) 8 (h.1 512 (2 * k)) := ⟨_, rfl⟩
    obtain ⟨q8, hq80⟩ : ∃ q8, q8 = up (h.1 510) 8 0 := ⟨_, rfl⟩
    rw [← hl80, ← hq80]
    rw [← hl80] at hl8
    have hl8x : ∀ q, q < 8 → l8 q = h.1 508 q := fun q hq => by rw [hl80]; exact up_ne _ _ (by omega)
    have hq8x : q8 8 = 0 ∧ ∀ q, q < 8 → q8 q = h.1 510 q := by rw [hq80]; exact ⟨up_eq _ _ _, fun q hq => up_ne _ _ (by omega)⟩
    clear hl80 hq80 hp_20
    refine A_hm (la := [(509, r0), (510, q8), (508, l8)]) (lb := []) (lc := []) rfl rfl rfl ?_
    obtain ⟨⟨hWa, hWa1⟩, hWb, hWb1⟩ := hWk
    have hWa2 := hWa.1
    have hK8 : ∀ i, 0 ≤ i → i < l8 8 → rowR (hm h [(509, r0), (510, q8), (508, l8)] [] []) 8 i = kS h k i := row8 hr1 hl8 (by omega)
    have hW8 : okW (gR h) (rowR (hm h [(509, r0), (510, q8), (508, l8)] [] []) 8) (l8 8) := by rw [hl8]; exact okW_congr hWa (fun i i0 i1 => (hK8 i i0 (by rw [hl8]; exact i1)).symm)
    have hRd8 : ∀ fs : Int → Prop, READ (gR h) fs (rowR (hm h [(509, r0), (510, q8), (508, l8)] [] []) 8) (l8 8) ↔ READ (gR h) fs (kS h k) (h.1 512 (2 * k)) := fun fs => by rw [← hl8]; exact READ_congr (fun _ _ _ => Iff.rfl) (by omega) hK8
    refine A_aload_n hG 0 dX12_theirs_23 rfl rfl ?_
    refine A_iload_n hG 1 dX12_theirs_24 rfl rfl ?_
    refine C_Vi (as := [vI k]) (st := []) (k := 500) (c := 11) hG dX12_theirs_25 ml_X12_227 mf_X12_isRight mi_X12_isRight se_X12_isRight rfl (by decide) k500 (r_isRight (hm h [(509, r0), (510, q8), (508, l8)] [] []) (k := k) (by omega) (show 0 ≤ h.1 512 (2 * k) ∧ h.1 512 (2 * k) ≤ 8 by omega)) (by decide) (by decide) rfl rfl (Nat.le_of_ble_eq_true rfl) (fun z25 g25 ri_25 hp_25 => ?_)
    obtain ⟨ra_25, rb_25⟩ := ri_25
    have hq_25 : ((z25 = 1 ∧ kRi h k) ∨ (z25 = 0 ∧ ¬ kRi h k)) ∧ g25 = hm h [(509, r0), (510, q8), (508, l8)] [] [] := hp_25
    obtain ⟨hz25, rfl⟩ := hq_25
    refine A_if_ne hG 41 dX12_theirs_28 (by decide) (by constructor <;> omega) (fun c_28 => ?_) (fun c_28 => ?_)
    ·
      refine A_bipush (n := -2) hG dX12_theirs_41 (by decide) ?_
      exact Ret_i hM dX12_theirs_43 (by constructor <;> omega) (Or.inr (Or.inl ⟨l8, r0, q8, h.2.1 518, ⟨rfl, by omega, Or.inl (hz25.resolve_right (fun q => by omega)).2, hl8x, fun j hj => hr2 j (Or.inl hj), hq8x.2⟩, (hm_insL h 518 _).symm⟩))
    ·
      refine A_aload_n hG 0 dX12_theirs_31 rfl rfl ?_
      refine A_bipush (n := 8) hG dX12_theirs_32 (by decide) ?_
      refine A_iconst (n := 0) hG dX12_theirs_34 ?_
      refine C_Vi (as := [vI 8, vI 0]) (st := []) (k := 500) (c := 11) hG dX12_theirs_35 ml_X12_185 mf_X12_isRead mi_X12_isRead se_X12_isRead rfl (by decide) k500 (r_isRead (hm h [(509, r0), (510, q8), (508, l8)] [] []) (fr := 0) (by omega) hG0 hW8) (by decide) (by decide) rfl rfl (Nat.le_of_ble_eq_true rfl) (fun z35 g35 ri_35 hp_35 => ?_)
      obtain ⟨ra_35, rb_35⟩ := ri_35
      have hq_35 : ∃ fx, ((z35 = 1 ∧ 0 < l8 8 ∧ READ (gR h) (hasb 0) (rowR (hm h [(509, r0), (510, q8), (508, l8)] [] []) 8) (l8 8)) ∨ (z35 = 0 ∧ (l8 8 = 0 ∨ ¬ READ (gR h) (hasb 0) (rowR (hm h [(509, r0), (510, q8), (508, l8)] [] []) 8) (l8 8)))) ∧ g35 = hm (hm h [(509, r0), (510, q8), (508, l8)] [] []) [] [(518, fx)] [] := hp_35
      obtain ⟨f35, hz35, rfl⟩ := hq_35
      refine A_hm (la := [(509, r0), (510, q8), (508, l8)]) (lb := [(518, f35)]) (lc := []) rfl rfl rfl ?_
      refine A_if_eq hG 44 dX12_theirs_38 (by decide) (by constructor <;> omega) (fun c_38 => ?_) (fun c_38 => ?_)
      ·
        refine A_aload_n hG 0 dX12_theirs_44 rfl rfl ?_
        refine A_bipush (n := 8) hG dX12_theirs_45 (by decide) ?_
        refine C_Vv (as := [vI 8]) (st := []) (k := 500) (c := 11) hG dX12_theirs_47 ml_X12_201 mf_X12_layMends mi_X12_layMends se_X12_layMends rfl (by decide) k500 (r_layMends (hm h [(509, r0), (510, q8), (508, l8)] [(518, f35)] []) (s := 8) (by omega) hG0 hW8 (show 1 ≤ l8 8 by omega)) (by decide) (by decide) rfl rfl (Nat.le_of_ble_eq_true rfl) (fun g47 hp_47 => ?_)
        have hq_47 : ∃ ex fx ox fx3 fx4 fx5 px : Int → Int, ∃ fx8 : Int → Int64, (mQ (cnd (gR h) (rowR (hm h [(509, r0), (510, q8), (508, l8)] [(518, f35)] []) 8) (l8 8) (hasb (q8 8)) (fun _ _ _ => True)) (h.1 503 0) ox fx3 fx4 fx5 ∧ (∀ q, q ≠ 9 → ex q = l8 q) ∧ (∀ j, j < 90 → fx j = r0 j) ∧ (∀ q, q ≠ 21 → ox q = h.1 500 q)) ∧ g47 = hm (hm h [(509, r0), (510, q8), (508, l8)] [(518, f35)] []) [(500, ox), (521, px), (508, ex), (509, fx), (523, fx3), (524, fx4), (525, fx5)] [(518, fx8)] [] := hp_47
        obtain ⟨e, f, o, f3, f4, f5, pv, fl, ⟨⟨ms, hC, hT⟩, hE, hF, hO⟩, rfl⟩ := hq_47
        have hmn := hC.1
        replace hC := topk_eq hC (cnd_k hK8 hl8 hq8x.1)
        refine A_hm (la := [(509, f), (510, q8), (508, e), (525, f5), (524, f4), (523, f3), (521, pv), (500, o)]) (lb := [(518, fl)]) (lc := []) rfl rfl rfl ?_
        refine A_aload_n hG 0 dX12_theirs_50 rfl rfl ?_
        refine A_iload_n hG 1 dX12_theirs_51 rfl rfl ?_
        refine C_Vi (as := [vI k]) (st := []) (k := 500) (c := 11) hG dX12_theirs_52 ml_X12_230 mf_X12_placeOf mi_X12_placeOf se_X12_placeOf rfl (by decide) k500 (r_placeOf (hm h [(509, f), (510, q8), (508, e), (525, f5), (524, f4), (523, f3), (521, pv), (500, o)] [(518, fl)] []) (k := k) (ms := ms) (by omega) hC hnw.2 hT) (by decide) (by decide) rfl rfl (Nat.le_of_ble_eq_true rfl) (fun z52 g52 ri_52 hp_52 => ?_)
        obtain ⟨ra_52, rb_52⟩ := ri_52
        have hq_52 : kPl (gR h) (h.1 512 (2 * k)) (h.1 512 (2 * k + 1)) (kS h k) (kM h k) z52 ∧ g52 = hm h [(509, f), (510, q8), (508, e), (525, f5), (524, f4), (523, f3), (521, pv), (500, o)] [(518, fl)] [] := hp_52
        obtain ⟨hz52, rfl⟩ := hq_52
        exact Ret_i hM dX12_theirs_55 (by constructor <;> omega) (Or.inr (Or.inr ⟨e, f, q8, f5, f4, f3, pv, o, fl, ⟨by omega, (hz25.resolve_left (fun q => by omega)).2, fun q => (hz35.resolve_left (fun q => by omega)).2.elim (fun r => by omega) (fun r => r ((hRd8 _).mpr q)), hz52, fun q hq => (hE q (by omega)).trans (hl8x q hq), fun j hj => (hF j (by omega)).trans (hr2 j (Or.inl hj)), hq8x.2, hO⟩, rfl⟩))
      ·
        refine A_bipush (n := -2) hG dX12_theirs_41 (by decide) ?_
        exact Ret_i hM dX12_theirs_43 (by constructor <;> omega) (Or.inr (Or.inl ⟨l8, r0, q8, f35, ⟨rfl, by omega, Or.inr ((hRd8 _).mp (hz35.resolve_right (fun q => by omega)).2.2), hl8x, fun j hj => hr2 j (Or.inl hj), hq8x.2⟩, rfl⟩))
  ·
    refine A_iconst (n := -1) hG dX12_theirs_16 ?_
    exact Ret_i hM dX12_theirs_17 (by constructor <;> omega) (Or.inl ⟨rfl, by omega, rfl⟩)

set_option maxHeartbeats 2000000 in
set_option maxRecDepth 20000 in
theorem r_kept (h : AH) {a : Int} (ha : ir a) (hG0 : okG (gR h)) (hKP : okK h) (hkn : 0 ≤ h.1 500 10 ∧ h.1 500 10 ≤ 12) : AMet yX12_kept cX12_kept 4 (some .int) 5 126 [.ref 500, vI a] h (Qi (fun z h' => (z = -1 ∧ (a < 0 ∨ 2 < a) ∧ h' = h) ∨ (∃ e f q8 f5 f4 f3 pv o : Int → Int, ∃ fl : Int → Int64, ((0 ≤ a ∧ a ≤ 2) ∧ z = cntC (fun k => kpP (gR h) a (h.1 512 (2 * k)) (h.1 512 (2 * k + 1)) (kS h k) (kM h k)) (h.1 500 10).toNat ∧ ((∀ q, q < 8 → e q = h.1 508 q) ∧ (∀ j, j < 80 → f j = h.1 509 j) ∧ (∀ q, q < 8 → q8 q = h.1 510 q) ∧ (∀ q, q ≠ 21 → o q = h.1 500 q))) ∧ h' = hm h [(508, e), (509, f), (510, q8), (500, o), (523, f3), (524, f4), (525, f5), (521, pv)] [(518, fl)] []))) := by
  obtain ⟨ha1, ha2⟩ := ha
  have hnw := hG0.1
  rw [(gR_n h).1] at hnw
  refine AMet.of (by decide) (Nat.le_of_ble_eq_true rfl) (fun G hM => ?_)
  have hG := hM.cx
  refine A_hm0 (G := G) (L := [(0, .ref 500), (1, vI a)]) ?_
  refine A_iload_n hG 1 dX12_kept_0 rfl rfl ?_
  refine A_i2l hG dX12_kept_1 ?_
  refine A_lconst (v := i2l 0) hG dX12_kept_2 (by decide) ?_
  refine A_ldc2 (v := i2l 2) hG dX12_kept_3 (by rw [show i2l 2 = (2 : Int64) by decide]; exact kl_X12_97) ?_
  refine C_Si (as := [.long (i2l a), .long (i2l 0), .long (i2l 2)]) (st := []) hG dX12_kept_6 ml_X12_80 mf_X12_in ms_X12_in (r_in (hm h [] [] []) (by constructor <;> omega) (by constructor <;> omega) (by constructor <;> omega)) (by decide) (by decide) rfl rfl (Nat.le_of_ble_eq_true rfl) (fun z6 g6 ri_6 hp_6 => ?_)
  obtain ⟨ra_6, rb_6⟩ := ri_6
  obtain ⟨hz6, rfl⟩ := hp_6
  refine A_if_ne hG 14 dX12_kept_9 (by decide) (by constructor <;> omega) (fun c_9 => ?_) (fun c_9 => ?_)
  ·
    refine A_iconst (n := 0) hG dX12_kept_14 ?_
    refine A_istore_n (L' := [(2, vI 0), (0, .ref 500), (1, vI a)]) hG dX12_kept_15 rfl (by decide) rfl ?_
    refine A_iconst (n := 0) hG dX12_kept_16 ?_
    refine A_istore_n (L' := [(3, vI 0), (2, vI 0), (0, .ref 500), (1, vI a)]) hG dX12_kept_17 rfl (by decide) rfl ?_
    refine A_insI 508 (li' := [(508, h.1 508)]) rfl ?_
    refine A_insI 509 (li' := [(508, h.1 508), (509, h.1 509)]) rfl ?_
    refine A_insI 510 (li' := [(508, h.1 508), (509, h.1 509), (510, h.1 510)]) rfl ?_
    refine A_insI 500 (li' := [(508, h.1 508), (509, h.1 509), (510, h.1 510), (500, h.1 500)]) rfl ?_
    refine A_insI 523 (li' := [(508, h.1 508), (509, h.1 509), (510, h.1 510), (500, h.1 500), (523, h.1 523)]) rfl ?_
    refine A_insI 524 (li' := [(508, h.1 508), (509, h.1 509), (510, h.1 510), (500, h.1 500), (523, h.1 523), (524, h.1 524)]) rfl ?_
    refine A_insI 525 (li' := [(508, h.1 508), (509, h.1 509), (510, h.1 510), (500, h.1 500), (523, h.1 523), (524, h.1 524), (525, h.1 525)]) rfl ?_
    refine A_insI 521 (li' := [(508, h.1 508), (509, h.1 509), (510, h.1 510), (500, h.1 500), (523, h.1 523), (524, h.1 524), (525, h.1 525), (521, h.1 521)]) rfl ?_
    refine A_insL 518 (ll' := [(518, h.2.1 518)]) rfl ?_
    have k_1 : ∀ fu : Nat, ∀ (x : Int) (j : Nat) (e0 : Int → Int) (f0 : Int → Int) (q0 : Int → Int) (o0 : Int → Int) (g3 : Int → Int) (g4 : Int → Int) (g5 : Int → Int) (pv0 : Int → Int) (fl0 : Int → Int64), ((j : Int) ≤ h.1 500 10) → (x = cntC (fun k => kpP (gR h) a (h.1 512 (2 * k)) (h.1 512 (2 * k + 1)) (kS h k) (kM h k)) j) → (∀ q, q < 8 → e0 q = h.1 508 q) → (∀ j, j < 80 → f0 j = h.1 509 j) → (∀ q, q < 8 → q0 q = h.1 510 q) → (∀ q, q ≠ 21 → o0 q = h.1 500 q) → (12 - j) < fu → G 18 [(0, .ref 500), (1, vI a), (2, vI x), (3, vI (j : Int))] [] (hm h [(508, e0), (509, f0), (510, q0), (500, o0), (523, g3), (524, g4), (525, g5), (521, pv0)] [(518, fl0)] []) := by
      intro fu
      induction fu with
      | zero => intro x j e0 f0 q0 o0 g3 g4 g5 pv0 fl0 hj hx gE gF gQ gO hfu; exact absurd hfu (Nat.not_lt_zero _)
      | succ fu ih_k =>
        intro x j e0 f0 q0 o0 g3 g4 g5 pv0 fl0 hj hx gE gF gQ gO hfu
        have ho10 : o0 10 = h.1 500 10 := gO 10 (by decide)
        have hxb := cntC_le (fun k => kpP (gR h) a (h.1 512 (2 * k)) (h.1 512 (2 * k + 1)) (kS h k) (kM h k)) j
        refine A_iload_n hG 3 dX12_kept_18 rfl rfl ?_
        refine A_aload_n hG 0 dX12_kept_19 rfl rfl ?_
        refine M_getI (z := 10) (v := o0 10) hG dX12_kept_20 fl_X12_117 (by decide) k500 rfl rfl rfl (fun ⟨ra_20, rb_20⟩ => ?_)
        refine A_icmp_ge hG 108 dX12_kept_23 (by decide) (by constructor <;> omega) (by constructor <;> omega) (fun c_23 => ?_) (fun c_23 => ?_)
        ·
          refine A_iload_n hG 2 dX12_kept_108 rfl rfl ?_
          exact Ret_i hM dX12_kept_109 (by constructor <;> omega) (Or.inr ⟨e0, f0, q0, g5, g4, g3, pv0, o0, fl0, ⟨by omega, by rw [hx, show (h.1 500 10).toNat = j by omega], gE, gF, gQ, gO⟩, rfl⟩)
        ·
          have y_2 : ∀ (y : Int) (e1 : Int → Int) (f1 : Int → Int) (q1 : Int → Int) (o1 : Int → Int) (g31 : Int → Int) (g41 : Int → Int) (g51 : Int → Int) (pv1 : Int → Int) (fl1 : Int → Int64), (y = cntC (fun k => kpP (gR h) a (h.1 512 (2 * k)) (h.1 512 (2 * k + 1)) (kS h k) (kM h k)) (j + 1)) → (∀ q, q < 8 → e1 q = h.1 508 q) → (∀ j, j < 80 → f1 j = h.1 509 j) → (∀ q, q < 8 → q1 q = h.1 510 q) → (∀ q, q ≠ 21 → o1 q = h.1 500 q) → G 102 [(0, .ref 500), (1, vI a), (2, vI y), (3, vI (j : Int))] [] (hm h [(508, e1), (509, f1), (510, q1), (500, o1), (523, g31), (524, g41), (525, g51), (521, pv1)] [(518, fl1)] []) := by
            intro y e1 f1 q1 o1 g31 g41 g51 pv1 fl1 hy gE1 gF1 gQ1 gO1
            refine A_iinc (L' := [(3, vI ((j : Int) + 1)), (0, .ref 500), (1, vI a), (2, vI y)]) hG 3 dX12_kept_102 rfl (by decide) rfl ?_
            refine A_goto hG 18 dX12_kept_105 (by decide) ?_
            refine A_sub hG [1, 2, 3, 0] rfl ?_
            exact ih_k y (j + 1) e1 f1 q1 o1 g31 g41 g51 pv1 fl1 (by omega) hy gE1 gF1 gQ1 gO1 (by omega)
          refine A_aload_n hG 0 dX12_kept_26 rfl rfl ?_
          refine A_iload_n hG 3 dX12_kept_27 rfl rfl ?_
          refine C_Vv (as := [vI (j : Int)]) (st := []) (k := 500) (c := 11) hG dX12_kept_28 ml_X12_224 mf_X12_look mi_X12_look se_X12_look rfl (by decide) k500 (r_look (hm h [(508, e0), (509, f0), (510, q0), (500, o0), (523, g3), (524, g4), (525, g5), (521, pv0)] [(518, fl0)] []) (k := (j : Int)) (by omega)) (by decide) (by decide) rfl rfl (Nat.le_of_ble_eq_true rfl) (fun g28 hp_28 => ?_)
          have hq_28 : ∃ fx : Int → Int, ((∀ jx, 0 ≤ jx → jx < 8 → fx (80 + jx) = h.1 513 (16 * (j : Int) + jx)) ∧ ∀ jx, jx < 80 ∨ 88 ≤ jx → fx jx = f0 jx) ∧ g28 = hm (hm h [(508, e0), (509, f0), (510, q0), (500, o0), (523, g3), (524, g4), (525, g5), (521, pv0)] [(518, fl0)] []) [(508, up e0 8 (h.1 512 (2 * (j : Int)))), (510, up q0 8 0), (509, fx)] [] [] := hp_28
          obtain ⟨r0, ⟨hr1, hr2⟩, rfl⟩ := hq_28
          have hWk := hKP (j : Int) (by omega) (by omega)
          have hl8 : up e0 8 (h.1 512 (2 * (j : Int))) 8 = h.1 512 (2 * (j : Int)) := up_eq _ _ _
          obtain ⟨l8, hl80⟩ : ∃ l8, l8 = up e0 8 (h.1 512 (2 * (j : Int))) := ⟨_, rfl⟩
          obtain ⟨q8, hq80⟩ : ∃ q8, q8 = up q0 8 0 := ⟨_, rfl⟩
          rw [← hl80, ← hq80]
          rw [← hl80] at hl8
          have hl8x : ∀ q, q < 8 → l8 q = e0 q := fun q hq => by rw [hl80]; exact up_ne _ _ (by omega)
          have hq8x : q8 8 = 0 ∧ ∀ q, q < 8 → q8 q = q0 q := by rw [hq80]; exact ⟨up_eq _ _ _, fun q hq => up_ne _ _ (by omega)⟩
          clear hl80 hq80 hp_28
          refine A_hm (la := [(508, l8), (509, r0), (510, q8), (500, o0), (523, g3), (524, g4), (525, g5), (521, pv0)]) (lb := [(518, fl0)]) (lc := []) rfl rfl rfl ?_
          obtain ⟨⟨hWa, hWa1⟩, hWb, hWb1⟩ := hWk
          have hWa2 := hWa.1
          have hK8 : ∀ i, 0 ≤ i → i < l8 8 → rowR (hm h [(508, l8), (509, r0), (510, q8), (500, o0), (523, g3), (524, g4), (525, g5), (521, pv0)] [(518, fl0)] []) 8 i = kS h j i := row8 hr1 hl8 (by omega)
          have hW8 : okW (gR h) (rowR (hm h [(508, l8), (509, r0), (510, q8), (500, o0), (523, g3), (524, g4), (525, g5), (521, pv0)] [(518, fl0)] []) 8) (l8 8) := by rw [hl8]; exact okW_congr hWa (fun i i0 i1 => (hK8 i i0 (by rw [hl8]; exact i1)).symm)
          have hRd8 : ∀ fs : Int → Prop, READ (gR h) fs (rowR (hm h [(508, l8), (509, r0), (510, q8), (500, o0), (523, g3), (524, g4), (525, g5), (521, pv0)] [(518, fl0)] []) 8) (l8 8) ↔ READ (gR h) fs (kS h j) (h.1 512 (2 * j)) := fun fs => by rw [← hl8]; exact READ_congr (fun _ _ _ => Iff.rfl) (by omega) hK8
          refine A_aload_n hG 0 dX12_kept_31 rfl rfl ?_
          refine A_bipush (n := 8) hG dX12_kept_32 (by decide) ?_
          refine A_iconst (n := 0) hG dX12_kept_34 ?_
          refine C_Vi (as := [vI 8, vI 0]) (st := []) (k := 500) (c := 11) hG dX12_kept_35 ml_X12_185 mf_X12_isRead mi_X12_isRead se_X12_isRead rfl (by decide) k500 (r_isRead (hm h [(508, l8), (509, r0), (510, q8), (500, o0), (523, g3), (524, g4), (525, g5), (521, pv0)] [(518, fl0)] []) (fr := 0) (by omega) hG0 hW8) (by decide) (by decide) rfl rfl (Nat.le_of_ble_eq_true rfl) (fun z35 g35 ri_35 hp_35 => ?_)
          obtain ⟨ra_35, rb_35⟩ := ri_35
          have hq_35 : ∃ fx, ((z35 = 1 ∧ 0 < l8 8 ∧ READ (gR h) (hasb 0) (rowR (hm h [(508, l8), (509, r0), (510, q8), (500, o0), (523, g3), (524, g4), (525, g5), (521, pv0)] [(518, fl0)] []) 8) (l8 8)) ∨ (z35 = 0 ∧ (l8 8 = 0 ∨ ¬ READ (gR h) (hasb 0) (rowR (hm h [(508, l8), (509, r0), (510, q8), (500, o0), (523, g3), (524, g4), (525, g5), (521, pv0)] [(518, fl0)] []) 8) (l8 8)))) ∧ g35 = hm (hm h [(508, l8), (509, r0), (510, q8), (500, o0), (523, g3), (524, g4), (525, g5), (521, pv0)] [(518, fl0)] []) [] [(518, fx)] [] := hp_35
          obtain ⟨f35, hz35, rfl⟩ := hq_35
          refine A_hm (la := [(508, l8), (509, r0), (510, q8), (500, o0), (523, g3), (524, g4), (525, g5), (521, pv0)]) (lb := [(518, f35)]) (lc := []) rfl rfl rfl ?_
          refine A_if_ne hG 102 dX12_kept_38 (by decide) (by constructor <;> omega) (fun c_38 => ?_) (fun c_38 => ?_)
          ·
            refine A_sub hG [0, 1, 2, 3] rfl ?_
            exact y_2 x l8 r0 q8 o0 g3 g4 g5 pv0 f35 (by rw [cntC_n (fun q => q.1 ((hRd8 _).mp (hz35.resolve_right (fun q => by omega)).2.2))]; exact hx) (fun q hq => (hl8x q hq).trans (gE q hq)) (fun j hj => (hr2 j (Or.inl hj)).trans (gF j hj)) (fun q hq => (hq8x.2 q hq).trans (gQ q hq)) gO
          ·
            refine A_aload_n hG 0 dX12_kept_41 rfl rfl ?_
            refine A_iload_n hG 3 dX12_kept_42 rfl rfl ?_
            refine C_Vi (as := [vI (j : Int)]) (st := []) (k := 500) (c := 11) hG dX12_kept_43 ml_X12_227 mf_X12_isRight mi_X12_isRight se_X12_isRight rfl (by decide) k500 (r_isRight (hm h [(508, l8), (509, r0), (510, q8), (500, o0), (523, g3), (524, g4), (525, g5), (521, pv0)] [(518, f35)] []) (k := (j : Int)) (by omega) (show 0 ≤ h.1 512 (2 * (j : Int)) ∧ h.1 512 (2 * (j : Int)) ≤ 8 by omega)) (by decide) (by decide) rfl rfl (Nat.le_of_ble_eq_true rfl) (fun z43 g43 ri_43 hp_43 => ?_)
            obtain ⟨ra_43, rb_43⟩ := ri_43
            have hq_43 : ((z43 = 1 ∧ kRi h (j : Int)) ∨ (z43 = 0 ∧ ¬ kRi h (j : Int))) ∧ g43 = hm h [(508, l8), (509, r0), (510, q8), (500, o0), (523, g3), (524, g4), (525, g5), (521, pv0)] [(518, f35)] [] := hp_43
            obtain ⟨hz43, rfl⟩ := hq_43
            refine A_if_eq hG 65 dX12_kept_46 (by decide) (by constructor <;> omega) (fun c_46 => ?_) (fun c_46 => ?_)
            ·
              refine A_iload_n hG 1 dX12_kept_65 rfl rfl ?_
              refine A_iconst (n := 1) hG dX12_kept_66 ?_
              refine A_icmp_ne hG 76 dX12_kept_67 (by decide) (by constructor <;> omega) (by constructor <;> omega) (fun c_67 => ?_) (fun c_67 => ?_)
              ·
                refine A_iload_n hG 1 dX12_kept_76 rfl rfl ?_
                refine A_if_ne hG 102 dX12_kept_77 (by decide) (by constructor <;> omega) (fun c_77 => ?_) (fun c_77 => ?_)
                ·
                  refine A_sub hG [0, 1, 2, 3] rfl ?_
                  exact y_2 x l8 r0 q8 o0 g3 g4 g5 pv0 f35 (by rw [cntC_n (fun q => q.2.elim (fun r => (hz43.resolve_left (fun q => by omega)).2 r.2) (fun r => r.elim (fun r => by omega) (fun r => by omega))), hx]) (fun q hq => (hl8x q hq).trans (gE q hq)) (fun j hj => (hr2 j (Or.inl hj)).trans (gF j hj)) (fun q hq => (hq8x.2 q hq).trans (gQ q hq)) gO
                ·
                  refine A_aload_n hG 0 dX12_kept_80 rfl rfl ?_
                  refine A_bipush (n := 8) hG dX12_kept_81 (by decide) ?_
                  refine C_Vv (as := [vI 8]) (st := []) (k := 500) (c := 11) hG dX12_kept_83 ml_X12_201 mf_X12_layMends mi_X12_layMends se_X12_layMends rfl (by decide) k500 (r_layMends (hm h [(508, l8), (509, r0), (510, q8), (500, o0), (523, g3), (524, g4), (525, g5), (521, pv0)] [(518, f35)] []) (s := 8) (by omega) hG0 hW8 (show 1 ≤ l8 8 by omega)) (by decide) (by decide) rfl rfl (Nat.le_of_ble_eq_true rfl) (fun g83 hp_83 => ?_)
                  have hq_83 : ∃ ex fx ox fx3 fx4 fx5 px : Int → Int, ∃ fx8 : Int → Int64, (mQ (cnd (gR h) (rowR (hm h [(508, l8), (509, r0), (510, q8), (500, o0), (523, g3), (524, g4), (525, g5), (521, pv0)] [(518, f35)] []) 8) (l8 8) (hasb (q8 8)) (fun _ _ _ => True)) (h.1 503 0) ox fx3 fx4 fx5 ∧ (∀ q, q ≠ 9 → ex q = l8 q) ∧ (∀ j, j < 90 → fx j = r0 j) ∧ (∀ q, q ≠ 21 → ox q = o0 q)) ∧ g83 = hm (hm h [(508, l8), (509, r0), (510, q8), (500, o0), (523, g3), (524, g4), (525, g5), (521, pv0)] [(518, f35)] []) [(500, ox), (521, px), (508, ex), (509, fx), (523, fx3), (524, fx4), (525, fx5)] [(518, fx8)] [] := hp_83
                  obtain ⟨e, f, o, f3, f4, f5, pv, fl, ⟨⟨ms, hC, hT⟩, hE, hF, hO⟩, rfl⟩ := hq_83
                  have hmn := hC.1
                  replace hC := topk_eq hC (cnd_k hK8 hl8 hq8x.1)
                  refine A_hm (la := [(508, e), (509, f), (510, q8), (500, o), (523, f3), (524, f4), (525, f5), (521, pv)]) (lb := [(518, fl)]) (lc := []) rfl rfl rfl ?_
                  refine A_iload_n hG 2 dX12_kept_86 rfl rfl ?_
                  refine A_aload_n hG 0 dX12_kept_87 rfl rfl ?_
                  refine A_iload_n hG 3 dX12_kept_88 rfl rfl ?_
                  refine C_Vi (as := [vI (j : Int)]) (st := [vI x]) (k := 500) (c := 11) hG dX12_kept_89 ml_X12_230 mf_X12_placeOf mi_X12_placeOf se_X12_placeOf rfl (by decide) k500 (r_placeOf (hm h [(508, e), (509, f), (510, q8), (500, o), (523, f3), (524, f4), (525, f5), (521, pv)] [(518, fl)] []) (k := (j : Int)) (ms := ms) (by omega) hC hnw.2 hT) (by decide) (by decide) rfl rfl (Nat.le_of_ble_eq_true rfl) (fun z89 g89 ri_89 hp_89 => ?_)
                  obtain ⟨ra_89, rb_89⟩ := ri_89
                  have hq_89 : kPl (gR h) (h.1 512 (2 * (j : Int))) (h.1 512 (2 * (j : Int) + 1)) (kS h (j : Int)) (kM h (j : Int)) z89 ∧ g89 = hm h [(508, e), (509, f), (510, q8), (500, o), (523, f3), (524, f4), (525, f5), (521, pv)] [(518, fl)] [] := hp_89
                  obtain ⟨hz89, rfl⟩ := hq_89
                  refine A_if_ne hG 99 dX12_kept_92 (by decide) (by constructor <;> omega) (fun c_92 => ?_) (fun c_92 => ?_)
                  ·
                    refine A_iconst (n := 0) hG dX12_kept_99 ?_
                    refine A_iadd hG dX12_kept_100 ?_
                    refine A_istore_n (L' := [(2, vI (x + 0)), (0, .ref 500), (1, vI a), (3, vI (j : Int))]) hG dX12_kept_101 rfl (by decide) rfl ?_
                    refine A_sub hG [1, 2, 0, 3] rfl ?_
                    exact y_2 (x + 0) e f q8 o f3 f4 f5 pv fl (by rw [cntC_n (fun q => q.2.elim (fun r => by omega) (fun r => r.elim (fun r => by omega) (fun r => c_92 (plA_one hz89 r.2.2)))), hx]; omega) (fun q hq => (hE q (by omega)).trans ((hl8x q hq).trans (gE q hq))) (fun j hj => (hF j (by omega)).trans ((hr2 j (Or.inl hj)).trans (gF j hj))) (fun q hq => (hq8x.2 q hq).trans (gQ q hq)) (fun q hq => (hO q hq).trans (gO q hq))
                  ·
                    refine A_iconst (n := 1) hG dX12_kept_95 ?_
                    refine A_goto hG 100 dX12_kept_96 (by decide) ?_
                    refine A_iadd hG dX12_kept_100 ?_
                    refine A_istore_n (L' := [(2, vI (x + 1)), (0, .ref 500), (1, vI a), (3, vI (j : Int))]) hG dX12_kept_101 rfl (by decide) rfl ?_
                    refine A_sub hG [1, 2, 0, 3] rfl ?_
                    exact y_2 (x + 1) e f q8 o f3 f4 f5 pv fl (by rw [cntC_y (show (fun k => kpP (gR h) a (h.1 512 (2 * k)) (h.1 512 (2 * k + 1)) (kS h k) (kM h k)) j from ⟨(fun q => (hz35.resolve_left (fun q => by omega)).2.elim (fun r => by omega) (fun r => r ((hRd8 _).mpr q))), Or.inr (Or.inr ⟨by omega, (hz43.resolve_left (fun q => by omega)).2, by rw [c_92] at hz89; exact hz89⟩)⟩), hx]) (fun q hq => (hE q (by omega)).trans ((hl8x q hq).trans (gE q hq))) (fun j hj => (hF j (by omega)).trans ((hr2 j (Or.inl hj)).trans (gF j hj))) (fun q hq => (hq8x.2 q hq).trans (gQ q hq)) (fun q hq => (hO q hq).trans (gO q hq))
              ·
                refine A_iinc (L' := [(2, vI (x + 1)), (0, .ref 500), (1, vI a), (3, vI (j : Int))]) hG 2 dX12_kept_70 rfl (by decide) rfl ?_
                refine A_goto hG 102 dX12_kept_73 (by decide) ?_
                refine A_sub hG [1, 2, 0, 3] rfl ?_
                exact y_2 (x + 1) l8 r0 q8 o0 g3 g4 g5 pv0 f35 (by rw [cntC_y (show (fun k => kpP (gR h) a (h.1 512 (2 * k)) (h.1 512 (2 * k + 1)) (kS h k) (kM h k)) j from ⟨(fun q => (hz35.resolve_left (fun q => by omega)).2.elim (fun r => by omega) (fun r => r ((hRd8 _).mpr q))), Or.inr (Or.inl ⟨by omega, (hz43.resolve_left (fun q => by omega)).2⟩)⟩), hx]) (fun q hq => (hl8x q hq).trans (gE q hq)) (fun j hj => (hr2 j (Or.inl hj)).trans (gF j hj)) (fun q hq => (hq8x.2 q hq).trans (gQ q hq)) gO
            ·
              refine A_iload_n hG 2 dX12_kept_49 rfl rfl ?_
              refine A_iload_n hG 1 dX12_kept_50 rfl rfl ?_
              refine A_iconst (n := 2) hG dX12_kept_51 ?_
              refine A_icmp_ne hG 59 dX12_kept_52 (by decide) (by constructor <;> omega) (by constructor <;> omega) (fun c_52 => ?_) (fun c_52 => ?_)
              ·
                refine A_iconst (n := 0) hG dX12_kept_59 ?_
                refine A_iadd hG dX12_kept_60 ?_
                refine A_istore_n (L' := [(2, vI (x + 0)), (0, .ref 500), (1, vI a), (3, vI (j : Int))]) hG dX12_kept_61 rfl (by decide) rfl ?_
                refine A_goto hG 102 dX12_kept_62 (by decide) ?_
                refine A_sub hG [1, 2, 0, 3] rfl ?_
                exact y_2 (x + 0) l8 r0 q8 o0 g3 g4 g5 pv0 f35 (by rw [cntC_n (fun q => q.2.elim (fun r => by omega) (fun r => r.elim (fun r => r.2 (hz43.resolve_right (fun q => by omega)).2) (fun r => r.2.1 (hz43.resolve_right (fun q => by omega)).2))), hx]; omega) (fun q hq => (hl8x q hq).trans (gE q hq)) (fun j hj => (hr2 j (Or.inl hj)).trans (gF j hj)) (fun q hq => (hq8x.2 q hq).trans (gQ q hq)) gO
              ·
                refine A_iconst (n := 1) hG dX12_kept_55 ?_
                refine A_goto hG 60 dX12_kept_56 (by decide) ?_
                refine A_iadd hG dX12_kept_60 ?_
                refine A_istore_n (L' := [(2, vI (x + 1)), (0, .ref 500), (1, vI a), (3, vI (j : Int))]) hG dX12_kept_61 rfl (by decide) rfl ?_
                refine A_goto hG 102 dX12_kept_62 (by decide) ?_
                refine A_sub hG [1, 2, 0, 3] rfl ?_
                exact y_2 (x + 1) l8 r0 q8 o0 g3 g4 g5 pv0 f35 (by rw [cntC_y (show (fun k => kpP (gR h) a (h.1 512 (2 * k)) (h.1 512 (2 * k + 1)) (kS h k) (kM h k)) j from ⟨(fun q => (hz35.resolve_left (fun q => by omega)).2.elim (fun r => by omega) (fun r => r ((hRd8 _).mpr q))), Or.inl ⟨by omega, (hz43.resolve_right (fun q => by omega)).2⟩⟩), hx]) (fun q hq => (hl8x q hq).trans (gE q hq)) (fun j hj => (hr2 j (Or.inl hj)).trans (gF j hj)) (fun q hq => (hq8x.2 q hq).trans (gQ q hq)) gO
    refine A_sub hG [2, 3, 1, 0] rfl ?_
    exact k_1 _ 0 0 (h.1 508) (h.1 509) (h.1 510) (h.1 500) (h.1 523) (h.1 524) (h.1 525) (h.1 521) (h.2.1 518) (by omega) rfl (fun _ _ => rfl) (fun _ _ => rfl) (fun _ _ => rfl) (fun _ _ => rfl) (Nat.lt_succ_self _)
  ·
    refine A_iconst (n := -1) hG dX12_kept_12 ?_
    exact Ret_i hM dX12_kept_13 (by constructor <;> omega) (Or.inl ⟨rfl, by omega, rfl⟩)

set_option maxHeartbeats 2000000 in
set_option maxRecDepth 20000 in
theorem r_byRule (h : AH) {r : Int} (hr : ir r) (hG0 : okG (gR h)) (hKP : okK h) (hkn : 0 ≤ h.1 500 10 ∧ h.1 500 10 ≤ 12) : AMet yX12_byRule cX12_byRule 4 (some .int) 3 76 [.ref 500, vI r] h (Qi (fun z h' => (z = -1 ∧ (r < 0 ∨ h.1 505 0 ≤ r) ∧ h' = h) ∨ (∃ e f q8 : Int → Int, ∃ fl : Int → Int64, ((0 ≤ r ∧ r < h.1 505 0) ∧ z = cntC (fun k => brP (gR h) r (h.1 512 (2 * k)) (h.1 512 (2 * k + 1)) (kS h k) (kM h k)) (h.1 500 10).toNat ∧ (∀ q, q < 8 → e q = h.1 508 q) ∧ (∀ j, j < 80 → f j = h.1 509 j) ∧ (∀ q, q < 8 → q8 q = h.1 510 q)) ∧ h' = hm h [(508, e), (509, f), (510, q8)] [(518, fl)] []))) := by
  obtain ⟨hr1, hr2⟩ := hr
  have hnr := hG0.2.1
  rw [(gR_n h).2] at hnr
  refine AMet.of (by decide) (Nat.le_of_ble_eq_true rfl) (fun G hM => ?_)
  have hG := hM.cx
  refine A_hm0 (G := G) (L := [(0, .ref 500), (1, vI r)]) ?_
  refine A_iload_n hG 1 dX12_byRule_0 rfl rfl ?_
  refine A_i2l hG dX12_byRule_1 ?_
  refine A_lconst (v := i2l 0) hG dX12_byRule_2 (by decide) ?_
  refine A_aload_n hG 0 dX12_byRule_3 rfl rfl ?_
  refine A_getR (r := 505) hG dX12_byRule_4 fl_X12_19 (by decide) k500 (by decide) rfl ?_
  refine A_iconst (n := 0) hG dX12_byRule_7 ?_
  refine M_iald (v := h.1 505 0) hG dX12_byRule_8 k505 n505 (by omega) rfl (fun ⟨ra_8, rb_8⟩ => ?_)
  refine A_iconst (n := 1) hG dX12_byRule_9 ?_
  refine A_isub hG dX12_byRule_10 ?_
  refine A_i2l hG dX12_byRule_11 ?_
  refine C_Si (as := [.long (i2l r), .long (i2l 0), .long (i2l ((h.1 505 0) - 1))]) (st := []) hG dX12_byRule_12 ml_X12_80 mf_X12_in ms_X12_in (r_in (hm h [] [] []) (by constructor <;> omega) (by constructor <;> omega) (by constructor <;> omega)) (by decide) (by decide) rfl rfl (Nat.le_of_ble_eq_true rfl) (fun z12 g12 ri_12 hp_12 => ?_)
  obtain ⟨ra_12, rb_12⟩ := ri_12
  obtain ⟨hz12, rfl⟩ := hp_12
  refine A_if_ne hG 20 dX12_byRule_15 (by decide) (by constructor <;> omega) (fun c_15 => ?_) (fun c_15 => ?_)
  ·
    refine A_iconst (n := 0) hG dX12_byRule_20 ?_
    refine A_istore_n (L' := [(2, vI 0), (0, .ref 500), (1, vI r)]) hG dX12_byRule_21 rfl (by decide) rfl ?_
    refine A_iconst (n := 0) hG dX12_byRule_22 ?_
    refine A_istore_n (L' := [(3, vI 0), (2, vI 0), (0, .ref 500), (1, vI r)]) hG dX12_byRule_23 rfl (by decide) rfl ?_
    refine A_insI 508 (li' := [(508, h.1 508)]) rfl ?_
    refine A_insI 509 (li' := [(508, h.1 508), (509, h.1 509)]) rfl ?_
    refine A_insI 510 (li' := [(508, h.1 508), (509, h.1 509), (510, h.1 510)]) rfl ?_
    refine A_insL 518 (ll' := [(518, h.2.1 518)]) rfl ?_
    have k_1 : ∀ fu : Nat, ∀ (x : Int) (j : Nat) (e0 : Int → Int) (f0 : Int → Int) (q0 : Int → Int) (fl0 : Int → Int64), ((j : Int) ≤ h.1 500 10) → (x = cntC (fun k => brP (gR h) r (h.1 512 (2 * k)) (h.1 512 (2 * k + 1)) (kS h k) (kM h k)) j) → (∀ q, q < 8 → e0 q = h.1 508 q) → (∀ j, j < 80 → f0 j = h.1 509 j) → (∀ q, q < 8 → q0 q = h.1 510 q) → (12 - j) < fu → G 24 [(0, .ref 500), (1, vI r), (2, vI x), (3, vI (j : Int))] [] (hm h [(508, e0), (509, f0), (510, q0)] [(518, fl0)] []) := by
      intro fu
      induction fu with
      | zero => intro x j e0 f0 q0 fl0 hj hx gE gF gQ hfu; exact absurd hfu (Nat.not_lt_zero _)
      | succ fu ih_k =>
        intro x j e0 f0 q0 fl0 hj hx gE gF gQ hfu
        have hxb := cntC_le (fun k => brP (gR h) r (h.1 512 (2 * k)) (h.1 512 (2 * k + 1)) (kS h k) (kM h k)) j
        refine A_iload_n hG 3 dX12_byRule_24 rfl rfl ?_
        refine A_aload_n hG 0 dX12_byRule_25 rfl rfl ?_
        refine M_getI (z := 10) (v := h.1 500 10) hG dX12_byRule_26 fl_X12_117 (by decide) k500 rfl rfl rfl (fun ⟨ra_26, rb_26⟩ => ?_)
        refine A_icmp_ge hG 81 dX12_byRule_29 (by decide) (by constructor <;> omega) (by constructor <;> omega) (fun c_29 => ?_) (fun c_29 => ?_)
        ·
          refine A_iload_n hG 2 dX12_byRule_81 rfl rfl ?_
          exact Ret_i hM dX12_byRule_82 (by constructor <;> omega) (Or.inr ⟨e0, f0, q0, fl0, ⟨by omega, by rw [hx, show (h.1 500 10).toNat = j by omega], gE, gF, gQ⟩, rfl⟩)
        ·
          refine A_aload_n hG 0 dX12_byRule_32 rfl rfl ?_
          refine A_iload_n hG 3 dX12_byRule_33 rfl rfl ?_
          refine C_Vv (as := [vI (j : Int)]) (st := []) (k := 500) (c := 11) hG dX12_byRule_34 ml_X12_224 mf_X12_look mi_X12_look se_X12_look rfl (by decide) k500 (r_look (hm h [(508, e0), (509, f0), (510, q0)] [(518, fl0)] []) (k := (j : Int)) (by omega)) (by decide) (by decide) rfl rfl (Nat.le_of_ble_eq_true rfl) (fun g34 hp_34 => ?_)
          have hq_34 : ∃ fx : Int → Int, ((∀ jx, 0 ≤ jx → jx < 8 → fx (80 + jx) = h.1 513 (16 * (j : Int) + jx)) ∧ ∀ jx, jx < 80 ∨ 88 ≤ jx → fx jx = f0 jx) ∧ g34 = hm (hm h [(508, e0), (509, f0), (510, q0)] [(518, fl0)] []) [(508, up e0 8 (h.1 512 (2 * (j : Int)))), (510, up q0 8 0), (509, fx)] [] [] := hp_34
          obtain ⟨r0, ⟨hr1, hr2⟩, rfl⟩ := hq_34
          have hWk := hKP (j : Int) (by omega) (by omega)
          have hl8 : up e0 8 (h.1 512 (2 * (j : Int))) 8 = h.1 512 (2 * (j : Int)) := up_eq _ _ _
          obtain ⟨l8, hl80⟩ : ∃ l8, l8 = up e0 8 (h.1 512 (2 * (j : Int))) := ⟨_, rfl⟩
          obtain ⟨q8, hq80⟩ : ∃ q8, q8 = up q0 8 0 := ⟨_, rfl⟩
          rw [← hl80, ← hq80]
          rw [← hl80] at hl8
          have hl8x : ∀ q, q < 8 → l8 q = e0 q := fun q hq => by rw [hl80]; exact up_ne _ _ (by omega)
          have hq8x : q8 8 = 0 ∧ ∀ q, q < 8 → q8 q = q0 q := by rw [hq80]; exact ⟨up_eq _ _ _, fun q hq => up_ne _ _ (by omega)⟩
          clear hl80 hq80 hp_34
          refine A_hm (la := [(508, l8), (509, r0), (510, q8)]) (lb := [(518, fl0)]) (lc := []) rfl rfl rfl ?_
          obtain ⟨⟨hWa, hWa1⟩, hWb, hWb1⟩ := hWk
          have hWa2 := hWa.1
          have hK8 : ∀ i, 0 ≤ i → i < l8 8 → rowR (hm h [(508, l8), (509, r0), (510, q8)] [(518, fl0)] []) 8 i = kS h j i := row8 hr1 hl8 (by omega)
          have hW8 : okW (gR h) (rowR (hm h [(508, l8), (509, r0), (510, q8)] [(518, fl0)] []) 8) (l8 8) := by rw [hl8]; exact okW_congr hWa (fun i i0 i1 => (hK8 i i0 (by rw [hl8]; exact i1)).symm)
          have hRd8 : ∀ fs : Int → Prop, READ (gR h) fs (rowR (hm h [(508, l8), (509, r0), (510, q8)] [(518, fl0)] []) 8) (l8 8) ↔ READ (gR h) fs (kS h j) (h.1 512 (2 * j)) := fun fs => by rw [← hl8]; exact READ_congr (fun _ _ _ => Iff.rfl) (by omega) hK8
          refine A_iload_n hG 2 dX12_byRule_37 rfl rfl ?_
          refine A_aload_n hG 0 dX12_byRule_38 rfl rfl ?_
          refine A_iload_n hG 3 dX12_byRule_39 rfl rfl ?_
          refine C_Vi (as := [vI (j : Int)]) (st := [vI x]) (k := 500) (c := 11) hG dX12_byRule_40 ml_X12_227 mf_X12_isRight mi_X12_isRight se_X12_isRight rfl (by decide) k500 (r_isRight (hm h [(508, l8), (509, r0), (510, q8)] [(518, fl0)] []) (k := (j : Int)) (by omega) (show 0 ≤ h.1 512 (2 * (j : Int)) ∧ h.1 512 (2 * (j : Int)) ≤ 8 by omega)) (by decide) (by decide) rfl rfl (Nat.le_of_ble_eq_true rfl) (fun z40 g40 ri_40 hp_40 => ?_)
          obtain ⟨ra_40, rb_40⟩ := ri_40
          have hq_40 : ((z40 = 1 ∧ kRi h (j : Int)) ∨ (z40 = 0 ∧ ¬ kRi h (j : Int))) ∧ g40 = hm h [(508, l8), (509, r0), (510, q8)] [(518, fl0)] [] := hp_40
          obtain ⟨hz40, rfl⟩ := hq_40
          refine A_if_eq hG 72 dX12_byRule_43 (by decide) (by constructor <;> omega) (fun c_43 => ?_) (fun c_43 => ?_)
          ·
            refine A_iconst (n := 0) hG dX12_byRule_72 ?_
            refine A_iadd hG dX12_byRule_73 ?_
            refine A_istore_n (L' := [(2, vI (x + 0)), (0, .ref 500), (1, vI r), (3, vI (j : Int))]) hG dX12_byRule_74 rfl (by decide) rfl ?_
            refine A_iinc (L' := [(3, vI ((j : Int) + 1)), (2, vI (x + 0)), (0, .ref 500), (1, vI r)]) hG 3 dX12_byRule_75 rfl (by decide) rfl ?_
            refine A_goto hG 24 dX12_byRule_78 (by decide) ?_
            refine A_sub hG [2, 3, 1, 0] rfl ?_
            exact ih_k (x + 0) (j + 1) l8 r0 q8 fl0 (by omega) (by first | (rw [cntC_n (fun q => (hz40.resolve_left (fun q => by omega)).2 q.1), hx]; omega) | (rw [cntC_n (fun q => q.2.1 ((hRd8 _).mp (hz50.resolve_right (fun q => by omega)).2.2)), hx]; omega) | (rw [cntC_n (fun q => (hz62.resolve_left (fun q => by omega)).2.elim (fun r => by omega) (fun r => r ((hRd8 _).mpr q.2.2))), hx]; omega)) (fun q hq => (hl8x q hq).trans (gE q hq)) (fun j hj => (hr2 j (Or.inl hj)).trans (gF j hj)) (fun q hq => (hq8x.2 q hq).trans (gQ q hq)) (by omega)
          ·
            refine A_aload_n hG 0 dX12_byRule_46 rfl rfl ?_
            refine A_bipush (n := 8) hG dX12_byRule_47 (by decide) ?_
            refine A_iconst (n := 0) hG dX12_byRule_49 ?_
            refine C_Vi (as := [vI 8, vI 0]) (st := [vI x]) (k := 500) (c := 11) hG dX12_byRule_50 ml_X12_185 mf_X12_isRead mi_X12_isRead se_X12_isRead rfl (by decide) k500 (r_isRead (hm h [(508, l8), (509, r0), (510, q8)] [(518, fl0)] []) (fr := 0) (by omega) hG0 hW8) (by decide) (by decide) rfl rfl (Nat.le_of_ble_eq_true rfl) (fun z50 g50 ri_50 hp_50 => ?_)
            obtain ⟨ra_50, rb_50⟩ := ri_50
            have hq_50 : ∃ fx, ((z50 = 1 ∧ 0 < l8 8 ∧ READ (gR h) (hasb 0) (rowR (hm h [(508, l8), (509, r0), (510, q8)] [(518, fl0)] []) 8) (l8 8)) ∨ (z50 = 0 ∧ (l8 8 = 0 ∨ ¬ READ (gR h) (hasb 0) (rowR (hm h [(508, l8), (509, r0), (510, q8)] [(518, fl0)] []) 8) (l8 8)))) ∧ g50 = hm (hm h [(508, l8), (509, r0), (510, q8)] [(518, fl0)] []) [] [(518, fx)] [] := hp_50
            obtain ⟨f50, hz50, rfl⟩ := hq_50
            refine A_hm (la := [(508, l8), (509, r0), (510, q8)]) (lb := [(518, f50)]) (lc := []) rfl rfl rfl ?_
            refine A_if_ne hG 72 dX12_byRule_53 (by decide) (by constructor <;> omega) (fun c_53 => ?_) (fun c_53 => ?_)
            ·
              refine A_iconst (n := 0) hG dX12_byRule_72 ?_
              refine A_iadd hG dX12_byRule_73 ?_
              refine A_istore_n (L' := [(2, vI (x + 0)), (0, .ref 500), (1, vI r), (3, vI (j : Int))]) hG dX12_byRule_74 rfl (by decide) rfl ?_
              refine A_iinc (L' := [(3, vI ((j : Int) + 1)), (2, vI (x + 0)), (0, .ref 500), (1, vI r)]) hG 3 dX12_byRule_75 rfl (by decide) rfl ?_
              refine A_goto hG 24 dX12_byRule_78 (by decide) ?_
              refine A_sub hG [2, 3, 1, 0] rfl ?_
              exact ih_k (x + 0) (j + 1) l8 r0 q8 f50 (by omega) (by first | (rw [cntC_n (fun q => (hz40.resolve_left (fun q => by omega)).2 q.1), hx]; omega) | (rw [cntC_n (fun q => q.2.1 ((hRd8 _).mp (hz50.resolve_right (fun q => by omega)).2.2)), hx]; omega) | (rw [cntC_n (fun q => (hz62.resolve_left (fun q => by omega)).2.elim (fun r => by omega) (fun r => r ((hRd8 _).mpr q.2.2))), hx]; omega)) (fun q hq => (hl8x q hq).trans (gE q hq)) (fun j hj => (hr2 j (Or.inl hj)).trans (gF j hj)) (fun q hq => (hq8x.2 q hq).trans (gQ q hq)) (by omega)
            ·
              refine A_aload_n hG 0 dX12_byRule_56 rfl rfl ?_
              refine A_bipush (n := 8) hG dX12_byRule_57 (by decide) ?_
              refine A_iconst (n := 1) hG dX12_byRule_59 ?_
              refine A_iload_n hG 1 dX12_byRule_60 rfl rfl ?_
              refine A_ishl hG dX12_byRule_61 ?_
              refine C_Vi (as := [vI 8, vI (ishl 1 r)]) (st := [vI x]) (k := 500) (c := 11) hG dX12_byRule_62 ml_X12_185 mf_X12_isRead mi_X12_isRead se_X12_isRead rfl (by decide) k500 (r_isRead (hm h [(508, l8), (509, r0), (510, q8)] [(518, f50)] []) (fr := ishl 1 r) (by omega) hG0 hW8) (by decide) (by decide) rfl rfl (Nat.le_of_ble_eq_true rfl) (fun z62 g62 ri_62 hp_62 => ?_)
              obtain ⟨ra_62, rb_62⟩ := ri_62
              have hq_62 : ∃ fx, ((z62 = 1 ∧ 0 < l8 8 ∧ READ (gR h) (hasb (ishl 1 r)) (rowR (hm h [(508, l8), (509, r0), (510, q8)] [(518, f50)] []) 8) (l8 8)) ∨ (z62 = 0 ∧ (l8 8 = 0 ∨ ¬ READ (gR h) (hasb (ishl 1 r)) (rowR (hm h [(508, l8), (509, r0), (510, q8)] [(518, f50)] []) 8) (l8 8)))) ∧ g62 = hm (hm h [(508, l8), (509, r0), (510, q8)] [(518, f50)] []) [] [(518, fx)] [] := hp_62
              obtain ⟨f62, hz62, rfl⟩ := hq_62
              refine A_hm (la := [(508, l8), (509, r0), (510, q8)]) (lb := [(518, f62)]) (lc := []) rfl rfl rfl ?_
              refine A_if_eq hG 72 dX12_byRule_65 (by decide) (by constructor <;> omega) (fun c_65 => ?_) (fun c_65 => ?_)
              ·
                refine A_iconst (n := 0) hG dX12_byRule_72 ?_
                refine A_iadd hG dX12_byRule_73 ?_
                refine A_istore_n (L' := [(2, vI (x + 0)), (0, .ref 500), (1, vI r), (3, vI (j : Int))]) hG dX12_byRule_74 rfl (by decide) rfl ?_
                refine A_iinc (L' := [(3, vI ((j : Int) + 1)), (2, vI (x + 0)), (0, .ref 500), (1, vI r)]) hG 3 dX12_byRule_75 rfl (by decide) rfl ?_
                refine A_goto hG 24 dX12_byRule_78 (by decide) ?_
                refine A_sub hG [2, 3, 1, 0] rfl ?_
                exact ih_k (x + 0) (j + 1) l8 r0 q8 f62 (by omega) (by first | (rw [cntC_n (fun q => (hz40.resolve_left (fun q => by omega)).2 q.1), hx]; omega) | (rw [cntC_n (fun q => q.2.1 ((hRd8 _).mp (hz50.resolve_right (fun q => by omega)).2.2)), hx]; omega) | (rw [cntC_n (fun q => (hz62.resolve_left (fun q => by omega)).2.elim (fun r => by omega) (fun r => r ((hRd8 _).mpr q.2.2))), hx]; omega)) (fun q hq => (hl8x q hq).trans (gE q hq)) (fun j hj => (hr2 j (Or.inl hj)).trans (gF j hj)) (fun q hq => (hq8x.2 q hq).trans (gQ q hq)) (by omega)
              ·
                refine A_iconst (n := 1) hG dX12_byRule_68 ?_
                refine A_goto hG 73 dX12_byRule_69 (by decide) ?_
                refine A_iadd hG dX12_byRule_73 ?_
                refine A_istore_n (L' := [(2, vI (x + 1)), (0, .ref 500), (1, vI r), (3, vI (j : Int))]) hG dX12_byRule_74 rfl (by decide) rfl ?_
                refine A_iinc (L' := [(3, vI ((j : Int) + 1)), (2, vI (x + 1)), (0, .ref 500), (1, vI r)]) hG 3 dX12_byRule_75 rfl (by decide) rfl ?_
                refine A_goto hG 24 dX12_byRule_78 (by decide) ?_
                refine A_sub hG [2, 3, 1, 0] rfl ?_
                exact ih_k (x + 1) (j + 1) l8 r0 q8 f62 (by omega) (by rw [cntC_y (show (fun k => brP (gR h) r (h.1 512 (2 * k)) (h.1 512 (2 * k + 1)) (kS h k) (kM h k)) j from ⟨(hz40.resolve_right (fun q => by omega)).2, fun q => (hz50.resolve_left (fun q => by omega)).2.elim (fun r => by omega) (fun r => r ((hRd8 _).mpr q)), (hRd8 _).mp (hz62.resolve_right (fun q => by omega)).2.2⟩), hx]) (fun q hq => (hl8x q hq).trans (gE q hq)) (fun j hj => (hr2 j (Or.inl hj)).trans (gF j hj)) (fun q hq => (hq8x.2 q hq).trans (gQ q hq)) (by omega)
    refine A_sub hG [2, 3, 1, 0] rfl ?_
    exact k_1 _ 0 0 (h.1 508) (h.1 509) (h.1 510) (h.2.1 518) (by omega) rfl (fun _ _ => rfl) (fun _ _ => rfl) (fun _ _ => rfl) (Nat.lt_succ_self _)
  ·
    refine A_iconst (n := -1) hG dX12_byRule_18 ?_
    exact Ret_i hM dX12_byRule_19 (by constructor <;> omega) (Or.inl ⟨rfl, by omega, rfl⟩)

end
