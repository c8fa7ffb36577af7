/-! WHAT A GRAMMAR SAYS: READ -/
section SPEC
def clip (n : Int) (f : Int → Int) (j : Int) : Int := if 0 ≤ j ∧ j < n then f j else 0
theorem clip_in {n : Int} {f : Int → Int} {j : Int} (h : 0 ≤ j ∧ j < n) : clip n f j = f j := if_pos h
/-- a grammar: 0 kinds, 1 marks, 2 families, 3 sounds of WORDS; 4 X, 5 Y, 6 Z, 7 a, 8 h of RULES; 9 PRICES as told; 10: at 0 how many WORDS, else how many RULES -/
abbrev Gm : Type := Nat → Int → Int
def gR (h : AH) : Gm := fun c => match c with
  | 0 => clip (h.1 503 0) (fun j => h.1 504 (4 * j))
  | 1 => clip (h.1 503 0) (fun j => h.1 504 (4 * j + 1))
  | 2 => clip (h.1 503 0) (fun j => h.1 504 (4 * j + 2))
  | 3 => clip (h.1 503 0) (fun j => h.1 504 (4 * j + 3))
  | 4 => clip (h.1 505 0) (fun j => h.1 506 (5 * j))
  | 5 => clip (h.1 505 0) (fun j => h.1 506 (5 * j + 1))
  | 6 => clip (h.1 505 0) (fun j => h.1 506 (5 * j + 2))
  | 7 => clip (h.1 505 0) (fun j => h.1 506 (5 * j + 3))
  | 8 => clip (h.1 505 0) (fun j => h.1 506 (5 * j + 4))
  | 9 => clip 5 (h.1 507)
  | _ => fun j => if j = 0 then h.1 503 0 else h.1 505 0
def rowR (h : AH) (s : Int) : Int → Int := clip (h.1 508 s) (fun i => h.1 509 (10 * s + i))
/-- a grammar's numbers are such as are told -/
def okG (g : Gm) : Prop := (0 ≤ g 10 0 ∧ g 10 0 ≤ 16) ∧ (0 ≤ g 10 1 ∧ g 10 1 ≤ 24) ∧ (∀ w, 0 ≤ w → w < g 10 0 → (0 ≤ g 0 w ∧ g 0 w ≤ 9) ∧ (0 ≤ g 1 w ∧ g 1 w ≤ 3) ∧ (0 ≤ g 2 w ∧ g 2 w ≤ 15) ∧ (0 ≤ g 3 w ∧ g 3 w ≤ 15)) ∧
  (∀ r, 0 ≤ r → r < g 10 1 → (0 ≤ g 4 r ∧ g 4 r ≤ 9) ∧ (0 ≤ g 5 r ∧ g 5 r ≤ 9) ∧ (0 ≤ g 6 r ∧ g 6 r ≤ 9) ∧ (0 ≤ g 7 r ∧ g 7 r ≤ 1) ∧ (0 ≤ g 8 r ∧ g 8 r ≤ 1)) ∧ (∀ c, 0 ≤ c → c < 5 → 0 ≤ g 9 c ∧ g 9 c ≤ 99)
/-- a row of WORDS of a grammar -/
def okW (g : Gm) (w : Int → Int) (n : Int) : Prop := (0 ≤ n ∧ n ≤ 8) ∧ ∀ i, 0 ≤ i → i < n → 0 ≤ w i ∧ w i < g 10 0
def jn (g : Gm) (fs : Int → Prop) (r m : Int) (A B : Int → Prop) : Prop :=
  (∃ q, 0 ≤ q ∧ q < 4 ∧ A q) ∧ (∃ q, 0 ≤ q ∧ q < 4 ∧ B q) ∧ ((g 7 r = 1 ∧ ¬ fs r) → A m ∧ B m) ∧ (¬ (g 7 r = 1 ∧ ¬ fs r) → (g 8 r = 0 → A m) ∧ (g 8 r ≠ 0 → B m))
def rdT (g : Gm) (fs : Int → Prop) (w : Int → Int) : Nat → Int → Int → Int → Int → Prop
  | 0, _, _, _, _ => False
  | N + 1, n, f, k, m => if n ≤ N then rdT g fs w N n f k m else if N = 0 then g 0 (w f) = k ∧ g 1 (w f) = m else
      ∃ a r : Int, 1 ≤ a ∧ a < n ∧ 0 ≤ r ∧ r < g 10 1 ∧ g 4 r = k ∧ jn g fs r m (rdT g fs w N a f (g 5 r)) (rdT g fs w N (n - a) (f + a) (g 6 r))
/-- a KIND with a MARK has a TREE over n WORDS from f on -/
def rd (g : Gm) (fs : Int → Prop) (w : Int → Int) (n f k m : Int) : Prop := rdT g fs w n.toNat n f k m
def READ (g : Gm) (fs : Int → Prop) (w : Int → Int) (n : Int) : Prop := ∃ m, 0 ≤ m ∧ m < 4 ∧ rd g fs w n 0 0 m
variable {g : Gm} {fs : Int → Prop} {w : Int → Int}
theorem rdT_eq : ∀ (N : Nat) (n f : Int), 1 ≤ n → n ≤ N → rdT g fs w N n f = rd g fs w n f
  | 0, n, f, h1, h2 => by omega
  | N + 1, n, f, h1, h2 => by
    by_cases hn : n ≤ N
    · rw [← rdT_eq N n f h1 hn]
      funext k m
      rw [rdT, if_pos hn]
    · have e : n.toNat = N + 1 := by omega
      funext k m
      unfold rd
      rw [e]
theorem rd_1 (f k m : Int) : rd g fs w 1 f k m ↔ g 0 (w f) = k ∧ g 1 (w f) = m := by
  unfold rd
  rw [show (1 : Int).toNat = 0 + 1 from rfl, rdT, if_neg (by decide), if_pos rfl]
theorem rd_s {n : Int} (hn : 2 ≤ n) (f k m : Int) : rd g fs w n f k m ↔ ∃ a r : Int, 1 ≤ a ∧ a < n ∧ 0 ≤ r ∧ r < g 10 1 ∧ g 4 r = k ∧ jn g fs r m (rd g fs w a f (g 5 r)) (rd g fs w (n - a) (f + a) (g 6 r)) := by
  obtain ⟨N, hN⟩ : ∃ N : Nat, n.toNat = N + 1 := ⟨n.toNat - 1, by omega⟩
  unfold rd
  rw [hN, rdT, if_neg (by omega), if_neg (by omega)]
  constructor
  · rintro ⟨a, r, h1, h2, h3, h4, h5, h6⟩
    rw [rdT_eq N a f h1 (by omega), rdT_eq N (n - a) (f + a) (by omega) (by omega)] at h6
    exact ⟨a, r, h1, h2, h3, h4, h5, h6⟩
  · rintro ⟨a, r, h1, h2, h3, h4, h5, h6⟩
    refine ⟨a, r, h1, h2, h3, h4, h5, ?_⟩
    rw [rdT_eq N a f h1 (by omega), rdT_eq N (n - a) (f + a) (by omega) (by omega)]
    exact h6
/-- what the splits ahead of (k, r) make -/
def PJ (g : Gm) (fs : Int → Prop) (w : Int → Int) (n f k r kd m : Int) : Prop := (n = 1 ∧ rd g fs w 1 f kd m) ∨ ∃ a q : Int, 1 ≤ a ∧ ((a < k ∧ 0 ≤ q ∧ q < g 10 1) ∨ (a = k ∧ 0 ≤ q ∧ q < r)) ∧ g 4 q = kd ∧ jn g fs q m (rd g fs w a f (g 5 q)) (rd g fs w (n - a) (f + a) (g 6 q))
theorem PJ_0 (n f kd m : Int) : PJ g fs w n f 1 0 kd m ↔ n = 1 ∧ rd g fs w 1 f kd m := by
  constructor
  · rintro (h | ⟨a, q, h1, h2, -⟩)
    · exact h
    · omega
  · exact Or.inl
theorem PJ_row (n f k kd m : Int) : PJ g fs w n f k (g 10 1) kd m ↔ PJ g fs w n f (k + 1) 0 kd m := by
  constructor
  · rintro (h | ⟨a, q, h1, h2, h3⟩)
    · exact Or.inl h
    · exact Or.inr ⟨a, q, h1, by omega, h3⟩
  · rintro (h | ⟨a, q, h1, h2, h3⟩)
    · exact Or.inl h
    · refine Or.inr ⟨a, q, h1, ?_, h3⟩
      rcases h2 with h2 | h2
      · by_cases ha : a < k
        · exact Or.inl ⟨ha, h2.2⟩
        · exact Or.inr ⟨by omega, h2.2⟩
      · omega
theorem PJ_end {n : Int} (hn : 1 ≤ n) (f kd m : Int) : PJ g fs w n f n 0 kd m ↔ rd g fs w n f kd m := by
  by_cases h1 : n = 1
  · subst h1; rw [PJ_0]; simp
  · rw [rd_s (by omega)]
    constructor
    · rintro (h | ⟨a, q, h1, h2, h3⟩)
      · omega
      · rcases h2 with h2 | h2
        · exact ⟨a, q, h1, h2.1, h2.2.1, h2.2.2, h3⟩
        · omega
    · rintro ⟨a, q, h1, h2, h3, h4, h5⟩
      exact Or.inr ⟨a, q, h1, Or.inl ⟨h2, h3, h4⟩, h5⟩
theorem PJ_s (n f k : Int) {r : Int} (hk : 1 ≤ k) (hr : 0 ≤ r) (kd m : Int) : PJ g fs w n f k (r + 1) kd m ↔ PJ g fs w n f k r kd m ∨ (kd = g 4 r ∧ jn g fs r m (rd g fs w k f (g 5 r)) (rd g fs w (n - k) (f + k) (g 6 r))) := by
  constructor
  · rintro (h | ⟨a, q, h1, h2, h3⟩)
    · exact Or.inl (Or.inl h)
    · by_cases hq : a = k ∧ q = r
      · obtain ⟨rfl, rfl⟩ := hq
        exact Or.inr ⟨h3.1.symm, h3.2⟩
      · exact Or.inl (Or.inr ⟨a, q, h1, by omega, h3⟩)
  · rintro ((h | ⟨a, q, h1, h2, h3⟩) | ⟨h1, h2⟩)
    · exact Or.inl h
    · exact Or.inr ⟨a, q, h1, by omega, h3⟩
    · exact Or.inr ⟨k, r, hk, by omega, h1.symm, h2⟩
/-! marks as four bits, joined -/
variable {y z r : Int} {A B : Int → Prop}
def nibOf (y : Int) (A : Int → Prop) : Prop := (0 ≤ y ∧ y ≤ 15) ∧ ∀ m, 0 ≤ m → m < 4 → (tbit y m ↔ A m)
theorem nibOf_nz (h : nibOf y A) : y ≠ 0 ↔ ∃ q, 0 ≤ q ∧ q < 4 ∧ A q := by
  rw [nib_nz h.1]
  constructor
  · rintro ⟨q, h1, h2, h3⟩; exact ⟨q, h1, h2, (h.2 q h1 h2).mp h3⟩
  · rintro ⟨q, h1, h2, h3⟩; exact ⟨q, h1, h2, (h.2 q h1 h2).mpr h3⟩
theorem tbit_0 (m : Int) : ¬ tbit 0 m := by unfold tbit; simp
theorem jn_0 (hA : nibOf y A) (hB : nibOf z B) (h : y = 0 ∨ z = 0) : nibOf 0 (fun m => jn g fs r m A B) := by
  refine ⟨by omega, fun m h1 h2 => ⟨fun q => absurd q (tbit_0 m), fun q => ?_⟩⟩
  rcases h with h | h
  · exact absurd h ((nibOf_nz hA).mpr q.1)
  · exact absurd h ((nibOf_nz hB).mpr q.2.1)
theorem jn_A (hA : nibOf y A) (hB : nibOf z B) (hy : y ≠ 0) (hz : z ≠ 0) (ha : g 7 r = 1 ∧ ¬ fs r) : nibOf (iand y z) (fun m => jn g fs r m A B) := by
  have e := iand_nib hA.1 hB.1
  refine ⟨e.1, fun m h1 h2 => ?_⟩
  rw [e.2, hA.2 m h1 h2, hB.2 m h1 h2]
  exact ⟨fun q => ⟨(nibOf_nz hA).mp hy, (nibOf_nz hB).mp hz, fun _ => q, fun n => absurd ha n⟩, fun q => q.2.2.1 ha⟩
theorem jn_Y (hA : nibOf y A) (hB : nibOf z B) (hy : y ≠ 0) (hz : z ≠ 0) (ha : ¬ (g 7 r = 1 ∧ ¬ fs r)) (h0 : g 8 r = 0) : nibOf y (fun m => jn g fs r m A B) := by
  refine ⟨hA.1, fun m h1 h2 => ?_⟩
  rw [hA.2 m h1 h2]
  exact ⟨fun q => ⟨(nibOf_nz hA).mp hy, (nibOf_nz hB).mp hz, fun n => absurd n ha, fun _ => ⟨fun _ => q, fun n => absurd h0 n⟩⟩, fun q => (q.2.2.2 ha).1 h0⟩
theorem jn_Z (hA : nibOf y A) (hB : nibOf z B) (hy : y ≠ 0) (hz : z ≠ 0) (ha : ¬ (g 7 r = 1 ∧ ¬ fs r)) (h0 : g 8 r ≠ 0) : nibOf z (fun m => jn g fs r m A B) := by
  refine ⟨hB.1, fun m h1 h2 => ?_⟩
  rw [hB.2 m h1 h2]
  exact ⟨fun q => ⟨(nibOf_nz hA).mp hy, (nibOf_nz hB).mp hz, fun n => absurd n ha, fun _ => ⟨fun n => absurd n h0, fun _ => q⟩⟩, fun q => (q.2.2.2 ha).2 h0⟩
/-! the reference's cells as a grammar's numbers -/
theorem gR_n (h : AH) : gR h 10 0 = h.1 503 0 ∧ gR h 10 1 = h.1 505 0 := ⟨rfl, rfl⟩
theorem gR_w {h : AH} {j : Int} (hj : 0 ≤ j ∧ j < h.1 503 0) : gR h 0 j = h.1 504 (4 * j) ∧ gR h 1 j = h.1 504 (4 * j + 1) ∧ gR h 2 j = h.1 504 (4 * j + 2) ∧ gR h 3 j = h.1 504 (4 * j + 3) := by simp only [gR, clip, if_pos hj, and_self]
theorem gR_r {h : AH} {j : Int} (hj : 0 ≤ j ∧ j < h.1 505 0) : gR h 4 j = h.1 506 (5 * j) ∧ gR h 5 j = h.1 506 (5 * j + 1) ∧ gR h 6 j = h.1 506 (5 * j + 2) ∧ gR h 7 j = h.1 506 (5 * j + 3) ∧ gR h 8 j = h.1 506 (5 * j + 4) := by simp only [gR, clip, if_pos hj, and_self]
theorem gR_p {h : AH} {j : Int} (hj : 0 ≤ j ∧ j < 5) : gR h 9 j = h.1 507 j := clip_in hj
theorem rowR_in {h : AH} {s i : Int} (hi : 0 ≤ i ∧ i < h.1 508 s) : rowR h s i = h.1 509 (10 * s + i) := clip_in hi
end SPEC
