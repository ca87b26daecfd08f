/-! the relation between both, and next keeps it -/
/-- what both hold between calls -/
def RZ (Z : Nat → Nat) (T K : Nat → Int64) (Y x1 x2 x5 x6 x7 x8 x9 : Nat → Nat) : Prop :=
  RR T Z K Y x5 x6 x7 x8 x9 ∧ (∀ p, p < Z 2 → byt T p = x1 p) ∧ (∀ j, x1 j < 256) ∧ ∀ j, x2 j < 256
def EQV (u : lmU) (v : rmU) : Prop := RZ u.1 u.2.1 u.2.2 v.1 v.2.1 v.2.2.1 v.2.2.2.2.2.1 v.2.2.2.2.2.2.1 v.2.2.2.2.2.2.2.1 v.2.2.2.2.2.2.2.2.1 v.2.2.2.2.2.2.2.2.2
theorem nxL_2 {T : Nat → Int64} : ∀ (k : Nat) (Z : Nat → Nat) (K : Nat → Int64) (e0 f : Nat), lmJ Z → (nxL T k Z K e0 f).1 2 = Z 2 := by
  intro k
  induction k with
  | zero => intro Z K e0 f _; rfl
  | succ k ih =>
    intro Z K e0 f hJ
    rw [nxL]
    by_cases c : Z 3 < Z 2 ∧ e0 = 0 ∧ f = 0
    · rw [if_pos c]
      have h := cpZ_J (T := T) (K := K) hJ c.1
      rw [ih _ _ _ _ h.1]
      exact h.2.1.1
    · rw [if_neg c]
theorem clZ_k2 (Z : Nat → Nat) : (clZ Z).1 2 = Z 2 := by
  unfold clZ
  split
  · rfl
  · split
    · rfl
    · split <;> rfl
theorem nxE_2 {w : (Nat → Nat) × (Nat → Int64) × Nat} : (nxE w).1 2 = w.1 2 := by
  unfold nxE
  split
  · exact clZ_k2 _
  · rfl
theorem pss_lf {T : Nat → Int64} {n a li : Nat} : pss T n (lf T n a) a li 0 = (lf T n a, li + (lf T n a - a) / 2, 0) := by
  have := lf_b T n a
  rw [pss]
  by_cases c : a < lf T n a
  · rw [if_pos c, if_neg (Nat.lt_irrefl _)]
  · rw [if_neg c]
    have e : lf T n a = a := by omega
    rw [e, az]
set_option maxHeartbeats 4000000 in
theorem eq_next {Z : Nat → Nat} {T K : Nat → Int64} {Y x1 x2 x3 x4 x5 x6 x7 x8 x9 : Nat → Nat} (h : RZ Z T K Y x1 x2 x5 x6 x7 x8 x9) :
    (nxZ T Z K).2.2 = (rnA Y x1 x2 x3 x4 x5 x6 x7 x8 x9).1 ∧ EQV ((nxZ T Z K).1, T, (nxZ T Z K).2.1) (rnA Y x1 x2 x3 x4 x5 x6 x7 x8 x9).2 := by
  obtain ⟨hR, ht, h1, h2⟩ := h
  obtain ⟨⟨r1, r2, r3, r4, r5, r6⟩, ⟨hI, r7⟩, ⟨r8, r9, r10⟩, r11⟩ := hR
  have hI2 := hI
  unfold lmI at hI2
  unfold nxZ rnA
  by_cases c0 : Z 8 = 0
  · rw [if_neg (show ¬ ¬ Z 8 = 0 by omega), if_neg (show ¬ ¬ Y 4 = 0 by omega)]
    obtain ⟨s1, s2, s3⟩ := r2 c0
    have hc := ly_ch (T := T) (X := x1) (n := Y 0) (fun p hp => ht p (by omega)) 32769 (Y 2) (Y 3) 0 x2 x3 x4 (by omega) r7
    have hS1 := ly_S (n := Y 0) h1 32769 (Y 2) (Y 3) 0 x2 x3 x4 h2
    have hb1 := ly_b (X := x1) (n := Y 0) 32769 (Y 2) (Y 3) 0 x2 x3 x4 (Nat.zero_le _)
    generalize hly : ly x1 (Y 0) 32769 (Y 2) (Y 3) 0 x2 x3 x4 = lw at hc hS1 hb1
    obtain ⟨li1, q1, S1, R1, L1⟩ := lw
    dsimp only at hS1 hb1 ⊢
    obtain ⟨-, -, hc1, hc2, hc3⟩ := hc _ _ _ _ _ rfl
    have hlb := lf_b T (Y 0) (Y 2)
    have y3 : nxY T Z 3 = lf T (Y 0) (Y 2) := by
      show (pss T (Z 2) (lf T (Z 2) (Z 3)) (Z 3) (Z 4) 0).1 = _
      rw [pss_lf, ← r1, s1]
    have y4 : nxY T Z 4 = Y 3 + (lf T (Y 0) (Y 2) - Y 2) / 2 := by
      show (pss T (Z 2) (lf T (Z 2) (Z 3)) (Z 3) (Z 4) 0).2.1 = _
      rw [pss_lf, ← r1, s1, s2]
    by_cases c1 : q1 = 0
    · subst c1
      rw [rx_ge (Nat.le_refl _)] at hc1 hc2
      rw [if_pos (show Z 2 ≤ nxY T Z 3 by omega), if_pos rfl]
      refine ⟨rfl, ⟨⟨show Y 0 = Z 2 from r1, fun _ => ⟨show nxY T Z 3 = Y 0 by omega, show nxY T Z 4 = li1 by omega, show Z 6 = Y 7 from s3⟩, show Z 8 = Y 4 from r3, show Z 7 = Y 5 from r4, show Z 5 = Y 6 from r5, rfl⟩, ⟨?_, Nat.le_refl _⟩, ⟨r8, r9, fun z => absurd (show 0 < 0 from z) (by decide)⟩, fun j hj => absurd (show j < 0 from hj) (by omega)⟩, ht, h1, hS1⟩
      show Z 2 ≤ 32768 ∧ nxY T Z 3 ≤ Z 2 ∧ 1 ≤ nxY T Z 4 ∧ nxY T Z 4 ≤ nxY T Z 3 + 1 ∧ Z 5 ≤ 20000 ∧ Z 6 ≤ 1000 ∧ Z 8 ≤ 1 ∧ 0 ≤ 8000
      omega
    · have hch : Chn T (Y 0) q1 S1 (rx R1 q1 (Y 0)) (rx L1 q1 li1) := ⟨rx_ge (Nat.le_refl _), hS1, fun j hj => hc3 j (Nat.zero_le _) hj⟩
      have hlt := (hch.end (j := 0) (Nat.zero_le _)).mpr (by omega)
      rw [if_neg (show ¬ Z 2 ≤ nxY T Z 3 by omega), if_neg c1]
      have hJ : lmJ (nxS (nxY T Z)) := by
        show Z 2 ≤ 32768 ∧ nxY T Z 3 ≤ Z 2 ∧ 1 ≤ nxY T Z 4 ∧ nxY T Z 4 ≤ nxY T Z 3 + 1 ∧ Z 5 ≤ 20000 ∧ Z 6 ≤ 1000 ∧ 0 ≤ nxY T Z 3 ∧ 1 ≤ 1 ∧ 0 ≤ 32769 ∧ 0 ≤ 32769 ∧ (0 < 0 → 1 ≤ nxY T Z 12 ∧ nxY T Z 12 ≤ 32769) ∧ (8000 < 0 → 1 ≤ nxY T Z 13 ∧ nxY T Z 13 ≤ 32769)
        omega
      have hsim := sim_loop (x1 := x1) (x3 := R1) (x4 := L1) hch (by omega) (fun j hj => ⟨(rx_lt hj).symm, (rx_lt hj).symm⟩) 40000 (nxS (nxY T Z)) K (zu (zu (zu (zu Y 8 q1) 12 li1) 13 0) 18 0) x5 x6 x7 x8 x9 0 0 0 1 0 (by omega)
        ⟨⟨r1.symm, rfl, rfl, (rx_ge (Nat.le_refl _)).symm, show nxY T Z 3 = _ by omega, show nxY T Z 4 = _ by omega, Nat.zero_le _⟩, ⟨rfl, rfl, fun z => absurd z (by decide), fun z => absurd z (by decide), Nat.le_refl _, Nat.le_refl _⟩, ⟨show Z 6 = Y 7 from s3, show Z 5 = Y 6 from r5, show Z 7 = Y 5 from r4, show Z 8 = 0 from c0, show Y 4 = 0 by omega, rfl, show Y 6 ≤ 20000 by omega, show Y 7 ≤ 1000 by omega⟩, ⟨fun _ => rfl, Nat.le_refl _, fun _ => rfl⟩, ⟨fun j _ _ hj => absurd hj (Nat.not_lt_zero _), fun j _ _ hj => absurd hj (Nat.not_lt_zero _)⟩, ⟨r8, r9, fun z => absurd z (by decide)⟩, fun j hj => absurd hj (Nat.not_lt_zero _)⟩ hJ (show Y 2 ≤ Y 0 from r7)
      have hk2 : (nxE (nxL T 40000 (nxS (nxY T Z)) K 0 0)).1 2 = Z 2 := by rw [nxE_2, nxL_2 _ _ _ _ _ hJ]; rfl
      generalize nxE (nxL T 40000 (nxS (nxY T Z)) K 0 0) = cw at hsim hk2 ⊢
      generalize rL x1 S1 R1 L1 40000 (zu (zu (zu (zu Y 8 q1) 12 li1) 13 0) 18 0) x5 x6 x7 x8 x9 0 0 0 1 0 0 = rw at hsim ⊢
      obtain ⟨o1, Y', x5', x6', x7', x8', x9', o2, o3⟩ := hsim
      refine ⟨o1, ?_⟩
      rw [o2]
      exact ⟨o3, fun p hp => ht p (by rw [← hk2]; exact hp), h1, hS1⟩
  · rw [if_pos c0, if_pos (show ¬ Y 4 = 0 by omega)]
    refine ⟨rfl, ⟨⟨show Y 0 = Z 2 from r1, fun z => absurd (show Z 8 = 0 from z) c0, show Z 8 = Y 4 from r3, show Z 7 = Y 5 from r4, show Z 5 = Y 6 from r5, rfl⟩, ⟨?_, show Y 2 ≤ Y 0 from r7⟩, ⟨r8, r9, fun z => absurd (show 0 < 0 from z) (by decide)⟩, fun j hj => absurd (show j < 0 from hj) (by omega)⟩, ht, h1, h2⟩
    show Z 2 ≤ 32768 ∧ Z 3 ≤ Z 2 ∧ 1 ≤ Z 4 ∧ Z 4 ≤ Z 3 + 1 ∧ Z 5 ≤ 20000 ∧ Z 6 ≤ 1000 ∧ Z 8 ≤ 1 ∧ 0 ≤ 8000
    omega
