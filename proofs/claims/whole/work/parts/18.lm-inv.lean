/-! what cutting a piece keeps -/
/-- while a line is cut -/
def lmJ (Z : Nat → Nat) : Prop := Z 2 ≤ 32768 ∧ Z 3 ≤ Z 2 ∧ 1 ≤ Z 4 ∧ Z 4 ≤ Z 3 + 1 ∧ Z 5 ≤ 20000 ∧ Z 6 ≤ 1000 ∧ Z 10 ≤ Z 3 ∧ Z 11 ≤ 1 ∧ Z 14 ≤ 32769 ∧ Z 15 ≤ 32769 ∧ (0 < Z 10 → 1 ≤ Z 12 ∧ Z 12 ≤ 32769) ∧ (8000 < Z 10 → 1 ≤ Z 13 ∧ Z 13 ≤ 32769)
/-- what it leaves alone: the length, the lines counted, the tokens at hand -/
def lmK (Z Y : Nat → Nat) : Prop := Y 2 = Z 2 ∧ Y 5 = Z 5 ∧ Y 9 = Z 9
theorem pbZ_J {T : Nat → Int64} {Z : Nat → Nat} {stop : Nat} (hJ : lmJ Z) (h1 : stop ≤ Z 2) (h2 : Z 3 < stop) : lmJ (pbZ T Z stop) ∧ lmK Z (pbZ T Z stop) ∧ Z 3 < pbZ T Z stop 3 := by
  have hb := pss_b (show pss T (Z 2) stop (Z 3) (Z 4) 0 = ((psZ T Z stop).1, (psZ T Z stop).2.1, (psZ T Z stop).2.2) from rfl)
  have e2 : (pbZ T Z stop) 2 = Z 2 := rfl
  have e3 : (pbZ T Z stop) 3 = (psZ T Z stop).1 := rfl
  have e4 : (pbZ T Z stop) 4 = (psZ T Z stop).2.1 := rfl
  have e5 : (pbZ T Z stop) 5 = Z 5 := rfl
  have e6 : (pbZ T Z stop) 6 = Z 6 := rfl
  have e7 : (pbZ T Z stop) 7 = Z 7 := rfl
  have e8 : (pbZ T Z stop) 8 = Z 8 := rfl
  have e9 : (pbZ T Z stop) 9 = Z 9 := rfl
  have e10 : (pbZ T Z stop) 10 = Z 10 := rfl
  have e11 : (pbZ T Z stop) 11 = 1 := rfl
  have e12 : (pbZ T Z stop) 12 = Z 12 := rfl
  have e13 : (pbZ T Z stop) 13 = Z 13 := rfl
  have e14 : (pbZ T Z stop) 14 = Z 14 := rfl
  have e15 : (pbZ T Z stop) 15 = Z 15 := rfl
  unfold lmJ at hJ ⊢
  unfold lmK
  omega
theorem adZ_J {T : Nat → Int64} {Z : Nat → Nat} {stop : Nat} (hJ : lmJ Z) (h1 : stop ≤ Z 2) (h2 : Z 3 < stop) : lmJ (adZ T Z stop) ∧ lmK Z (adZ T Z stop) ∧ Z 3 < adZ T Z stop 3 := by
  have hb := pss_b (show pss T (Z 2) stop (Z 3) (Z 4) 0 = ((psZ T Z stop).1, (psZ T Z stop).2.1, (psZ T Z stop).2.2) from rfl)
  have e2 : (adZ T Z stop) 2 = Z 2 := rfl
  have e3 : (adZ T Z stop) 3 = (psZ T Z stop).1 := rfl
  have e4 : (adZ T Z stop) 4 = (psZ T Z stop).2.1 := rfl
  have e5 : (adZ T Z stop) 5 = Z 5 := rfl
  have e6 : (adZ T Z stop) 6 = Z 6 := rfl
  have e7 : (adZ T Z stop) 7 = Z 7 := rfl
  have e8 : (adZ T Z stop) 8 = Z 8 := rfl
  have e9 : (adZ T Z stop) 9 = Z 9 := rfl
  have e10 : (adZ T Z stop) 10 = Z 10 + 1 := rfl
  have e11 : (adZ T Z stop) 11 = 0 := rfl
  have e12 : (adZ T Z stop) 12 = (if Z 10 = 0 then Z 4 else Z 12) := rfl
  have e13 : (adZ T Z stop) 13 = (if Z 10 = 8000 then Z 4 else Z 13) := rfl
  have e14 : (adZ T Z stop) 14 = Z 14 := rfl
  have e15 : (adZ T Z stop) 15 = Z 15 := rfl
  unfold lmJ at hJ ⊢
  unfold lmK
  split at e12 <;> split at e13 <;> omega
theorem stZ_J {Z : Nat → Nat} {a b : Nat} (hJ : lmJ Z) : lmJ (zu (zu Z 7 a) 8 b) ∧ lmK Z (zu (zu Z 7 a) 8 b) := by
  have e2 : (zu (zu Z 7 a) 8 b) 2 = Z 2 := rfl
  have e3 : (zu (zu Z 7 a) 8 b) 3 = Z 3 := rfl
  have e4 : (zu (zu Z 7 a) 8 b) 4 = Z 4 := rfl
  have e5 : (zu (zu Z 7 a) 8 b) 5 = Z 5 := rfl
  have e6 : (zu (zu Z 7 a) 8 b) 6 = Z 6 := rfl
  have e7 : (zu (zu Z 7 a) 8 b) 7 = a := rfl
  have e8 : (zu (zu Z 7 a) 8 b) 8 = b := rfl
  have e9 : (zu (zu Z 7 a) 8 b) 9 = Z 9 := rfl
  have e10 : (zu (zu Z 7 a) 8 b) 10 = Z 10 := rfl
  have e11 : (zu (zu Z 7 a) 8 b) 11 = Z 11 := rfl
  have e12 : (zu (zu Z 7 a) 8 b) 12 = Z 12 := rfl
  have e13 : (zu (zu Z 7 a) 8 b) 13 = Z 13 := rfl
  have e14 : (zu (zu Z 7 a) 8 b) 14 = Z 14 := rfl
  have e15 : (zu (zu Z 7 a) 8 b) 15 = Z 15 := rfl
  unfold lmJ at hJ ⊢
  unfold lmK
  omega
theorem s6_J {Z : Nat → Nat} (hJ : lmJ Z) (h : Z 6 < 1000) : lmJ (zu Z 6 (Z 6 + 1)) := by
  have e2 : (zu Z 6 (Z 6 + 1)) 2 = Z 2 := rfl
  have e3 : (zu Z 6 (Z 6 + 1)) 3 = Z 3 := rfl
  have e4 : (zu Z 6 (Z 6 + 1)) 4 = Z 4 := rfl
  have e5 : (zu Z 6 (Z 6 + 1)) 5 = Z 5 := rfl
  have e6 : (zu Z 6 (Z 6 + 1)) 6 = Z 6 + 1 := rfl
  have e7 : (zu Z 6 (Z 6 + 1)) 7 = Z 7 := rfl
  have e8 : (zu Z 6 (Z 6 + 1)) 8 = Z 8 := rfl
  have e9 : (zu Z 6 (Z 6 + 1)) 9 = Z 9 := rfl
  have e10 : (zu Z 6 (Z 6 + 1)) 10 = Z 10 := rfl
  have e11 : (zu Z 6 (Z 6 + 1)) 11 = Z 11 := rfl
  have e12 : (zu Z 6 (Z 6 + 1)) 12 = Z 12 := rfl
  have e13 : (zu Z 6 (Z 6 + 1)) 13 = Z 13 := rfl
  have e14 : (zu Z 6 (Z 6 + 1)) 14 = Z 14 := rfl
  have e15 : (zu Z 6 (Z 6 + 1)) 15 = Z 15 := rfl
  unfold lmJ at hJ ⊢
  omega
theorem pcZ_J {T : Nat → Int64} {Z : Nat → Nat} {q : Nat} (hJ : lmJ Z) (h2 : Z 3 < q) : lmJ (pcZ T Z q).1 ∧ lmK Z (pcZ T Z q).1 ∧ ((pcZ T Z q).2 = 0 → Z 3 < (pcZ T Z q).1 3) ∧ (pcZ T Z q).2 ≤ 21 := by
  unfold pcZ
  cases h : cmE T (Z 2) q false with
  | none => exact ⟨(stZ_J hJ).1, (stZ_J hJ).2, fun z => absurd (show 1 = 0 from z) (by decide), show 1 ≤ 21 by decide⟩
  | some stop =>
    have hb := cmE_b h
    have h3 := pbZ_J (T := T) (stop := stop) hJ (by omega) (by omega)
    exact ⟨h3.1, h3.2.1, fun _ => h3.2.2, Nat.zero_le _⟩
theorem qeZ_J {T : Nat → Int64} {Z : Nat → Nat} {g y : Nat} (hJ : lmJ Z) (hg : g < Z 2) : lmJ (qeZ T Z g y).2 ∧ lmK Z (qeZ T Z g y).2 := by
  have hu := qeZ_u (T := T) (Z := Z) (p := g) (y := y) (B := 32769) (by unfold lmJ at hJ; omega) (by unfold lmJ at hJ; omega) (by unfold lmJ at hJ; omega) (by unfold lmJ at hJ; omega)
  have e2 : (qeZ T Z g y).2 2 = Z 2 := qeZ_k (by decide) (by decide)
  have e3 : (qeZ T Z g y).2 3 = Z 3 := qeZ_k (by decide) (by decide)
  have e4 : (qeZ T Z g y).2 4 = Z 4 := qeZ_k (by decide) (by decide)
  have e5 : (qeZ T Z g y).2 5 = Z 5 := qeZ_k (by decide) (by decide)
  have e6 : (qeZ T Z g y).2 6 = Z 6 := qeZ_k (by decide) (by decide)
  have e7 : (qeZ T Z g y).2 7 = Z 7 := qeZ_k (by decide) (by decide)
  have e8 : (qeZ T Z g y).2 8 = Z 8 := qeZ_k (by decide) (by decide)
  have e9 : (qeZ T Z g y).2 9 = Z 9 := qeZ_k (by decide) (by decide)
  have e10 : (qeZ T Z g y).2 10 = Z 10 := qeZ_k (by decide) (by decide)
  have e11 : (qeZ T Z g y).2 11 = Z 11 := qeZ_k (by decide) (by decide)
  have e12 : (qeZ T Z g y).2 12 = Z 12 := qeZ_k (by decide) (by decide)
  have e13 : (qeZ T Z g y).2 13 = Z 13 := qeZ_k (by decide) (by decide)
  unfold lmJ at hJ ⊢
  unfold lmK
  omega
theorem cqZ_J {T : Nat → Int64} {Z : Nat → Nat} {K : Nat → Int64} {y : Nat} (hJ : lmJ Z) (h : Z 3 < Z 2) : lmJ (cqZ T Z K y).1 ∧ lmK Z (cqZ T Z K y).1 ∧ ((cqZ T Z K y).2.2 = 0 → Z 3 < (cqZ T Z K y).1 3) ∧ (cqZ T Z K y).2.2 ≤ 21 := by
  have hq := qeZ_J (T := T) (y := y) hJ h
  have e2 : (qeZ T Z (Z 3) y).2 2 = Z 2 := qeZ_k (by decide) (by decide)
  have e3 : (qeZ T Z (Z 3) y).2 3 = Z 3 := qeZ_k (by decide) (by decide)
  unfold cqZ
  have hs := fun x => qeZ_s (T := T) (Z := Z) (p := Z 3) (y := y) (x := x)
  generalize (qeZ T Z (Z 3) y).2 = Y at hq e2 e3 ⊢
  generalize (qeZ T Z (Z 3) y).1 = o at hs ⊢
  obtain ⟨hY, hK⟩ := hq
  cases o with
  | some stop =>
    have hb := hs stop rfl
    have h3 := adZ_J (T := T) (stop := stop) hY (by omega) (by omega)
    show lmJ (adZ T Y stop) ∧ lmK Z (adZ T Y stop) ∧ (0 = 0 → Z 3 < adZ T Y stop 3) ∧ 0 ≤ 21
    have h4 := h3.2.1
    unfold lmK at h4 hK ⊢
    exact ⟨h3.1, by omega, fun _ => by omega, by omega⟩
  | none =>
    unfold cqR
    dsimp only
    by_cases c : 1000 ≤ Y 6
    · rw [if_pos c]
      have h4 := (stZ_J (a := Y 4) (b := 1) hY).2
      unfold lmK at h4 hK ⊢
      exact ⟨(stZ_J hY).1, by dsimp only; omega, fun z => absurd (show 21 = 0 from z) (by decide), show 21 ≤ 21 by decide⟩
    · rw [if_neg c]
      have hl := lf_b T (Y 2) (Y 3 + 1)
      have h3 := adZ_J (T := T) (Z := zu Y 6 (Y 6 + 1)) (stop := lf T (Y 2) (Y 3 + 1)) (s6_J hY (by omega)) (by show _ ≤ Y 2; omega) (by show Y 3 < _; omega)
      have h4 : lmK Y (adZ T (zu Y 6 (Y 6 + 1)) (lf T (Y 2) (Y 3 + 1))) := h3.2.1
      have h5 : Y 3 < adZ T (zu Y 6 (Y 6 + 1)) (lf T (Y 2) (Y 3 + 1)) 3 := h3.2.2
      unfold lmK at h4 hK ⊢
      exact ⟨h3.1, by dsimp only; omega, fun _ => by dsimp only; omega, Nat.zero_le _⟩
theorem cwZ_J {T : Nat → Int64} {Z : Nat → Nat} {K : Nat → Int64} {g y : Nat} (hJ : lmJ Z) (h : Z 3 < g) (hg : g < Z 2) : lmJ (cwZ T Z K g y).1 ∧ lmK Z (cwZ T Z K g y).1 ∧ ((cwZ T Z K g y).2.2 = 0 → Z 3 < (cwZ T Z K g y).1 3) ∧ (cwZ T Z K g y).2.2 ≤ 21 := by
  have hq := qeZ_J (T := T) (y := y) hJ hg
  have e2 : (qeZ T Z g y).2 2 = Z 2 := qeZ_k (by decide) (by decide)
  have e3 : (qeZ T Z g y).2 3 = Z 3 := qeZ_k (by decide) (by decide)
  unfold cwZ
  have hs := fun x => qeZ_s (T := T) (Z := Z) (p := g) (y := y) (x := x)
  generalize (qeZ T Z g y).2 = Y at hq e2 e3 ⊢
  generalize (qeZ T Z g y).1 = o at hs ⊢
  obtain ⟨hY, hK⟩ := hq
  cases o with
  | some stop =>
    have hb := hs stop rfl
    have h3 := adZ_J (T := T) (stop := stop) hY (by omega) (by omega)
    show lmJ (adZ T Y stop) ∧ lmK Z (adZ T Y stop) ∧ (0 = 0 → Z 3 < adZ T Y stop 3) ∧ 0 ≤ 21
    have h4 := h3.2.1
    unfold lmK at h4 hK ⊢
    exact ⟨h3.1, by omega, fun _ => by omega, by omega⟩
  | none =>
    have h3 := adZ_J (T := T) (stop := g) hY (by omega) (by omega)
    show lmJ (adZ T Y g) ∧ lmK Z (adZ T Y g) ∧ (0 = 0 → Z 3 < adZ T Y g 3) ∧ 0 ≤ 21
    have h4 := h3.2.1
    unfold lmK at h4 hK ⊢
    exact ⟨h3.1, by omega, fun _ => by omega, by omega⟩
theorem csZ_J {T : Nat → Int64} {Z : Nat → Nat} {K : Nat → Int64} {x y b : Nat} (hJ : lmJ Z) (h : Z 3 < b) (hb : b ≤ Z 2) (hy : y = gb T (Z 2) b) : lmJ (csZ T Z K x y b).1 ∧ lmK Z (csZ T Z K x y b).1 ∧ ((csZ T Z K x y b).2.2 = 0 → Z 3 < (csZ T Z K x y b).1 3) ∧ (csZ T Z K x y b).2.2 ≤ 21 := by
  have g1 := gb_in T (Z 2) b
  have g2 := gb_in T (Z 2) (lf T (Z 2) (b + 1))
  have l1 := lf_b T (Z 2) (b + 1)
  have l2 := lf_b T (Z 2) (lf T (Z 2) (b + 1) + 1)
  unfold csZ
  by_cases c : hsG 0 3 x y (gb T (Z 2) (lf T (Z 2) (b + 1))) 65 0 = true
  · rw [if_pos c]
    have h1 := hsG_y (by decide) (by decide) 65 0 c
    have h2 := h1.2 (by decide)
    have h3 := adZ_J (T := T) (stop := lf T (Z 2) (lf T (Z 2) (b + 1) + 1)) hJ (by omega) (by omega)
    exact ⟨h3.1, h3.2.1, fun _ => h3.2.2, Nat.zero_le _⟩
  · rw [if_neg c]
    by_cases d : hsG 1 2 x y (gb T (Z 2) (lf T (Z 2) (b + 1))) 65 0 = true
    · rw [if_pos d]
      have h1 := hsG_y (by decide) (by decide) 65 0 d
      have h3 := adZ_J (T := T) (stop := lf T (Z 2) (b + 1)) hJ (by omega) (by omega)
      exact ⟨h3.1, h3.2.1, fun _ => h3.2.2, Nat.zero_le _⟩
    · rw [if_neg d]
      have h3 := adZ_J (T := T) (stop := b) hJ (by omega) (by omega)
      exact ⟨h3.1, h3.2.1, fun _ => h3.2.2, Nat.zero_le _⟩
theorem cpZ_J {T : Nat → Int64} {Z : Nat → Nat} {K : Nat → Int64} (hJ : lmJ Z) (h : Z 3 < Z 2) : lmJ (cpZ T Z K).1 ∧ lmK Z (cpZ T Z K).1 ∧ ((cpZ T Z K).2.2 = 0 → Z 3 < (cpZ T Z K).1 3) ∧ (cpZ T Z K).2.2 ≤ 21 := by
  have l1 := lf_b T (Z 2) (Z 3 + 1)
  have g1 := gb_in T (Z 2) (lf T (Z 2) (Z 3 + 1))
  unfold cpZ
  generalize hb : lf T (Z 2) (Z 3 + 1) = b at l1 g1 ⊢
  generalize hx : gb T (Z 2) (Z 3) = x
  generalize hy : gb T (Z 2) b = y at g1 ⊢
  unfold cpR
  by_cases c1 : x = 10
  · rw [if_pos c1]
    have h3 := pbZ_J (T := T) (stop := Z 3 + 1) hJ (by omega) (by omega)
    exact ⟨h3.1, h3.2.1, fun _ => h3.2.2, Nat.zero_le _⟩
  rw [if_neg c1]
  by_cases c2 : isB x = true
  · rw [if_pos c2]
    have h3 := pbZ_J (T := T) (stop := b) hJ (by omega) (by omega)
    exact ⟨h3.1, h3.2.1, fun _ => h3.2.2, Nat.zero_le _⟩
  rw [if_neg c2]
  by_cases c3 : x = 47 ∧ y = 42
  · rw [if_pos c3]
    have l2 := lf_b T (Z 2) (b + 1)
    exact pcZ_J hJ (by omega)
  rw [if_neg c3]
  by_cases c4 : x = 47 ∧ y = 47
  · rw [if_pos c4]
    have l2 := lnE_b T (Z 2) b
    have h3 := pbZ_J (T := T) (stop := lnE T (Z 2) b) hJ (by omega) (by omega)
    exact ⟨h3.1, h3.2.1, fun _ => h3.2.2, Nat.zero_le _⟩
  rw [if_neg c4]
  by_cases c5 : isQ x = true
  · rw [if_pos c5]
    exact cqZ_J hJ h
  rw [if_neg c5]
  by_cases c6 : x = 76 ∧ isQ y = true
  · rw [if_pos c6]
    have := isQ_lt c6.2
    exact cwZ_J hJ (by omega) (by omega)
  rw [if_neg c6]
  by_cases c7 : isL x = true
  · rw [if_pos c7]
    have l2 := nmE_b T (Z 2) b
    have h3 := adZ_J (T := T) (stop := nmE T (Z 2) b) hJ (by omega) (by omega)
    exact ⟨h3.1, h3.2.1, fun _ => h3.2.2, Nat.zero_le _⟩
  rw [if_neg c7]
  by_cases c8 : isD x = true ∨ (x = 46 ∧ isD y = true)
  · rw [if_pos c8]
    have l2 := nuE_b T (Z 2) b x
    have h3 := adZ_J (T := T) (stop := nuE T (Z 2) b x) hJ (by omega) (by omega)
    exact ⟨h3.1, h3.2.1, fun _ => h3.2.2, Nat.zero_le _⟩
  rw [if_neg c8]
  exact csZ_J hJ (by omega) (by omega) hy.symm
/-- the loop of next: k turns at most; e0: the line has ended; f: the fault -/
def nxL (T : Nat → Int64) : Nat → (Nat → Nat) → (Nat → Int64) → Nat → Nat → (Nat → Nat) × (Nat → Int64) × Nat
  | 0, Z, K, _, f => (Z, K, f)
  | k + 1, Z, K, e0, f => if Z 3 < Z 2 ∧ e0 = 0 ∧ f = 0 then nxL T k (cpZ T Z K).1 (cpZ T Z K).2.1 (if gb T (Z 2) (Z 3) = 10 then 1 else 0) (cpZ T Z K).2.2 else (Z, K, f)
/-- behind the loop -/
def nxE (w : (Nat → Nat) × (Nat → Int64) × Nat) : (Nat → Nat) × (Nat → Int64) × Nat := if w.2.2 = 0 then ((clZ w.1).1, w.2.1, (clZ w.1).2) else w
/-- the answer of next: the fault, or the count -/
def nxA (w : (Nat → Nat) × (Nat → Int64) × Nat) : Int32 := if w.2.2 = 0 then nI (w.1 9) else (-10) - nI w.2.2
