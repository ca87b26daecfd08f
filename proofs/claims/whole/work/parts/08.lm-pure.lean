/-! what LineMill's private methods compute, in numbers: T the packed text, n its length, places q -/
def isL (x : Nat) : Bool := (decide (65 ≤ x) && decide (x ≤ 90)) || (decide (97 ≤ x) && decide (x ≤ 122)) || decide (x = 95)
def isD (x : Nat) : Bool := decide (48 ≤ x) && decide (x ≤ 57)
def isB (x : Nat) : Bool := decide (x = 32) || decide (x = 9) || (decide (11 ≤ x) && decide (x ≤ 13))
def isQ (x : Nat) : Bool := decide (x = 34) || decide (x = 39)
def kdQ (y : Nat) : Nat := if y = 34 then 3 else 4
def goN (x y : Nat) : Bool := if x = 43 ∨ x = 45 then decide (y = 101) || decide (y = 69) || decide (y = 112) || decide (y = 80) else isD x || isL x || decide (x = 46)
/-- the first place from q on that splicing leaves -/
def lf (T : Nat → Int64) (n q : Nat) : Nat := if q + 1 < n ∧ gb T n q = 92 ∧ gb T n (q + 1) = 10 then lf T n (q + 2) else q
termination_by n - q
theorem lf_ge (T : Nat → Int64) (n : Nat) : ∀ (k q : Nat), n ≤ q + k → q ≤ lf T n q ∧ (lf T n q ≤ q ∨ lf T n q ≤ n) := by
  intro k
  induction k with
  | zero =>
    intro q h
    rw [lf, if_neg (by omega)]
    exact ⟨Nat.le_refl _, Or.inl (Nat.le_refl _)⟩
  | succ k ih =>
    intro q h
    rw [lf]
    by_cases c : q + 1 < n ∧ gb T n q = 92 ∧ gb T n (q + 1) = 10
    · rw [if_pos c]
      have := ih (q + 2) (by omega)
      omega
    · rw [if_neg c]
      exact ⟨Nat.le_refl _, Or.inl (Nat.le_refl _)⟩
theorem lf_b (T : Nat → Int64) (n q : Nat) : q ≤ lf T n q ∧ (lf T n q ≤ q ∨ lf T n q ≤ n) := lf_ge T n n q (by omega)
/-- pass: from place a, line li, c bytes passed, on to stop -/
def pss (T : Nat → Int64) (n stop a li c : Nat) : Nat × Nat × Nat :=
  if a < stop then
    if lf T n a < stop then pss T n stop (lf T n a + 1) (li + (lf T n a - a) / 2 + (if gb T n (lf T n a) = 10 then 1 else 0)) (c + 1)
    else (lf T n a, li + (lf T n a - a) / 2, c)
  else (a, li, c)
termination_by stop - a
decreasing_by have := lf_b T n a; omega
/-- commentEnd from q on, star: the byte before was a * -/
def cmE (T : Nat → Int64) (n q : Nat) (star : Bool) : Option Nat :=
  if q < n then
    if star = true ∧ gb T n q = 47 then some (lf T n (q + 1))
    else cmE T n (lf T n (q + 1)) (decide (gb T n q = 42))
  else none
termination_by n - q
decreasing_by have := lf_b T n (q + 1); omega
def lnE (T : Nat → Int64) (n q : Nat) : Nat := if q < n ∧ gb T n q ≠ 10 then lnE T n (lf T n (q + 1)) else q
termination_by n - q
decreasing_by have := lf_b T n (q + 1); omega
def nmE (T : Nat → Int64) (n q : Nat) : Nat := if q < n ∧ (isL (gb T n q) = true ∨ isD (gb T n q) = true) then nmE T n (lf T n (q + 1)) else q
termination_by n - q
decreasing_by have := lf_b T n (q + 1); omega
def nuE (T : Nat → Int64) (n q last : Nat) : Nat := if q < n ∧ goN (gb T n q) last = true then nuE T n (lf T n (q + 1)) (gb T n q) else q
termination_by n - q
decreasing_by have := lf_b T n (q + 1); omega
/-- quoteEnd's search: the place behind the end, and true; or where the line ends, and false -/
def qtE (T : Nat → Int64) (n quote q : Nat) : Nat × Bool :=
  if q < n ∧ gb T n q ≠ 10 then
    if gb T n q = quote then (lf T n (q + 1), true)
    else if gb T n q = 92 ∧ lf T n (q + 1) < n ∧ gb T n (lf T n (q + 1)) ≠ 10 then qtE T n quote (lf T n (lf T n (q + 1) + 1))
    else qtE T n quote (lf T n (q + 1))
  else (q, false)
termination_by n - q
decreasing_by
  · have := lf_b T n (q + 1); have := lf_b T n (lf T n (q + 1) + 1); omega
  · have := lf_b T n (q + 1); omega
theorem lnE_g (T : Nat → Int64) (n : Nat) : ∀ (k q : Nat), n ≤ q + k → q ≤ lnE T n q ∧ (lnE T n q ≤ q ∨ lnE T n q ≤ n) := by
  intro k
  induction k with
  | zero =>
    intro q h
    rw [lnE, if_neg (fun z => by have := z.1; omega)]
    exact ⟨Nat.le_refl _, Or.inl (Nat.le_refl _)⟩
  | succ k ih =>
    intro q h
    rw [lnE]
    by_cases c : q < n ∧ gb T n q ≠ 10
    · rw [if_pos c]
      have h1 := lf_b T n (q + 1)
      have h2 := ih (lf T n (q + 1)) (by omega)
      have h3 := c.1
      omega
    · rw [if_neg c]
      exact ⟨Nat.le_refl _, Or.inl (Nat.le_refl _)⟩
theorem lnE_b (T : Nat → Int64) (n q : Nat) : q ≤ lnE T n q ∧ (lnE T n q ≤ q ∨ lnE T n q ≤ n) := lnE_g T n n q (by omega)
theorem nmE_g (T : Nat → Int64) (n : Nat) : ∀ (k q : Nat), n ≤ q + k → q ≤ nmE T n q ∧ (nmE T n q ≤ q ∨ nmE T n q ≤ n) := by
  intro k
  induction k with
  | zero =>
    intro q h
    rw [nmE, if_neg (fun z => by have := z.1; omega)]
    exact ⟨Nat.le_refl _, Or.inl (Nat.le_refl _)⟩
  | succ k ih =>
    intro q h
    rw [nmE]
    by_cases c : q < n ∧ (isL (gb T n q) = true ∨ isD (gb T n q) = true)
    · rw [if_pos c]
      have h1 := lf_b T n (q + 1)
      have h2 := ih (lf T n (q + 1)) (by omega)
      have h3 := c.1
      omega
    · rw [if_neg c]
      exact ⟨Nat.le_refl _, Or.inl (Nat.le_refl _)⟩
theorem nmE_b (T : Nat → Int64) (n q : Nat) : q ≤ nmE T n q ∧ (nmE T n q ≤ q ∨ nmE T n q ≤ n) := nmE_g T n n q (by omega)
theorem nuE_g (T : Nat → Int64) (n : Nat) : ∀ (k q y : Nat), n ≤ q + k → q ≤ nuE T n q y ∧ (nuE T n q y ≤ q ∨ nuE T n q y ≤ n) := by
  intro k
  induction k with
  | zero =>
    intro q y h
    rw [nuE, if_neg (fun z => by have := z.1; omega)]
    exact ⟨Nat.le_refl _, Or.inl (Nat.le_refl _)⟩
  | succ k ih =>
    intro q y h
    rw [nuE]
    by_cases c : q < n ∧ goN (gb T n q) y = true
    · rw [if_pos c]
      have h1 := lf_b T n (q + 1)
      have h2 := ih (lf T n (q + 1)) (gb T n q) (by omega)
      have h3 := c.1
      omega
    · rw [if_neg c]
      exact ⟨Nat.le_refl _, Or.inl (Nat.le_refl _)⟩
theorem nuE_b (T : Nat → Int64) (n q y : Nat) : q ≤ nuE T n q y ∧ (nuE T n q y ≤ q ∨ nuE T n q y ≤ n) := nuE_g T n n q y (by omega)
theorem cmE_g (T : Nat → Int64) (n : Nat) : ∀ (k q : Nat) (b : Bool) (x : Nat), n ≤ q + k → cmE T n q b = some x → q < x ∧ x ≤ n := by
  intro k
  induction k with
  | zero =>
    intro q b x h e
    rw [cmE, if_neg (by omega)] at e
    cases e
  | succ k ih =>
    intro q b x h e
    rw [cmE] at e
    by_cases c : q < n
    · rw [if_pos c] at e
      have h1 := lf_b T n (q + 1)
      by_cases d : b = true ∧ gb T n q = 47
      · rw [if_pos d] at e
        cases e
        omega
      · rw [if_neg d] at e
        have h2 := ih (lf T n (q + 1)) _ x (by omega) e
        omega
    · rw [if_neg c] at e
      cases e
theorem cmE_b {T : Nat → Int64} {n q : Nat} {b : Bool} {x : Nat} (h : cmE T n q b = some x) : q < x ∧ x ≤ n := cmE_g T n n q b x (by omega) h
theorem pss_g (T : Nat → Int64) (n stop : Nat) : ∀ (k a li c : Nat), stop ≤ a + k → a ≤ (pss T n stop a li c).1 ∧ stop ≤ (pss T n stop a li c).1 ∧ ((pss T n stop a li c).1 ≤ a ∨ (pss T n stop a li c).1 ≤ stop ∨ (pss T n stop a li c).1 ≤ n) ∧ li ≤ (pss T n stop a li c).2.1 ∧ (pss T n stop a li c).2.1 + a ≤ li + (pss T n stop a li c).1 ∧ c ≤ (pss T n stop a li c).2.2 ∧ (pss T n stop a li c).2.2 + a ≤ c + (pss T n stop a li c).1 := by
  intro k
  induction k with
  | zero =>
    intro a li c h
    rw [pss, if_neg (by omega)]
    refine ⟨?_, ?_, ?_, ?_, ?_, ?_, ?_⟩ <;> dsimp only <;> omega
  | succ k ih =>
    intro a li c h
    have h1 := lf_b T n a
    rw [pss]
    by_cases d : a < stop
    · rw [if_pos d]
      by_cases g : lf T n a < stop
      · rw [if_pos g]
        by_cases z : gb T n (lf T n a) = 10
        · rw [if_pos z]
          have h2 := ih (lf T n a + 1) (li + (lf T n a - a) / 2 + 1) (c + 1) (by omega)
          omega
        · rw [if_neg z]
          have h2 := ih (lf T n a + 1) (li + (lf T n a - a) / 2 + 0) (c + 1) (by omega)
          omega
      · rw [if_neg g]
        refine ⟨?_, ?_, ?_, ?_, ?_, ?_, ?_⟩ <;> dsimp only <;> omega
    · rw [if_neg d]
      refine ⟨?_, ?_, ?_, ?_, ?_, ?_, ?_⟩ <;> dsimp only <;> omega
/-- pass: bounds of place, line, count -/
theorem pss_b {T : Nat → Int64} {n stop a li c x y z : Nat} (h : pss T n stop a li c = (x, y, z)) : a ≤ x ∧ stop ≤ x ∧ (x ≤ a ∨ x ≤ stop ∨ x ≤ n) ∧ li ≤ y ∧ y + a ≤ li + x ∧ c ≤ z ∧ z + a ≤ c + x := by
  have g := pss_g T n stop stop a li c (by omega)
  rw [h] at g
  exact g
theorem qtE_g (T : Nat → Int64) (n quote : Nat) : ∀ (k q : Nat), n ≤ q + k → q ≤ (qtE T n quote q).1 ∧ ((qtE T n quote q).1 ≤ q ∨ (qtE T n quote q).1 ≤ n) := by
  intro k
  induction k with
  | zero =>
    intro q h
    rw [qtE, if_neg (fun z => by have := z.1; omega)]
    exact ⟨Nat.le_refl _, Or.inl (Nat.le_refl _)⟩
  | succ k ih =>
    intro q h
    have h1 := lf_b T n (q + 1)
    rw [qtE]
    by_cases c : q < n ∧ gb T n q ≠ 10
    · have h3 := c.1
      rw [if_pos c]
      by_cases d : gb T n q = quote
      · rw [if_pos d]
        dsimp only
        omega
      · rw [if_neg d]
        by_cases g : gb T n q = 92 ∧ lf T n (q + 1) < n ∧ gb T n (lf T n (q + 1)) ≠ 10
        · rw [if_pos g]
          have h4 := lf_b T n (lf T n (q + 1) + 1)
          have h5 := g.2.1
          have h2 := ih (lf T n (lf T n (q + 1) + 1)) (by omega)
          omega
        · rw [if_neg g]
          have h2 := ih (lf T n (q + 1)) (by omega)
          omega
    · rw [if_neg c]
      exact ⟨Nat.le_refl _, Or.inl (Nat.le_refl _)⟩
theorem qtE_b (T : Nat → Int64) (n quote q : Nat) : q ≤ (qtE T n quote q).1 ∧ ((qtE T n quote q).1 ≤ q ∨ (qtE T n quote q).1 ≤ n) := qtE_g T n quote n q (by omega)
