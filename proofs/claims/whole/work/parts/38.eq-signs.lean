/-! the signs' tables -/
theorem ioG_iff {i x : Nat} : ∀ (k n : Nat) (b : Bool), lS.getD i 0 ≤ n + k → (ioG i x k n b = true ↔ (b = true ∨ ∃ j, n ≤ j ∧ j < lS.getD i 0 ∧ x = cS i j)) := by
  intro k
  induction k with
  | zero =>
    intro n b h
    rw [ioG]
    refine ⟨Or.inl, fun z => ?_⟩
    rcases z with z | ⟨j, h1, h2, -⟩
    · exact z
    · omega
  | succ k ih =>
    intro n b h
    rw [ioG]
    by_cases c : n < lS.getD i 0
    · rw [if_pos c, ih (n + 1) _ (by omega), Bool.or_eq_true, decide_eq_true_eq]
      refine ⟨fun z => ?_, fun z => ?_⟩
      · rcases z with (z | z) | ⟨j, h1, h2, h3⟩
        · exact Or.inl z
        · exact Or.inr ⟨n, Nat.le_refl _, c, z⟩
        · exact Or.inr ⟨j, by omega, h2, h3⟩
      · rcases z with z | ⟨j, h1, h2, h3⟩
        · exact Or.inl (Or.inl z)
        · by_cases e : j = n
          · subst e; exact Or.inl (Or.inr h3)
          · exact Or.inr ⟨j, by omega, h2, h3⟩
    · rw [if_neg c]
      refine ⟨Or.inl, fun z => ?_⟩
      rcases z with z | ⟨j, h1, h2, -⟩
      · exact z
      · omega
theorem io_iff {i x : Nat} (hi : i < 7) : io i x = true ↔ ∃ j, j < lS.getD i 0 ∧ x = cS i j := by
  have hb := lS_b i hi
  unfold io
  rw [ioG_iff 65 0 false (by omega)]
  refine ⟨fun z => ?_, fun z => ?_⟩
  · rcases z with z | ⟨j, -, h2, h3⟩
    · cases z
    · exact ⟨j, h2, h3⟩
  · obtain ⟨j, h2, h3⟩ := z
    exact Or.inr ⟨j, Nat.zero_le _, h2, h3⟩
theorem hsG_iff {i w x y z : Nat} (hw : 0 < w) : ∀ (k n : Nat), lS.getD i 0 ≤ n + k → (hsG i w x y z k n = true ↔ ∃ t, n + t * w + w ≤ lS.getD i 0 ∧ cS i (n + t * w) = x ∧ (w < 2 ∨ cS i (n + t * w + 1) = y) ∧ (w < 3 ∨ cS i (n + t * w + 2) = z)) := by
  intro k
  induction k with
  | zero =>
    intro n h
    rw [hsG]
    refine ⟨fun q => (by cases q), fun q => ?_⟩
    obtain ⟨t, h1, -⟩ := q
    have := Nat.zero_le (t * w)
    omega
  | succ k ih =>
    intro n h
    rw [hsG]
    by_cases c : n + w ≤ lS.getD i 0
    · rw [if_pos c]
      by_cases d : cS i n = x ∧ (w < 2 ∨ cS i (n + 1) = y) ∧ (w < 3 ∨ cS i (n + 2) = z)
      · rw [if_pos d]
        refine ⟨fun _ => ⟨0, by rw [Nat.zero_mul]; exact c, by rw [Nat.zero_mul]; exact d⟩, fun _ => rfl⟩
      · rw [if_neg d, ih (n + w) (by omega)]
        refine ⟨fun q => ?_, fun q => ?_⟩
        · obtain ⟨t, h1, h2⟩ := q
          have e : n + (t + 1) * w = n + w + t * w := by rw [Nat.add_mul, Nat.one_mul]; omega
          exact ⟨t + 1, by rw [e]; exact h1, by rw [e]; exact h2⟩
        · obtain ⟨t, h1, h2⟩ := q
          cases t with
          | zero => rw [Nat.zero_mul] at h2; exact absurd h2 d
          | succ t =>
            have e : n + (t + 1) * w = n + w + t * w := by rw [Nat.add_mul, Nat.one_mul]; omega
            rw [e] at h1 h2
            exact ⟨t, h1, h2⟩
    · rw [if_neg c]
      refine ⟨fun q => (by cases q), fun q => ?_⟩
      obtain ⟨t, h1, -⟩ := q
      have := Nat.zero_le (t * w)
      omega
theorem io_3 (x : Nat) : io 3 x = true ↔ (x = 101 ∨ x = 69 ∨ x = 112 ∨ x = 80) := by
  rw [io_iff (by decide)]
  refine ⟨fun h => ?_, fun h => ?_⟩
  · obtain ⟨j, h1, h2⟩ := h
    have h1 : j < 4 := h1
    rcases (show j = 0 ∨ j = 1 ∨ j = 2 ∨ j = 3 by omega) with rfl | rfl | rfl | rfl
    · have h3 : x = 101 := h2
      subst h3
      decide
    · have h3 : x = 69 := h2
      subst h3
      decide
    · have h3 : x = 112 := h2
      subst h3
      decide
    · have h3 : x = 80 := h2
      subst h3
      decide
  · rcases h with h | h | h | h
    · exact ⟨0, by decide, h⟩
    · exact ⟨1, by decide, h⟩
    · exact ⟨2, by decide, h⟩
    · exact ⟨3, by decide, h⟩
theorem io_4 (x : Nat) : io 4 x = true ↔ (x = 43 ∨ x = 45 ∨ x = 60 ∨ x = 62 ∨ x = 61 ∨ x = 38 ∨ x = 124 ∨ x = 35) := by
  rw [io_iff (by decide)]
  refine ⟨fun h => ?_, fun h => ?_⟩
  · obtain ⟨j, h1, h2⟩ := h
    have h1 : j < 8 := h1
    rcases (show j = 0 ∨ j = 1 ∨ j = 2 ∨ j = 3 ∨ j = 4 ∨ j = 5 ∨ j = 6 ∨ j = 7 by omega) with rfl | rfl | rfl | rfl | rfl | rfl | rfl | rfl
    · have h3 : x = 43 := h2
      subst h3
      decide
    · have h3 : x = 45 := h2
      subst h3
      decide
    · have h3 : x = 60 := h2
      subst h3
      decide
    · have h3 : x = 62 := h2
      subst h3
      decide
    · have h3 : x = 61 := h2
      subst h3
      decide
    · have h3 : x = 38 := h2
      subst h3
      decide
    · have h3 : x = 124 := h2
      subst h3
      decide
    · have h3 : x = 35 := h2
      subst h3
      decide
  · rcases h with h | h | h | h | h | h | h | h
    · exact ⟨0, by decide, h⟩
    · exact ⟨1, by decide, h⟩
    · exact ⟨2, by decide, h⟩
    · exact ⟨3, by decide, h⟩
    · exact ⟨4, by decide, h⟩
    · exact ⟨5, by decide, h⟩
    · exact ⟨6, by decide, h⟩
    · exact ⟨7, by decide, h⟩
theorem io_5 (x : Nat) : io 5 x = true ↔ (x = 60 ∨ x = 62 ∨ x = 61 ∨ x = 33 ∨ x = 42 ∨ x = 47 ∨ x = 37 ∨ x = 43 ∨ x = 45 ∨ x = 38 ∨ x = 94 ∨ x = 124) := by
  rw [io_iff (by decide)]
  refine ⟨fun h => ?_, fun h => ?_⟩
  · obtain ⟨j, h1, h2⟩ := h
    have h1 : j < 12 := h1
    rcases (show j = 0 ∨ j = 1 ∨ j = 2 ∨ j = 3 ∨ j = 4 ∨ j = 5 ∨ j = 6 ∨ j = 7 ∨ j = 8 ∨ j = 9 ∨ j = 10 ∨ j = 11 by omega) with rfl | rfl | rfl | rfl | rfl | rfl | rfl | rfl | rfl | rfl | rfl | rfl
    · have h3 : x = 60 := h2
      subst h3
      decide
    · have h3 : x = 62 := h2
      subst h3
      decide
    · have h3 : x = 61 := h2
      subst h3
      decide
    · have h3 : x = 33 := h2
      subst h3
      decide
    · have h3 : x = 42 := h2
      subst h3
      decide
    · have h3 : x = 47 := h2
      subst h3
      decide
    · have h3 : x = 37 := h2
      subst h3
      decide
    · have h3 : x = 43 := h2
      subst h3
      decide
    · have h3 : x = 45 := h2
      subst h3
      decide
    · have h3 : x = 38 := h2
      subst h3
      decide
    · have h3 : x = 94 := h2
      subst h3
      decide
    · have h3 : x = 124 := h2
      subst h3
      decide
  · rcases h with h | h | h | h | h | h | h | h | h | h | h | h
    · exact ⟨0, by decide, h⟩
    · exact ⟨1, by decide, h⟩
    · exact ⟨2, by decide, h⟩
    · exact ⟨3, by decide, h⟩
    · exact ⟨4, by decide, h⟩
    · exact ⟨5, by decide, h⟩
    · exact ⟨6, by decide, h⟩
    · exact ⟨7, by decide, h⟩
    · exact ⟨8, by decide, h⟩
    · exact ⟨9, by decide, h⟩
    · exact ⟨10, by decide, h⟩
    · exact ⟨11, by decide, h⟩
theorem io_6 (x : Nat) : io 6 x = true ↔ (x = 35 ∨ x = 91 ∨ x = 93 ∨ x = 40 ∨ x = 41 ∨ x = 123 ∨ x = 125 ∨ x = 46 ∨ x = 38 ∨ x = 42 ∨ x = 43 ∨ x = 45 ∨ x = 126 ∨ x = 33 ∨ x = 47 ∨ x = 37 ∨ x = 60 ∨ x = 62 ∨ x = 94 ∨ x = 124 ∨ x = 63 ∨ x = 58 ∨ x = 61 ∨ x = 44 ∨ x = 59) := by
  rw [io_iff (by decide)]
  refine ⟨fun h => ?_, fun h => ?_⟩
  · obtain ⟨j, h1, h2⟩ := h
    have h1 : j < 25 := h1
    rcases (show j = 0 ∨ j = 1 ∨ j = 2 ∨ j = 3 ∨ j = 4 ∨ j = 5 ∨ j = 6 ∨ j = 7 ∨ j = 8 ∨ j = 9 ∨ j = 10 ∨ j = 11 ∨ j = 12 ∨ j = 13 ∨ j = 14 ∨ j = 15 ∨ j = 16 ∨ j = 17 ∨ j = 18 ∨ j = 19 ∨ j = 20 ∨ j = 21 ∨ j = 22 ∨ j = 23 ∨ j = 24 by omega) with rfl | rfl | rfl | rfl | rfl | rfl | rfl | rfl | rfl | rfl | rfl | rfl | rfl | rfl | rfl | rfl | rfl | rfl | rfl | rfl | rfl | rfl | rfl | rfl | rfl
    · have h3 : x = 35 := h2
      subst h3
      decide
    · have h3 : x = 91 := h2
      subst h3
      decide
    · have h3 : x = 93 := h2
      subst h3
      decide
    · have h3 : x = 40 := h2
      subst h3
      decide
    · have h3 : x = 41 := h2
      subst h3
      decide
    · have h3 : x = 123 := h2
      subst h3
      decide
    · have h3 : x = 125 := h2
      subst h3
      decide
    · have h3 : x = 46 := h2
      subst h3
      decide
    · have h3 : x = 38 := h2
      subst h3
      decide
    · have h3 : x = 42 := h2
      subst h3
      decide
    · have h3 : x = 43 := h2
      subst h3
      decide
    · have h3 : x = 45 := h2
      subst h3
      decide
    · have h3 : x = 126 := h2
      subst h3
      decide
    · have h3 : x = 33 := h2
      subst h3
      decide
    · have h3 : x = 47 := h2
      subst h3
      decide
    · have h3 : x = 37 := h2
      subst h3
      decide
    · have h3 : x = 60 := h2
      subst h3
      decide
    · have h3 : x = 62 := h2
      subst h3
      decide
    · have h3 : x = 94 := h2
      subst h3
      decide
    · have h3 : x = 124 := h2
      subst h3
      decide
    · have h3 : x = 63 := h2
      subst h3
      decide
    · have h3 : x = 58 := h2
      subst h3
      decide
    · have h3 : x = 61 := h2
      subst h3
      decide
    · have h3 : x = 44 := h2
      subst h3
      decide
    · have h3 : x = 59 := h2
      subst h3
      decide
  · rcases h with h | h | h | h | h | h | h | h | h | h | h | h | h | h | h | h | h | h | h | h | h | h | h | h | h
    · exact ⟨0, by decide, h⟩
    · exact ⟨1, by decide, h⟩
    · exact ⟨2, by decide, h⟩
    · exact ⟨3, by decide, h⟩
    · exact ⟨4, by decide, h⟩
    · exact ⟨5, by decide, h⟩
    · exact ⟨6, by decide, h⟩
    · exact ⟨7, by decide, h⟩
    · exact ⟨8, by decide, h⟩
    · exact ⟨9, by decide, h⟩
    · exact ⟨10, by decide, h⟩
    · exact ⟨11, by decide, h⟩
    · exact ⟨12, by decide, h⟩
    · exact ⟨13, by decide, h⟩
    · exact ⟨14, by decide, h⟩
    · exact ⟨15, by decide, h⟩
    · exact ⟨16, by decide, h⟩
    · exact ⟨17, by decide, h⟩
    · exact ⟨18, by decide, h⟩
    · exact ⟨19, by decide, h⟩
    · exact ⟨20, by decide, h⟩
    · exact ⟨21, by decide, h⟩
    · exact ⟨22, by decide, h⟩
    · exact ⟨23, by decide, h⟩
    · exact ⟨24, by decide, h⟩
theorem hs_3 (x y z : Nat) : hsG 0 3 x y z 65 0 = true ↔ ((x = 46 ∧ y = 46 ∧ z = 46) ∨ (x = 60 ∧ y = 60 ∧ z = 61) ∨ (x = 62 ∧ y = 62 ∧ z = 61)) := by
  rw [hsG_iff (by decide) 65 0 (by decide)]
  refine ⟨fun h => ?_, fun h => ?_⟩
  · obtain ⟨t, h1, h2, h3, h4⟩ := h
    have h1 : 0 + t * 3 + 3 ≤ 9 := h1
    rcases (show t = 0 ∨ t = 1 ∨ t = 2 by omega) with rfl | rfl | rfl
    · have g1 : 46 = x := h2
      have g2 : 46 = y := h3.resolve_left (by decide)
      have g3 : 46 = z := h4.resolve_left (by decide)
      subst g1
      subst g2
      subst g3
      decide
    · have g1 : 60 = x := h2
      have g2 : 60 = y := h3.resolve_left (by decide)
      have g3 : 61 = z := h4.resolve_left (by decide)
      subst g1
      subst g2
      subst g3
      decide
    · have g1 : 62 = x := h2
      have g2 : 62 = y := h3.resolve_left (by decide)
      have g3 : 61 = z := h4.resolve_left (by decide)
      subst g1
      subst g2
      subst g3
      decide
  · rcases h with h | h | h
    · exact ⟨0, by decide, h.1.symm, Or.inr h.2.1.symm, Or.inr h.2.2.symm⟩
    · exact ⟨1, by decide, h.1.symm, Or.inr h.2.1.symm, Or.inr h.2.2.symm⟩
    · exact ⟨2, by decide, h.1.symm, Or.inr h.2.1.symm, Or.inr h.2.2.symm⟩
theorem hs_2 (x y z : Nat) : hsG 1 2 x y z 65 0 = true ↔ ((x = 45 ∧ y = 62) ∨ (x = 43 ∧ y = 43) ∨ (x = 45 ∧ y = 45) ∨ (x = 60 ∧ y = 60) ∨ (x = 62 ∧ y = 62) ∨ (x = 60 ∧ y = 61) ∨ (x = 62 ∧ y = 61) ∨ (x = 61 ∧ y = 61) ∨ (x = 33 ∧ y = 61) ∨ (x = 38 ∧ y = 38) ∨ (x = 124 ∧ y = 124) ∨ (x = 42 ∧ y = 61) ∨ (x = 47 ∧ y = 61) ∨ (x = 37 ∧ y = 61) ∨ (x = 43 ∧ y = 61) ∨ (x = 45 ∧ y = 61) ∨ (x = 38 ∧ y = 61) ∨ (x = 94 ∧ y = 61) ∨ (x = 124 ∧ y = 61) ∨ (x = 35 ∧ y = 35)) := by
  rw [hsG_iff (by decide) 65 0 (by decide)]
  refine ⟨fun h => ?_, fun h => ?_⟩
  · obtain ⟨t, h1, h2, h3, h4⟩ := h
    have h1 : 0 + t * 2 + 2 ≤ 40 := h1
    rcases (show t = 0 ∨ t = 1 ∨ t = 2 ∨ t = 3 ∨ t = 4 ∨ t = 5 ∨ t = 6 ∨ t = 7 ∨ t = 8 ∨ t = 9 ∨ t = 10 ∨ t = 11 ∨ t = 12 ∨ t = 13 ∨ t = 14 ∨ t = 15 ∨ t = 16 ∨ t = 17 ∨ t = 18 ∨ t = 19 by omega) with rfl | rfl | rfl | rfl | rfl | rfl | rfl | rfl | rfl | rfl | rfl | rfl | rfl | rfl | rfl | rfl | rfl | rfl | rfl | rfl
    · have g1 : 45 = x := h2
      have g2 : 62 = y := h3.resolve_left (by decide)
      subst g1
      subst g2
      decide
    · have g1 : 43 = x := h2
      have g2 : 43 = y := h3.resolve_left (by decide)
      subst g1
      subst g2
      decide
    · have g1 : 45 = x := h2
      have g2 : 45 = y := h3.resolve_left (by decide)
      subst g1
      subst g2
      decide
    · have g1 : 60 = x := h2
      have g2 : 60 = y := h3.resolve_left (by decide)
      subst g1
      subst g2
      decide
    · have g1 : 62 = x := h2
      have g2 : 62 = y := h3.resolve_left (by decide)
      subst g1
      subst g2
      decide
    · have g1 : 60 = x := h2
      have g2 : 61 = y := h3.resolve_left (by decide)
      subst g1
      subst g2
      decide
    · have g1 : 62 = x := h2
      have g2 : 61 = y := h3.resolve_left (by decide)
      subst g1
      subst g2
      decide
    · have g1 : 61 = x := h2
      have g2 : 61 = y := h3.resolve_left (by decide)
      subst g1
      subst g2
      decide
    · have g1 : 33 = x := h2
      have g2 : 61 = y := h3.resolve_left (by decide)
      subst g1
      subst g2
      decide
    · have g1 : 38 = x := h2
      have g2 : 38 = y := h3.resolve_left (by decide)
      subst g1
      subst g2
      decide
    · have g1 : 124 = x := h2
      have g2 : 124 = y := h3.resolve_left (by decide)
      subst g1
      subst g2
      decide
    · have g1 : 42 = x := h2
      have g2 : 61 = y := h3.resolve_left (by decide)
      subst g1
      subst g2
      decide
    · have g1 : 47 = x := h2
      have g2 : 61 = y := h3.resolve_left (by decide)
      subst g1
      subst g2
      decide
    · have g1 : 37 = x := h2
      have g2 : 61 = y := h3.resolve_left (by decide)
      subst g1
      subst g2
      decide
    · have g1 : 43 = x := h2
      have g2 : 61 = y := h3.resolve_left (by decide)
      subst g1
      subst g2
      decide
    · have g1 : 45 = x := h2
      have g2 : 61 = y := h3.resolve_left (by decide)
      subst g1
      subst g2
      decide
    · have g1 : 38 = x := h2
      have g2 : 61 = y := h3.resolve_left (by decide)
      subst g1
      subst g2
      decide
    · have g1 : 94 = x := h2
      have g2 : 61 = y := h3.resolve_left (by decide)
      subst g1
      subst g2
      decide
    · have g1 : 124 = x := h2
      have g2 : 61 = y := h3.resolve_left (by decide)
      subst g1
      subst g2
      decide
    · have g1 : 35 = x := h2
      have g2 : 35 = y := h3.resolve_left (by decide)
      subst g1
      subst g2
      decide
  · rcases h with h | h | h | h | h | h | h | h | h | h | h | h | h | h | h | h | h | h | h | h
    · exact ⟨0, by decide, h.1.symm, Or.inr h.2.symm, Or.inl (by decide)⟩
    · exact ⟨1, by decide, h.1.symm, Or.inr h.2.symm, Or.inl (by decide)⟩
    · exact ⟨2, by decide, h.1.symm, Or.inr h.2.symm, Or.inl (by decide)⟩
    · exact ⟨3, by decide, h.1.symm, Or.inr h.2.symm, Or.inl (by decide)⟩
    · exact ⟨4, by decide, h.1.symm, Or.inr h.2.symm, Or.inl (by decide)⟩
    · exact ⟨5, by decide, h.1.symm, Or.inr h.2.symm, Or.inl (by decide)⟩
    · exact ⟨6, by decide, h.1.symm, Or.inr h.2.symm, Or.inl (by decide)⟩
    · exact ⟨7, by decide, h.1.symm, Or.inr h.2.symm, Or.inl (by decide)⟩
    · exact ⟨8, by decide, h.1.symm, Or.inr h.2.symm, Or.inl (by decide)⟩
    · exact ⟨9, by decide, h.1.symm, Or.inr h.2.symm, Or.inl (by decide)⟩
    · exact ⟨10, by decide, h.1.symm, Or.inr h.2.symm, Or.inl (by decide)⟩
    · exact ⟨11, by decide, h.1.symm, Or.inr h.2.symm, Or.inl (by decide)⟩
    · exact ⟨12, by decide, h.1.symm, Or.inr h.2.symm, Or.inl (by decide)⟩
    · exact ⟨13, by decide, h.1.symm, Or.inr h.2.symm, Or.inl (by decide)⟩
    · exact ⟨14, by decide, h.1.symm, Or.inr h.2.symm, Or.inl (by decide)⟩
    · exact ⟨15, by decide, h.1.symm, Or.inr h.2.symm, Or.inl (by decide)⟩
    · exact ⟨16, by decide, h.1.symm, Or.inr h.2.symm, Or.inl (by decide)⟩
    · exact ⟨17, by decide, h.1.symm, Or.inr h.2.symm, Or.inl (by decide)⟩
    · exact ⟨18, by decide, h.1.symm, Or.inr h.2.symm, Or.inl (by decide)⟩
    · exact ⟨19, by decide, h.1.symm, Or.inr h.2.symm, Or.inl (by decide)⟩
theorem hs_1 (x y z : Nat) : hsG 2 1 x y z 65 0 = true ↔ ((x = 35) ∨ (x = 91) ∨ (x = 93) ∨ (x = 40) ∨ (x = 41) ∨ (x = 123) ∨ (x = 125) ∨ (x = 46) ∨ (x = 38) ∨ (x = 42) ∨ (x = 43) ∨ (x = 45) ∨ (x = 126) ∨ (x = 33) ∨ (x = 47) ∨ (x = 37) ∨ (x = 60) ∨ (x = 62) ∨ (x = 94) ∨ (x = 124) ∨ (x = 63) ∨ (x = 58) ∨ (x = 59) ∨ (x = 61) ∨ (x = 44)) := by
  rw [hsG_iff (by decide) 65 0 (by decide)]
  refine ⟨fun h => ?_, fun h => ?_⟩
  · obtain ⟨t, h1, h2, h3, h4⟩ := h
    have h1 : 0 + t * 1 + 1 ≤ 25 := h1
    rcases (show t = 0 ∨ t = 1 ∨ t = 2 ∨ t = 3 ∨ t = 4 ∨ t = 5 ∨ t = 6 ∨ t = 7 ∨ t = 8 ∨ t = 9 ∨ t = 10 ∨ t = 11 ∨ t = 12 ∨ t = 13 ∨ t = 14 ∨ t = 15 ∨ t = 16 ∨ t = 17 ∨ t = 18 ∨ t = 19 ∨ t = 20 ∨ t = 21 ∨ t = 22 ∨ t = 23 ∨ t = 24 by omega) with rfl | rfl | rfl | rfl | rfl | rfl | rfl | rfl | rfl | rfl | rfl | rfl | rfl | rfl | rfl | rfl | rfl | rfl | rfl | rfl | rfl | rfl | rfl | rfl | rfl
    · have g1 : 35 = x := h2
      subst g1
      decide
    · have g1 : 91 = x := h2
      subst g1
      decide
    · have g1 : 93 = x := h2
      subst g1
      decide
    · have g1 : 40 = x := h2
      subst g1
      decide
    · have g1 : 41 = x := h2
      subst g1
      decide
    · have g1 : 123 = x := h2
      subst g1
      decide
    · have g1 : 125 = x := h2
      subst g1
      decide
    · have g1 : 46 = x := h2
      subst g1
      decide
    · have g1 : 38 = x := h2
      subst g1
      decide
    · have g1 : 42 = x := h2
      subst g1
      decide
    · have g1 : 43 = x := h2
      subst g1
      decide
    · have g1 : 45 = x := h2
      subst g1
      decide
    · have g1 : 126 = x := h2
      subst g1
      decide
    · have g1 : 33 = x := h2
      subst g1
      decide
    · have g1 : 47 = x := h2
      subst g1
      decide
    · have g1 : 37 = x := h2
      subst g1
      decide
    · have g1 : 60 = x := h2
      subst g1
      decide
    · have g1 : 62 = x := h2
      subst g1
      decide
    · have g1 : 94 = x := h2
      subst g1
      decide
    · have g1 : 124 = x := h2
      subst g1
      decide
    · have g1 : 63 = x := h2
      subst g1
      decide
    · have g1 : 58 = x := h2
      subst g1
      decide
    · have g1 : 59 = x := h2
      subst g1
      decide
    · have g1 : 61 = x := h2
      subst g1
      decide
    · have g1 : 44 = x := h2
      subst g1
      decide
  · rcases h with h | h | h | h | h | h | h | h | h | h | h | h | h | h | h | h | h | h | h | h | h | h | h | h | h
    · exact ⟨0, by decide, h.symm, Or.inl (by decide), Or.inl (by decide)⟩
    · exact ⟨1, by decide, h.symm, Or.inl (by decide), Or.inl (by decide)⟩
    · exact ⟨2, by decide, h.symm, Or.inl (by decide), Or.inl (by decide)⟩
    · exact ⟨3, by decide, h.symm, Or.inl (by decide), Or.inl (by decide)⟩
    · exact ⟨4, by decide, h.symm, Or.inl (by decide), Or.inl (by decide)⟩
    · exact ⟨5, by decide, h.symm, Or.inl (by decide), Or.inl (by decide)⟩
    · exact ⟨6, by decide, h.symm, Or.inl (by decide), Or.inl (by decide)⟩
    · exact ⟨7, by decide, h.symm, Or.inl (by decide), Or.inl (by decide)⟩
    · exact ⟨8, by decide, h.symm, Or.inl (by decide), Or.inl (by decide)⟩
    · exact ⟨9, by decide, h.symm, Or.inl (by decide), Or.inl (by decide)⟩
    · exact ⟨10, by decide, h.symm, Or.inl (by decide), Or.inl (by decide)⟩
    · exact ⟨11, by decide, h.symm, Or.inl (by decide), Or.inl (by decide)⟩
    · exact ⟨12, by decide, h.symm, Or.inl (by decide), Or.inl (by decide)⟩
    · exact ⟨13, by decide, h.symm, Or.inl (by decide), Or.inl (by decide)⟩
    · exact ⟨14, by decide, h.symm, Or.inl (by decide), Or.inl (by decide)⟩
    · exact ⟨15, by decide, h.symm, Or.inl (by decide), Or.inl (by decide)⟩
    · exact ⟨16, by decide, h.symm, Or.inl (by decide), Or.inl (by decide)⟩
    · exact ⟨17, by decide, h.symm, Or.inl (by decide), Or.inl (by decide)⟩
    · exact ⟨18, by decide, h.symm, Or.inl (by decide), Or.inl (by decide)⟩
    · exact ⟨19, by decide, h.symm, Or.inl (by decide), Or.inl (by decide)⟩
    · exact ⟨20, by decide, h.symm, Or.inl (by decide), Or.inl (by decide)⟩
    · exact ⟨21, by decide, h.symm, Or.inl (by decide), Or.inl (by decide)⟩
    · exact ⟨22, by decide, h.symm, Or.inl (by decide), Or.inl (by decide)⟩
    · exact ⟨23, by decide, h.symm, Or.inl (by decide), Or.inl (by decide)⟩
    · exact ⟨24, by decide, h.symm, Or.inl (by decide), Or.inl (by decide)⟩
theorem hs3_iff {x y z : Nat} : hsG 0 3 x y z 65 0 = true ↔ ((x = 46 ∧ y = 46 ∧ z = 46) ∨ ((x = 60 ∨ x = 62) ∧ y = x ∧ z = 61)) := by
  rw [hs_3]
  omega
theorem hs2_iff {x y z : Nat} : hsG 1 2 x y z 65 0 = true ↔ ((x = y ∧ io 4 x = true) ∨ (y = 61 ∧ io 5 x = true) ∨ (x = 45 ∧ y = 62)) := by
  rw [hs_2]
  refine ⟨fun h => ?_, fun h => ?_⟩
  · rcases h with ⟨rfl, rfl⟩ | ⟨rfl, rfl⟩ | ⟨rfl, rfl⟩ | ⟨rfl, rfl⟩ | ⟨rfl, rfl⟩ | ⟨rfl, rfl⟩ | ⟨rfl, rfl⟩ | ⟨rfl, rfl⟩ | ⟨rfl, rfl⟩ | ⟨rfl, rfl⟩ | ⟨rfl, rfl⟩ | ⟨rfl, rfl⟩ | ⟨rfl, rfl⟩ | ⟨rfl, rfl⟩ | ⟨rfl, rfl⟩ | ⟨rfl, rfl⟩ | ⟨rfl, rfl⟩ | ⟨rfl, rfl⟩ | ⟨rfl, rfl⟩ | ⟨rfl, rfl⟩
    · exact Or.inr (Or.inr ⟨rfl, rfl⟩)
    · exact Or.inl ⟨rfl, (io_4 _).mpr (by decide)⟩
    · exact Or.inl ⟨rfl, (io_4 _).mpr (by decide)⟩
    · exact Or.inl ⟨rfl, (io_4 _).mpr (by decide)⟩
    · exact Or.inl ⟨rfl, (io_4 _).mpr (by decide)⟩
    · exact Or.inr (Or.inl ⟨rfl, (io_5 _).mpr (by decide)⟩)
    · exact Or.inr (Or.inl ⟨rfl, (io_5 _).mpr (by decide)⟩)
    · exact Or.inl ⟨rfl, (io_4 _).mpr (by decide)⟩
    · exact Or.inr (Or.inl ⟨rfl, (io_5 _).mpr (by decide)⟩)
    · exact Or.inl ⟨rfl, (io_4 _).mpr (by decide)⟩
    · exact Or.inl ⟨rfl, (io_4 _).mpr (by decide)⟩
    · exact Or.inr (Or.inl ⟨rfl, (io_5 _).mpr (by decide)⟩)
    · exact Or.inr (Or.inl ⟨rfl, (io_5 _).mpr (by decide)⟩)
    · exact Or.inr (Or.inl ⟨rfl, (io_5 _).mpr (by decide)⟩)
    · exact Or.inr (Or.inl ⟨rfl, (io_5 _).mpr (by decide)⟩)
    · exact Or.inr (Or.inl ⟨rfl, (io_5 _).mpr (by decide)⟩)
    · exact Or.inr (Or.inl ⟨rfl, (io_5 _).mpr (by decide)⟩)
    · exact Or.inr (Or.inl ⟨rfl, (io_5 _).mpr (by decide)⟩)
    · exact Or.inr (Or.inl ⟨rfl, (io_5 _).mpr (by decide)⟩)
    · exact Or.inl ⟨rfl, (io_4 _).mpr (by decide)⟩
  · rcases h with ⟨rfl, h⟩ | ⟨rfl, h⟩ | ⟨rfl, rfl⟩
    · rcases (io_4 x).mp h with rfl | rfl | rfl | rfl | rfl | rfl | rfl | rfl <;> decide
    · rcases (io_5 x).mp h with rfl | rfl | rfl | rfl | rfl | rfl | rfl | rfl | rfl | rfl | rfl | rfl <;> decide
    · decide
theorem hs1_iff {x y z : Nat} : hsG 2 1 x y z 65 0 = true ↔ io 6 x = true := by
  rw [hs_1]
  refine ⟨fun h => (io_6 x).mpr ?_, fun h => ?_⟩
  · rcases h with rfl | rfl | rfl | rfl | rfl | rfl | rfl | rfl | rfl | rfl | rfl | rfl | rfl | rfl | rfl | rfl | rfl | rfl | rfl | rfl | rfl | rfl | rfl | rfl | rfl <;> decide
  · rcases (io_6 x).mp h with rfl | rfl | rfl | rfl | rfl | rfl | rfl | rfl | rfl | rfl | rfl | rfl | rfl | rfl | rfl | rfl | rfl | rfl | rfl | rfl | rfl | rfl | rfl | rfl | rfl <;> decide
theorem goNB (x y : Nat) : goN x y = goB x y := by
  have h3 := io_3 y
  unfold goN
  by_cases c : x = 43 ∨ x = 45
  · rw [if_pos c]
    by_cases d : io 3 y = true
    · rw [goB_s c d]
      have := h3.mp d
      simp
      omega
    · rw [goB_f (isD_f (by omega)) (isL_f (by omega)) (by omega) (Or.inr (by simpa using d))]
      have : ¬ (y = 101 ∨ y = 69 ∨ y = 112 ∨ y = 80) := fun q => d (h3.mpr q)
      simp
      omega
  · rw [if_neg c]
    unfold goB
    have e : (decide (x = 43) || decide (x = 45)) = false := by simp; omega
    rw [e, Bool.false_and, Bool.or_false]
