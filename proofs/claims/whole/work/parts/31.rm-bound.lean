theorem sgN_b {S : Nat → Nat} (h : ∀ j, S j < 256) {lim g : Nat} (hg : g < lim) : 1 ≤ sgN (rb S lim g) (rb S lim (g + 1)) (rb S lim (g + 2)) ∧ g + sgN (rb S lim g) (rb S lim (g + 1)) (rb S lim (g + 2)) ≤ lim := by
  have a1 := rb_in h lim g
  have a2 := rb_in h lim (g + 1)
  have a3 := rb_in h lim (g + 2)
  generalize rb S lim g = a at *
  generalize rb S lim (g + 1) = b at *
  generalize rb S lim (g + 2) = c at *
  by_cases c1 : (a = 46 ∧ b = 46 ∧ c = 46) ∨ ((a = 60 ∨ a = 62) ∧ b = a ∧ c = 61)
  · rw [sgN, if_pos c1]; omega
  · rw [sgN_n c1]
    by_cases c2 : (a = b ∧ io 4 a = true) ∨ (b = 61 ∧ io 5 a = true) ∨ (a = 45 ∧ b = 62)
    · rw [if_pos c2]
      have : b < 256 := by rcases c2 with z | z | z <;> omega
      omega
    · rw [if_neg c2]; omega
theorem ts3_b (S : Nat → Nat) (h : ∀ j, S j < 256) (lim g : Nat) (hg : g < lim) : 1 ≤ ts3 S lim g ∧ g + ts3 S lim g ≤ lim := by
  unfold ts3
  by_cases c3 : isL (rb S lim g) = true
  · rw [if_pos c3]; have := nmI_b S lim (g + 1); omega
  · rw [if_neg c3]
    by_cases c4 : isD (rb S lim g) = true ∨ (rb S lim g = 46 ∧ isD (rb S lim (g + 1)) = true)
    · rw [if_pos c4]; have := nuI_b S lim (g + 1); omega
    · rw [if_neg c4]; exact sgN_b h hg
theorem ts2_b (S : Nat → Nat) (h : ∀ j, S j < 256) (lim g : Nat) (hg : g < lim) : 1 ≤ ts2 S lim g ∧ g + ts2 S lim g ≤ lim := by
  by_cases c2 : rb S lim g = 34 ∨ rb S lim g = 39
  · cases e : qdO S lim g with
    | some x => rw [ts2_s c2 e]; have := qdO_b e; omega
    | none => rw [ts2_n (fun _ => e)]; exact ts3_b S h lim g hg
  · rw [ts2_n (fun z => absurd z c2)]; exact ts3_b S h lim g hg
theorem ts1_b {S : Nat → Nat} (h : ∀ j, S j < 256) {lim g : Nat} (hg : g < lim) : 1 ≤ ts1 S lim g ∧ g + ts1 S lim g ≤ lim := by
  by_cases c1 : rb S lim g = 76 ∧ (rb S lim (g + 1) = 34 ∨ rb S lim (g + 1) = 39)
  · cases e : qdO S lim (g + 1) with
    | some x => rw [ts1_s c1 e]; have := qdO_b e; omega
    | none => rw [ts1_n (fun _ => e)]; exact ts2_b S h lim g hg
  · rw [ts1_n (fun z => absurd z c1)]; exact ts2_b S h lim g hg
def lnI (S : Nat → Nat) (lim n : Nat) : Nat := if n < lim ∧ S n ≠ 10 then lnI S lim (n + 1) else n
termination_by lim - n
theorem lnI_g (S : Nat → Nat) (lim : Nat) : ∀ (n k : Nat), lim ≤ k + n → k ≤ lnI S lim k ∧ (lnI S lim k ≤ k ∨ lnI S lim k ≤ lim) := by
  intro n
  induction n with
  | zero => intro k h; rw [lnI, if_neg (fun z => by have := z.1; omega)]; exact ⟨Nat.le_refl _, Or.inl (Nat.le_refl _)⟩
  | succ n ih =>
    intro k h
    rw [lnI]
    by_cases c : k < lim ∧ S k ≠ 10
    · rw [if_pos c]; have := ih (k + 1) (by omega); have := c.1; omega
    · rw [if_neg c]; exact ⟨Nat.le_refl _, Or.inl (Nat.le_refl _)⟩
theorem lnI_b (S : Nat → Nat) (lim k : Nat) : k ≤ lnI S lim k ∧ (lnI S lim k ≤ k ∨ lnI S lim k ≤ lim) := lnI_g S lim lim k (by omega)
theorem ly_S {X : Nat → Nat} {n : Nat} (hX : ∀ j, X j < 256) : ∀ (k g li q : Nat) (S R L : Nat → Nat), (∀ j, S j < 256) → ∀ j, (ly X n k g li q S R L).2.2.1 j < 256 := by
  intro k
  induction k with
  | zero => intro g li q S R L h; exact h
  | succ k ih =>
    intro g li q S R L h
    rw [ly]
    by_cases c : g < n
    · rw [if_pos c]
      by_cases d : X g = 92 ∧ g + 1 < n ∧ X (g + 1) = 10
      · rw [if_pos d]; exact ih _ _ _ _ _ _ h
      · rw [if_neg d]
        refine ih _ _ _ _ _ _ (fun j => ?_)
        unfold nu
        split
        · exact hX g
        · exact h j
    · rw [if_neg c]; exact h
theorem ly_b {X : Nat → Nat} {n : Nat} : ∀ (k g li q : Nat) (S R L : Nat → Nat), q ≤ g → ((ly X n k g li q S R L).2.1 ≤ q ∨ (ly X n k g li q S R L).2.1 ≤ n) := by
  intro k
  induction k with
  | zero => intro g li q S R L h; exact Or.inl (Nat.le_refl _)
  | succ k ih =>
    intro g li q S R L h
    rw [ly]
    by_cases c : g < n
    · rw [if_pos c]
      by_cases d : X g = 92 ∧ g + 1 < n ∧ X (g + 1) = 10
      · rw [if_pos d]; exact ih _ _ _ _ _ _ (by omega)
      · rw [if_neg d]
        have := ih (g + 1) (if X g = 10 then li + 1 else li) (q + 1) (nu S q (X g)) (nu R q g) (nu L q li) (by omega)
        omega
    · rw [if_neg c]; exact Or.inl (Nat.le_refl _)
