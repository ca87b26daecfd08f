/-! the places that splicing leaves, as the reference lays them down, and the class's walk along them -/
def rx (R : Nat → Nat) (m n j : Nat) : Nat := if j < m then R j else n
theorem rx_lt {R : Nat → Nat} {m n j : Nat} (h : j < m) : rx R m n j = R j := if_pos h
theorem rx_ge {R : Nat → Nat} {m n j : Nat} (h : m ≤ j) : rx R m n j = n := if_neg (by omega)
/-- place j and the next one -/
def chA (T : Nat → Int64) (n : Nat) (S RX LX : Nat → Nat) (j : Nat) : Prop :=
  RX j < n ∧ gb T n (RX j) = S j ∧ lf T n (RX j + 1) = RX (j + 1) ∧ LX (j + 1) = LX j + (if S j = 10 then 1 else 0) + (RX (j + 1) - (RX j + 1)) / 2 ∧ lf T n (RX j) = RX j
theorem lf_no {T : Nat → Int64} {n q : Nat} (h : ¬ (q + 1 < n ∧ gb T n q = 92 ∧ gb T n (q + 1) = 10)) : lf T n q = q := by rw [lf, if_neg h]
theorem lf_yes {T : Nat → Int64} {n q : Nat} (h : q + 1 < n ∧ gb T n q = 92 ∧ gb T n (q + 1) = 10) : lf T n q = lf T n (q + 2) := by rw [lf, if_pos h]
theorem lf_le {T : Nat → Int64} {n q : Nat} (h : q ≤ n) : lf T n q ≤ n := by
  have := lf_b T n q
  omega
theorem ly_ch {T : Nat → Int64} {X : Nat → Nat} {n : Nat} (hb : ∀ p, p < n → byt T p = X p) : ∀ (k g li q : Nat) (S R L : Nat → Nat), n - g < k → g ≤ n → ∀ (li' q' : Nat) (S' R' L' : Nat → Nat), ly X n k g li q S R L = (li', q', S', R', L') →
    q ≤ q' ∧ (∀ j, j < q → S' j = S j ∧ R' j = R j ∧ L' j = L j) ∧ rx R' q' n q = lf T n g ∧ rx L' q' li' q = li + (lf T n g - g) / 2 ∧ ∀ j, q ≤ j → j < q' → chA T n S' (rx R' q' n) (rx L' q' li') j := by
  intro k
  induction k with
  | zero => intro g li q S R L hk; exact absurd hk (by omega)
  | succ k ih =>
    intro g li q S R L hk hg li' q' S' R' L' e
    rw [ly] at e
    by_cases c : g < n
    · rw [if_pos c] at e
      have hgb : gb T n g = X g := by rw [gb_lo c]; exact hb g c
      by_cases d : X g = 92 ∧ g + 1 < n ∧ X (g + 1) = 10
      · rw [if_pos d] at e
        have hgb1 : gb T n (g + 1) = X (g + 1) := by rw [gb_lo d.2.1]; exact hb _ d.2.1
        have hl := lf_yes (T := T) (n := n) (q := g) ⟨d.2.1, by omega, by omega⟩
        obtain ⟨h1, h2, h3, h4, h5⟩ := ih (g + 2) (li + 1) q S R L (by omega) (by omega) _ _ _ _ _ e
        have hb2 := lf_b T n (g + 2)
        refine ⟨h1, h2, by rw [h3, hl], ?_, h5⟩
        rw [h4, hl]
        omega
      · rw [if_neg d] at e
        have hno : lf T n g = g := lf_no (fun z => by
          have hgb1 : gb T n (g + 1) = X (g + 1) := by rw [gb_lo z.1]; exact hb _ z.1
          exact d ⟨by omega, z.1, by omega⟩)
        obtain ⟨h1, h2, h3, h4, h5⟩ := ih (g + 1) (if X g = 10 then li + 1 else li) (q + 1) (nu S q (X g)) (nu R q g) (nu L q li) (by omega) (by omega) _ _ _ _ _ e
        obtain ⟨a1, a2, a3⟩ := h2 q (by omega)
        rw [nu_e] at a1 a2 a3
        have r1 : rx R' q' n q = g := by rw [rx_lt (by omega), a2]
        have r2 : rx L' q' li' q = li := by rw [rx_lt (by omega), a3]
        refine ⟨by omega, fun j hj => ?_, by rw [r1, hno], by rw [r2, hno]; omega, fun j h6 h7 => ?_⟩
        · obtain ⟨b1, b2, b3⟩ := h2 j (by omega)
          rw [nu_n (by omega)] at b1 b2 b3
          exact ⟨b1, b2, b3⟩
        · by_cases hj : j = q
          · subst hj
            refine ⟨by rw [r1]; exact c, by rw [r1, hgb, a1], by rw [r1, h3], ?_, by rw [r1, hno]⟩
            rw [h4, r2, h3, r1, a1]
            by_cases z : X g = 10
            · rw [if_pos z, if_pos z]
            · rw [if_neg z, if_neg z]; rfl
          · exact h5 j (by omega) h7
    · rw [if_neg c] at e
      cases e
      have hgn : g = n := by omega
      subst hgn
      have hno : lf T g g = g := lf_no (by omega)
      exact ⟨Nat.le_refl _, fun j _ => ⟨rfl, rfl, rfl⟩, by rw [rx_ge (Nat.le_refl _), hno], by rw [rx_ge (Nat.le_refl _), hno]; omega, fun j h1 h2 => absurd h2 (by omega)⟩
/-- the whole chain: m places, S their bytes -/
def Chn (T : Nat → Int64) (n m : Nat) (S RX LX : Nat → Nat) : Prop := RX m = n ∧ (∀ j, S j < 256) ∧ ∀ j, j < m → chA T n S RX LX j
theorem az (a b : Nat) : a + (b - b) / 2 = a := by rw [Nat.sub_self, Nat.zero_div, Nat.add_zero]
section CHN
variable {T : Nat → Int64} {n m : Nat} {S RX LX : Nat → Nat}
theorem Chn.gbx (h : Chn T n m S RX LX) {j : Nat} (hj : j ≤ m) : gb T n (RX j) = rb S m j := by
  unfold rb
  by_cases c : j < m
  · rw [if_pos c]; exact (h.2.2 j c).2.1
  · rw [if_neg c, show j = m by omega, h.1]; exact gb_hi (Nat.le_refl _)
theorem Chn.st (h : Chn T n m S RX LX) {j : Nat} (hj : j < m) : RX j + 1 ≤ RX (j + 1) := by
  rw [← (h.2.2 j hj).2.2.1]
  exact (lf_b T n _).1
theorem Chn.lf1 (h : Chn T n m S RX LX) {j : Nat} (hj : j < m) : lf T n (RX j + 1) = RX (j + 1) := (h.2.2 j hj).2.2.1
theorem Chn.mono (h : Chn T n m S RX LX) {i : Nat} : ∀ d, i + d ≤ m → RX i + d ≤ RX (i + d) := by
  intro d
  induction d with
  | zero => intro _; exact Nat.le_refl _
  | succ d ih =>
    intro hd
    have h1 := ih (by omega)
    have h2 := h.st (j := i + d) (by omega)
    have h3 : i + (d + 1) = i + d + 1 := rfl
    rw [h3]
    omega
theorem Chn.le (h : Chn T n m S RX LX) {i j : Nat} (hij : i ≤ j) (hj : j ≤ m) : RX i + (j - i) ≤ RX j := by
  have := h.mono (i := i) (j - i) (by omega)
  rw [show i + (j - i) = j by omega] at this
  exact this
theorem Chn.lt_iff (h : Chn T n m S RX LX) {i j : Nat} (hi : i ≤ m) (hj : j ≤ m) : RX i < RX j ↔ i < j := by
  refine ⟨fun q => ?_, fun q => ?_⟩
  · rcases Nat.lt_or_ge i j with z | z
    · exact z
    · have := h.le z hi; omega
  · have := h.le (Nat.le_of_lt q) hj; omega
theorem Chn.top (h : Chn T n m S RX LX) {j : Nat} (hj : j ≤ m) : RX j ≤ n := by
  have := h.le hj (Nat.le_refl m)
  rw [h.1] at this
  omega
theorem Chn.end (h : Chn T n m S RX LX) {j : Nat} (hj : j ≤ m) : RX j < n ↔ j < m := by
  rw [← h.1]
  exact h.lt_iff hj (Nat.le_refl _)
/-- pass along the chain -/
theorem Chn.pass1 (h : Chn T n m S RX LX) {j stop li c : Nat} (hj : j < m) (hs : RX (j + 1) ≤ stop) (hid : lf T n (RX (j + 1)) = RX (j + 1)) : pss T n stop (RX j + 1) li c = pss T n stop (RX (j + 1)) (li + (RX (j + 1) - (RX j + 1)) / 2) c := by
  have h1 := h.st hj
  have h2 := h.lf1 hj
  rw [pss]
  by_cases a : RX j + 1 < stop
  · rw [if_pos a, h2]
    conv => rhs; rw [pss]
    by_cases b : RX (j + 1) < stop
    · rw [if_pos b, if_pos b, hid, if_pos b, az]
    · rw [if_neg b, if_neg b]
  · rw [if_neg a]
    have e : RX (j + 1) = RX j + 1 := by omega
    conv => rhs; rw [pss]
    rw [if_neg (by omega), e, az]
theorem Chn.idm (h : Chn T n m S RX LX) {j : Nat} (hj : j ≤ m) : lf T n (RX j) = RX j := by
  by_cases c : j < m
  · exact (h.2.2 j c).2.2.2.2
  · rw [show j = m by omega, h.1]; exact lf_no (by omega)
theorem Chn.pass (h : Chn T n m S RX LX) : ∀ (d j c : Nat), j + d ≤ m → pss T n (RX (j + d)) (RX j) (LX j) c = (RX (j + d), LX (j + d), c + d) := by
  intro d
  induction d with
  | zero =>
    intro j c _
    rw [Nat.add_zero, Nat.add_zero, pss, if_neg (Nat.lt_irrefl _)]
  | succ d ih =>
    intro j c hd
    have hj : j < m := by omega
    have h1 := h.le (i := j) (j := j + (d + 1)) (by omega) hd
    have h2 := h.le (i := j + 1) (j := j + (d + 1)) (by omega) hd
    have hi := (h.2.2 j hj)
    rw [pss, if_pos (by omega), hi.2.2.2.2, if_pos (by omega), az, hi.2.1, h.pass1 hj (by omega) (h.idm (by omega)), ← hi.2.2.2.1, show j + (d + 1) = (j + 1) + d by omega, ih (j + 1) (c + 1) (by omega), show c + 1 + d = c + (d + 1) by omega]
theorem Chn.passTo (h : Chn T n m S RX LX) {i j : Nat} (hij : i ≤ j) (hj : j ≤ m) : pss T n (RX j) (RX i) (LX i) 0 = (RX j, LX j, j - i) := by
  have := h.pass (j - i) i 0 (by omega)
  rw [show i + (j - i) = j by omega, Nat.zero_add] at this
  exact this
theorem Chn.passLF (h : Chn T n m S RX LX) {j : Nat} (hj : j < m) (hl : S j = 10) : pss T n (RX j + 1) (RX j) (LX j) 0 = (RX j + 1, LX j + 1, 1) := by
  have hi := (h.2.2 j hj)
  rw [pss, if_pos (by omega), hi.2.2.2.2, if_pos (by omega), hi.2.1, if_pos hl, az, pss, if_neg (by omega)]
end CHN
