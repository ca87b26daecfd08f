/-! tokens: what they hold on both sides -/
/-- the i-th place of a token that starts at s -/
def stp (T : Nat → Int64) (n s : Nat) : Nat → Nat
  | 0 => s
  | i + 1 => lf T n (stp T n s i + 1)
def SPL (T : Nat → Int64) (n s z : Nat) (f : Nat → Nat) : Prop := ∀ i, i < z → stp T n s i < n ∧ byt T (stp T n s i) = f i ∧ (1 ≤ i → f i = 92 → stp T n s i + 1 < n)
def TOK (T : Nat → Int64) (n : Nat) (K : Nat → Int64) (x5 x6 x7 x8 x9 : Nat → Nat) (j : Nat) : Prop :=
  tkB K j = x6 j ∧ tkL K j = x7 j ∧ tkF K j = x8 j ∧ x8 j ≤ 1 ∧ tkK K j = kn (x9 (x5 j)) (if 1 < x6 j then x9 (x5 j + 1) else 256) ∧ 1 ≤ x6 j ∧ x5 j + x6 j ≤ 32768 ∧ SPL T n (tkS K j) (x6 j) (fun i => x9 (x5 j + i))
theorem lf_ext {T T' : Nat → Int64} {n n' : Nat} (hn : n ≤ n') (hT : ∀ p, p < n → byt T' p = byt T p) : ∀ (k q r : Nat), n - q < k → lf T n q = r → r < n → (byt T r = 92 → r + 1 < n) → lf T' n' q = r := by
  intro k
  induction k with
  | zero => intro q r hk; exact absurd hk (by omega)
  | succ k ih =>
    intro q r hk he hr h92
    have hqb := lf_b T n q
    have hqn : q < n := by omega
    have e0 : gb T' n' q = gb T n q := by rw [gb_lo hqn, gb_lo (by omega), hT q hqn]
    by_cases c : q + 1 < n ∧ gb T n q = 92 ∧ gb T n (q + 1) = 10
    · have e1 : gb T' n' (q + 1) = gb T n (q + 1) := by rw [gb_lo c.1, gb_lo (by omega), hT _ c.1]
      rw [lf_yes c] at he
      rw [lf_yes (T := T') (n := n') ⟨by omega, by omega, by omega⟩]
      exact ih (q + 2) r (by omega) he hr h92
    · rw [lf_no c] at he
      subst he
      refine lf_no (fun z => ?_)
      have h1 : byt T q = 92 := by rw [← gb_lo hqn]; omega
      have h2 := h92 h1
      have e1 : gb T' n' (q + 1) = gb T n (q + 1) := by rw [gb_lo h2, gb_lo (by omega), hT _ h2]
      exact c ⟨h2, by omega, by omega⟩
theorem SPL.ext {T T' : Nat → Int64} {n n' s z : Nat} {f : Nat → Nat} (hn : n ≤ n') (hT : ∀ p, p < n → byt T' p = byt T p) (h : SPL T n s z f) : SPL T' n' s z f := by
  have key : ∀ i, i < z → stp T' n' s i = stp T n s i := by
    intro i
    induction i with
    | zero => intro _; rfl
    | succ i ih =>
      intro hi
      obtain ⟨h1, h2, h3⟩ := h (i + 1) hi
      show lf T' n' (stp T' n' s i + 1) = stp T n s (i + 1)
      rw [ih (by omega)]
      exact lf_ext hn hT (n + 1) _ _ (by omega) rfl h1 (fun q => h3 (by omega) (by rw [← h2]; exact q))
  intro i hi
  obtain ⟨h1, h2, h3⟩ := h i hi
  rw [key i hi]
  exact ⟨by omega, by rw [hT _ h1]; exact h2, fun a b => by have := h3 a b; omega⟩
theorem TOK.ext {T T' : Nat → Int64} {n n' : Nat} {K : Nat → Int64} {x5 x6 x7 x8 x9 : Nat → Nat} {j : Nat} (hn : n ≤ n') (hT : ∀ p, p < n → byt T' p = byt T p) (h : TOK T n K x5 x6 x7 x8 x9 j) : TOK T' n' K x5 x6 x7 x8 x9 j :=
  ⟨h.1, h.2.1, h.2.2.1, h.2.2.2.1, h.2.2.2.2.1, h.2.2.2.2.2.1, h.2.2.2.2.2.2.1, h.2.2.2.2.2.2.2.ext hn hT⟩
theorem tk_un {a b li kd bf : Nat} (ha : a < 65536) (hb : b < 65536) (hl : li < 65536) (hk : kd < 16) (hf : bf < 2) {K : Nat → Int64} {i : Nat} : tkS (vp_updL K i (lN (pkT a b li kd bf))) i = a ∧ tkB (vp_updL K i (lN (pkT a b li kd bf))) i = b ∧ tkL (vp_updL K i (lN (pkT a b li kd bf))) i = li ∧ tkK (vp_updL K i (lN (pkT a b li kd bf))) i = kd ∧ tkF (vp_updL K i (lN (pkT a b li kd bf))) i = bf := by
  have e : tn (lN (pkT a b li kd bf)) = pkT a b li kd bf := tn_of (by unfold pkT; omega)
  unfold tkS tkB tkL tkK tkF
  rw [pk_uLs, e]
  unfold pkT
  omega
theorem tk_ot {K : Nat → Int64} {i j : Nat} {x : Int64} (h : j ≠ i) : tkS (vp_updL K i x) j = tkS K j ∧ tkB (vp_updL K i x) j = tkB K j ∧ tkL (vp_updL K i x) j = tkL K j ∧ tkK (vp_updL K i x) j = tkK K j ∧ tkF (vp_updL K i x) j = tkF K j := by
  unfold tkS tkB tkL tkK tkF
  rw [pk_uLn h]
  exact ⟨rfl, rfl, rfl, rfl, rfl⟩
section TOKS
variable {T : Nat → Int64} {n m : Nat} {S RX LX : Nat → Nat}
theorem Chn.stq (h : Chn T n m S RX LX) {g : Nat} : ∀ i, g + i ≤ m → stp T n (RX g) i = RX (g + i) := by
  intro i
  induction i with
  | zero => intro _; rfl
  | succ i ih =>
    intro hi
    show lf T n (stp T n (RX g) i + 1) = _
    rw [show stp T n (RX g) i = RX (g + i) from ih (by omega)]
    exact h.lf1 (by omega)
theorem nmI_last {S : Nat → Nat} {m : Nat} (hS : ∀ j, S j < 256) : ∀ (k j : Nat), m - j < k → j < nmI S m j → (isL (S (nmI S m j - 1)) = true ∨ isD (S (nmI S m j - 1)) = true) := by
  intro k
  induction k with
  | zero => intro j hk; exact absurd hk (by omega)
  | succ k ih =>
    intro j hk hj
    by_cases c : j < m ∧ (isL (rb S m j) = true ∨ isD (rb S m j) = true)
    · have e : nmI S m j = nmI S m (j + 1) := by conv => lhs; rw [nmI, if_pos c]
      have er : rb S m j = S j := if_pos c.1
      rw [e]
      have hb := nmI_b S m (j + 1)
      by_cases d : j + 1 < nmI S m (j + 1)
      · exact ih (j + 1) (by omega) d
      · rw [show nmI S m (j + 1) - 1 = j by omega, ← er]
        exact c.2
    · have e : nmI S m j = j := by rw [nmI, if_neg c]
      omega
theorem nuI_last {S : Nat → Nat} {m : Nat} : ∀ (k j : Nat), m - j < k → j < nuI S m j → goB (S (nuI S m j - 1)) (rb S m (nuI S m j - 1 - 1)) = true := by
  intro k
  induction k with
  | zero => intro j hk; exact absurd hk (by omega)
  | succ k ih =>
    intro j hk hj
    by_cases c : j < m ∧ goB (rb S m j) (rb S m (j - 1)) = true
    · have e : nuI S m j = nuI S m (j + 1) := by conv => lhs; rw [nuI, if_pos c]
      have er : rb S m j = S j := if_pos c.1
      rw [e]
      have hb := nuI_b S m (j + 1)
      by_cases d : j + 1 < nuI S m (j + 1)
      · exact ih (j + 1) (by omega) d
      · rw [show nuI S m (j + 1) - 1 = j by omega, ← er]
        exact c.2
    · have e : nuI S m j = j := by rw [nuI, if_neg c]
      omega
theorem goB_92 {y : Nat} : goB 92 y = false := goB_f (by decide) (by decide) (by decide) (Or.inl (by decide))
theorem qdO_last {S : Nat → Nat} {m g x : Nat} (h : qdO S m g = some x) : S (x - 1) = S g := by
  unfold qdO at h
  by_cases c : qd S m (S g) (g + 1) < m ∧ S (qd S m (S g) (g + 1)) = S g
  · rw [if_pos c] at h; cases h; exact c.2
  · rw [if_neg c] at h; cases h
theorem ts3_last {S : Nat → Nat} (hS : ∀ j, S j < 256) {m g : Nat} (hg : g < m) (h2 : 2 ≤ ts3 S m g) : S (g + ts3 S m g - 1) ≠ 92 := by
  have rg : rb S m g = S g := if_pos hg
  have r1 := rb_in hS m (g + 1)
  have r2 := rb_in hS m (g + 2)
  unfold ts3 at h2 ⊢
  by_cases c3 : isL (rb S m g) = true
  · rw [if_pos c3] at h2 ⊢
    have hb := nmI_b S m (g + 1)
    have hl := nmI_last (m := m) hS (m + 1) (g + 1) (by omega) (by omega)
    rw [show g + (nmI S m (g + 1) - g) - 1 = nmI S m (g + 1) - 1 by omega]
    intro z
    rw [z] at hl
    revert hl
    decide
  · rw [if_neg c3] at h2 ⊢
    by_cases c4 : isD (rb S m g) = true ∨ (rb S m g = 46 ∧ isD (rb S m (g + 1)) = true)
    · rw [if_pos c4] at h2 ⊢
      have hb := nuI_b S m (g + 1)
      have hl := nuI_last (S := S) (m := m) (m + 1) (g + 1) (by omega) (by omega)
      rw [show g + (nuI S m (g + 1) - g) - 1 = nuI S m (g + 1) - 1 by omega]
      intro z
      rw [z, goB_92] at hl
      cases hl
    · rw [if_neg c4] at h2 ⊢
      by_cases c5 : (rb S m g = 46 ∧ rb S m (g + 1) = 46 ∧ rb S m (g + 2) = 46) ∨ ((rb S m g = 60 ∨ rb S m g = 62) ∧ rb S m (g + 1) = rb S m g ∧ rb S m (g + 2) = 61)
      · rw [sgN, if_pos c5, show g + 3 - 1 = g + 2 by omega]
        omega
      · rw [sgN_n c5] at h2 ⊢
        by_cases c6 : (rb S m g = rb S m (g + 1) ∧ io 4 (rb S m g) = true) ∨ (rb S m (g + 1) = 61 ∧ io 5 (rb S m g) = true) ∨ (rb S m g = 45 ∧ rb S m (g + 1) = 62)
        · rw [if_pos c6, show g + 2 - 1 = g + 1 by omega]
          rcases c6 with c6 | c6 | c6
          · have h4 := (io_4 _).mp c6.2
            omega
          · omega
          · omega
        · rw [if_neg c6] at h2
          omega
theorem ts2_last {S : Nat → Nat} (hS : ∀ j, S j < 256) {m g : Nat} (hg : g < m) (h2 : 2 ≤ ts2 S m g) : S (g + ts2 S m g - 1) ≠ 92 := by
  have rg : rb S m g = S g := if_pos hg
  by_cases c2 : rb S m g = 34 ∨ rb S m g = 39
  · cases e : qdO S m g with
    | some x =>
      have hb := qdO_b e
      have hl := qdO_last e
      rw [ts2_s c2 e, show g + (x - g) - 1 = x - 1 by omega, hl]
      omega
    | none => rw [ts2_n (fun _ => e)] at h2 ⊢; exact ts3_last hS hg h2
  · rw [ts2_n (fun z => absurd z c2)] at h2 ⊢; exact ts3_last hS hg h2
/-- the last byte of a token of two bytes or more isn't 92 -/
theorem ts_last {S : Nat → Nat} (hS : ∀ j, S j < 256) {m g : Nat} (hg : g < m) (h2 : 2 ≤ ts1 S m g) : S (g + ts1 S m g - 1) ≠ 92 := by
  have rg : rb S m g = S g := if_pos hg
  by_cases c1 : rb S m g = 76 ∧ (rb S m (g + 1) = 34 ∨ rb S m (g + 1) = 39)
  · have r1 := rb_in hS m (g + 1)
    cases e : qdO S m (g + 1) with
    | some x =>
      have hb := qdO_b e
      have hl := qdO_last e
      rw [ts1_s c1 e, show g + (x - g) - 1 = x - 1 by omega, hl]
      omega
    | none => rw [ts1_n (fun _ => e)] at h2 ⊢; exact ts2_last hS hg h2
  · rw [ts1_n (fun z => absurd z c1)] at h2 ⊢; exact ts2_last hS hg h2
/-- what a token looks like on both sides, when it is cut at index g: its places, its last byte -/
theorem Chn.spl (h : Chn T n m S RX LX) {g z : Nat} (hz : g + z ≤ m) (hl : 2 ≤ z → S (g + z - 1) ≠ 92) : SPL T n (RX g) z (fun i => S (g + i)) := by
  intro i hi
  have hs := h.stq (g := g) i (by omega)
  have hc := h.2.2 (g + i) (by omega)
  rw [hs]
  refine ⟨hc.1, ?_, fun h1 h9 => ?_⟩
  · rw [← gb_lo hc.1]; exact hc.2.1
  · have hne : ¬ i = z - 1 := fun e => hl (by omega) (by rw [show g + z - 1 = g + i by omega]; exact h9)
    have h3 := h.st (j := g + i) (by omega)
    have h4 := (h.end (j := g + i + 1) (by omega)).mpr (by omega)
    omega
end TOKS
