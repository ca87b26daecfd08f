/-! next's loops on both sides, the induction -/
theorem nxL_e {T : Nat → Int64} {Z : Nat → Nat} {K : Nat → Int64} {e0 f : Nat} (h : ¬ (e0 = 0 ∧ f = 0)) : ∀ k, nxL T k Z K e0 f = (Z, K, f) := by
  intro k
  cases k with
  | zero => rfl
  | succ k => rw [nxL, if_neg (fun z => h z.2)]
theorem rL_e {x1 x2 x3 x4 Y x5 x6 x7 x8 x9 : Nat → Nat} {g many much bf first : Nat} : ∀ k, rL x1 x2 x3 x4 k Y x5 x6 x7 x8 x9 g many much bf first 1 = rE x1 x2 x3 x4 Y x5 x6 x7 x8 x9 g many much first 1 := by
  intro k
  cases k with
  | zero => rfl
  | succ k => rw [rL, if_pos (by omega)]
set_option maxHeartbeats 4000000 in
theorem sim_loop {T : Nat → Int64} {n m : Nat} {S RX LX x1 x3 x4 : Nat → Nat} (h : Chn T n m S RX LX) (hmn : m ≤ 32768) (hx : ∀ j, j < m → x3 j = RX j ∧ x4 j = LX j) : ∀ (k : Nat) (Z : Nat → Nat) (K : Nat → Int64) (Y x5 x6 x7 x8 x9 : Nat → Nat) (g many much bf first : Nat), m - g < k → SIM T n m S RX LX Z K Y x5 x6 x7 x8 x9 g many much bf first → lmJ Z → Y 2 ≤ Y 0 →
    OUT T x1 S x3 x4 (nxE (nxL T k Z K 0 0)) (rL x1 S x3 x4 k Y x5 x6 x7 x8 x9 g many much bf first 0) := by
  intro k
  induction k with
  | zero => intro Z K Y x5 x6 x7 x8 x9 g many much bf first hk; exact absurd hk (by omega)
  | succ k ih =>
    intro Z K Y x5 x6 x7 x8 x9 g many much bf first hk hs hJ hY2
    have hs0 := hs
    obtain ⟨⟨a1, a2, a3, a4, a5, a6, a7⟩, ⟨b1, b2, b3, b4, b5, b6⟩, c, ⟨d1, d2, d3⟩, ⟨e1, e2⟩, ⟨f1, f2, f3⟩, t⟩ := hs
    by_cases hg : g < m
    · have h3 : Z 3 < Z 2 := by rw [a5, a1]; exact (h.end a7).mpr hg
      have hcJ := cpZ_J (T := T) (K := K) hJ h3
      have hx0 : gb T (Z 2) (Z 3) = S g := by rw [a1, a5]; exact (h.2.2 g hg).2.1
      have hlf : lf T (Z 2) (Z 3 + 1) = RX (g + 1) := by rw [a1, a5]; exact h.lf1 hg
      have hy : gb T (Z 2) (RX (g + 1)) = rb S m (g + 1) := by rw [a1]; exact h.gbx (by omega)
      have hxg := hx g hg
      rw [nxL, if_pos ⟨h3, rfl, rfl⟩, hx0, rL, a3, if_neg (show ¬ ¬ (0 = 0 ∧ g < m) by omega)]
      have hcp : cpZ T Z K = cpR T Z K (S g) (RX (g + 1)) (rb S m (g + 1)) := by
        unfold cpZ
        rw [hx0, hlf, hy]
      by_cases l0 : S g = 10
      · have hc : cpZ T Z K = (pbZ T Z (RX g + 1), K, 0) := by rw [hcp, cpR, if_pos l0, a5]
        rw [hc] at hcJ ⊢
        have hp : psZ T Z (RX g + 1) = (RX g + 1, LX g + 1, 1) := by
          unfold psZ
          rw [a1, a5, a6]
          exact h.passLF hg l0
        rw [if_pos l0, if_pos l0, rL_e]
        dsimp only
        rw [nxL_e (by decide)]
        refine sim_end (n := n) hcJ.1 ⟨a1, a2⟩ ⟨?_, ?_⟩ ⟨b1, b3, b4⟩ c d1 ⟨f1, f2, f3⟩ (fun j hj hj8 => (t j hj hj8).1)
        · rw [if_neg (by decide), hxg.1]
          show (psZ T Z (RX g + 1)).1 = _
          rw [hp]
        · rw [if_neg (by decide), hxg.2]
          show (psZ T Z (RX g + 1)).2.1 = _
          rw [hp]
      rw [if_neg l0, if_neg l0]
      by_cases l1 : isB (S g) = true
      · have hc : cpZ T Z K = (pbZ T Z (RX (g + 1)), K, 0) := by rw [hcp, cpR, if_neg l0, if_pos l1]
        rw [hc] at hcJ ⊢
        rw [if_pos l1]
        exact ih _ _ _ _ _ _ _ _ _ _ _ _ _ (by omega) (hs0.pb h (by omega) (by omega)) hcJ.1 hY2
      rw [if_neg l1]
      by_cases l2 : S g = 47 ∧ rb S m (g + 1) = 42
      · rw [if_pos l2]
        have hg1 : g + 1 < m := by
          have := l2.2
          unfold rb at this
          by_cases z : g + 1 < m
          · exact z
          · rw [if_neg z] at this; omega
        have hcm := (h.cm (m + 1) (g + 2) (by omega) (by omega)).1
        have hlf2 : lf T (Z 2) (RX (g + 1) + 1) = RX (g + 2) := by rw [a1]; exact h.lf1 hg1
        have hc : cpZ T Z K = ((pcZ T Z (RX (g + 2))).1, K, (pcZ T Z (RX (g + 2))).2) := by rw [hcp, cpR, if_neg l0, if_neg l1, if_pos l2, hlf2]
        rw [hc] at hcJ ⊢
        have hcx : cmE T (Z 2) (RX (g + 2)) false = (ceO S m g).map RX := by
          rw [a1, hcm]
          unfold cx ceO
          split <;> rfl
        cases e : ceO S m g with
        | none =>
          have hpc : pcZ T Z (RX (g + 2)) = (zu (zu Z 7 (Z 4)) 8 1, 1) := by simp only [pcZ, hcx, e, Option.map_none]
          rw [hpc]
          dsimp only
          rw [nxL_e (by decide)]
          exact sim_fault (n := n) (by decide) hJ ⟨a1, a2⟩ hY2 ⟨c.2.1, c.2.2.2.2.2.1⟩ (by rw [hxg.2]; exact a6) ⟨f1, f2⟩
        | some to =>
          have hb := ceO_b e
          have hpc : pcZ T Z (RX (g + 2)) = (pbZ T Z (RX to), 0) := by simp only [pcZ, hcx, e, Option.map_some]
          rw [hpc] at hcJ ⊢
          exact ih _ _ _ _ _ _ _ _ _ _ _ _ _ (by omega) (hs0.pb h (by omega) (by omega)) hcJ.1 hY2
      rw [if_neg l2]
      by_cases l3 : S g = 47 ∧ rb S m (g + 1) = 47
      · rw [if_pos l3]
        have hln := h.ln (m + 1) (g + 1) (by omega) (by omega)
        have hl1 : lnI S m g = lnI S m (g + 1) := by conv => lhs; rw [lnI, if_pos ⟨hg, l0⟩]
        have hb := lnI_b S m (g + 1)
        have hc : cpZ T Z K = (pbZ T Z (RX (lnI S m (g + 1))), K, 0) := by rw [hcp, cpR, if_neg l0, if_neg l1, if_neg l2, if_pos l3, a1, hln]
        rw [hc] at hcJ ⊢
        rw [hl1]
        exact ih _ _ _ _ _ _ _ _ _ _ _ _ _ (by omega) (hs0.pb h (by omega) (by omega)) hcJ.1 hY2
      rw [if_neg l3]
      have hB : isB (S g) = false := by cases e : isB (S g) with
        | false => rfl
        | true => exact absurd e l1
      have htb := ts1_b h.2.1 hg
      obtain ⟨Z1, kd, k1, k2, k3, k4⟩ := h.step (K := K) a1 a5 hg l0 hB l2 l3 e1 e2
      rcases k4 with ⟨w1, w2, w3, w4, w5⟩ | ⟨w1, w2, w3, w4, w5⟩
      · rw [if_pos ⟨w1, w2, by omega⟩, w4]
        dsimp only
        rw [nxL_e (by decide)]
        have z4 := k1 4 (by decide) (by decide) (by decide)
        have z5 := k1 5 (by decide) (by decide) (by decide)
        have z9 := k1 9 (by decide) (by decide) (by decide)
        have z2 := k1 2 (by decide) (by decide) (by decide)
        have z3 := k1 3 (by decide) (by decide) (by decide)
        rw [w4] at hcJ
        have hq : ∀ k, k ≠ 7 → rQ Y (ts1 S m g) (S g) k = Y k := by
          intro k hk
          unfold rQ
          split
          · exact zu_ne hk
          · rfl
        have hJ1 : lmJ Z1 := hcJ.1
        exact sim_fault (n := n) (by decide) hJ1 ⟨by omega, by rw [hq 0 (by decide)]; exact a2⟩ (by rw [hq 0 (by decide), hq 2 (by decide)]; exact hY2) ⟨by rw [hq 6 (by decide)]; omega, by omega⟩ (by rw [hxg.2]; omega) ⟨f1, f2⟩
      · rw [w5] at hcJ ⊢
        rw [if_neg (fun z => w1 ⟨z.1, z.2.1, by omega⟩)]
        have hst := hs0.tok (x4 := x4) h hJ hg hmn hxg.2 k1 k2 k3 w1 w2 w3 w4
        refine ih _ _ _ _ _ _ _ _ _ _ _ _ _ (by omega) hst hcJ.1 ?_
        have hq : ∀ k, k ≠ 7 → rQ Y (ts1 S m g) (S g) k = Y k := by
          intro k hk
          unfold rQ
          split
          · exact zu_ne hk
          · rfl
        have hky : ∀ k, k ≠ 13 → k ≠ 18 → rKY (rQ Y (ts1 S m g) (S g)) many (ts1 S m g) k = rQ Y (ts1 S m g) (S g) k := by
          intro k h1 h2
          unfold rKY
          split
          · rw [zu_ne h2, zu_ne h1]
          · rfl
        rw [hky 2 (by decide) (by decide), hky 0 (by decide) (by decide), hq 2 (by decide), hq 0 (by decide)]
        exact hY2
    · have hgm : g = m := by omega
      have h3 : Z 3 = n := by rw [a5, hgm]; exact h.1
      rw [nxL, if_neg (by omega), rL, if_pos (by omega)]
      refine sim_end (n := n) hJ ⟨a1, a2⟩ ⟨?_, ?_⟩ ⟨b1, b3, b4⟩ c d1 ⟨f1, f2, f3⟩ (fun j hj hj8 => (t j hj hj8).1)
      · rw [if_pos rfl]; omega
      · rw [if_pos rfl, a6, a4, hgm]
