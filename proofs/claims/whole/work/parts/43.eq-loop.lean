/-! next's loops: the simulation -/
theorem cpG_at {h : Nat → Nat} {sp n i : Nat} {f : Nat → Nat} (hi : i < n) : cpG h sp n f (sp + i) = h i := by
  unfold cpG
  rw [if_pos (by omega), show sp + i - sp = i by omega]
theorem cpG_lo {h : Nat → Nat} {sp n j : Nat} {f : Nat → Nat} (hj : j < sp) : cpG h sp n f j = f j := by
  unfold cpG
  rw [if_neg (by omega)]
theorem SPL.congr {T : Nat → Int64} {n s z : Nat} {f f' : Nat → Nat} (h : SPL T n s z f) (e : ∀ i, i < z → f' i = f i) : SPL T n s z f' := by
  intro i hi
  rw [e i hi]
  exact h i hi
section SIML
variable {T : Nat → Int64} {n m : Nat} {S RX LX x1 x3 x4 : Nat → Nat}
/-- blanks and comments: on to index g' -/
theorem SIM.pb {Z : Nat → Nat} {K : Nat → Int64} {Y x5 x6 x7 x8 x9 : Nat → Nat} {g g' many much bf first : Nat} (h : Chn T n m S RX LX) (hs : SIM T n m S RX LX Z K Y x5 x6 x7 x8 x9 g many much bf first) (h1 : g ≤ g') (h2 : g' ≤ m) : SIM T n m S RX LX (pbZ T Z (RX g')) K Y x5 x6 x7 x8 x9 g' many much 1 first := by
  obtain ⟨⟨a1, a2, a3, a4, a5, a6, a7⟩, ⟨b1, b2, b3, b4, b5, b6⟩, c, ⟨d1, d2, d3⟩, ⟨e1, e2⟩, f, t⟩ := hs
  have hp : psZ T Z (RX g') = (RX g', LX g', g' - g) := by
    unfold psZ
    rw [a1, a5, a6]
    exact h.passTo h1 h2
  have p3 : pbZ T Z (RX g') 3 = RX g' := by show (psZ T Z (RX g')).1 = _; rw [hp]
  have p4 : pbZ T Z (RX g') 4 = LX g' := by show (psZ T Z (RX g')).2.1 = _; rw [hp]
  exact ⟨⟨a1, a2, a3, a4, p3, p4, h2⟩, ⟨b1, rfl, b3, b4, Nat.le_refl _, by omega⟩, c, ⟨d1, by omega, d3⟩, ⟨e1.up h1, e2.up h1⟩, f, t⟩
set_option maxHeartbeats 4000000 in
/-- a token is kept -/
theorem SIM.tok {Z Z1 : Nat → Nat} {K : Nat → Int64} {Y x5 x6 x7 x8 x9 : Nat → Nat} {g many much bf first kd : Nat} (h : Chn T n m S RX LX) (hs : SIM T n m S RX LX Z K Y x5 x6 x7 x8 x9 g many much bf first) (hJ : lmJ Z) (hg : g < m) (hmn : m ≤ 32768) (h4 : x4 g = LX g)
    (k1 : ∀ k, k ≠ 14 → k ≠ 15 → k ≠ 6 → Z1 k = Z k) (k2 : Mem S RX m 34 (Z1 14) g) (k3 : Mem S RX m 39 (Z1 15) g) (kn1 : ¬ (ts1 S m g = 1 ∧ (S g = 34 ∨ S g = 39) ∧ 1000 ≤ Z 6)) (k4 : kd = kn (S g) (if 1 < ts1 S m g then S (g + 1) else 256)) (k5 : kd < 16) (k6 : Z1 6 = (if ts1 S m g = 1 ∧ (S g = 34 ∨ S g = 39) then Z 6 + 1 else Z 6)) :
    SIM T n m S RX LX (adZ T Z1 (RX (g + ts1 S m g))) (adK T Z1 K kd (RX (g + ts1 S m g))) (rKY (rQ Y (ts1 S m g) (S g)) many (ts1 S m g)) (rK5 Y x5 many) (rK6 Y x6 many (ts1 S m g)) (rK6 Y x7 many (x4 g)) (rK6 Y x8 many bf) (rK9 S Y x9 many g (ts1 S m g)) (g + ts1 S m g) (many + 1) (if many = 8000 then x4 g else much) 0 (if many = 0 then x4 g else first) := by
  have hS := h.2.1
  have hz := ts1_b hS hg
  have hlast := fun q => ts_last hS hg q
  generalize ts1 S m g = z at hz hlast kn1 k4 k6 ⊢
  obtain ⟨⟨a1, a2, a3, a4, a5, a6, a7⟩, ⟨b1, b2, b3, b4, b5, b6⟩, ⟨c1, c2, c3, c4, c5, c6, c7, c8⟩, ⟨d1, d2, d3⟩, ⟨e1, e2⟩, ⟨f1, f2, f3⟩, t⟩ := hs
  unfold lmJ at hJ
  have z2 := k1 2 (by decide) (by decide) (by decide)
  have z3 := k1 3 (by decide) (by decide) (by decide)
  have z4 := k1 4 (by decide) (by decide) (by decide)
  have z5 := k1 5 (by decide) (by decide) (by decide)
  have z7 := k1 7 (by decide) (by decide) (by decide)
  have z8 := k1 8 (by decide) (by decide) (by decide)
  have z9 := k1 9 (by decide) (by decide) (by decide)
  have z10 := k1 10 (by decide) (by decide) (by decide)
  have z11 := k1 11 (by decide) (by decide) (by decide)
  have z12 := k1 12 (by decide) (by decide) (by decide)
  have z13 := k1 13 (by decide) (by decide) (by decide)
  have hp : psZ T Z1 (RX (g + z)) = (RX (g + z), LX (g + z), z) := by
    unfold psZ
    rw [z2, z3, z4, a1, a5, a6]
    have := h.passTo (i := g) (j := g + z) (by omega) (by omega)
    rw [show g + z - g = z by omega] at this
    exact this
  have hRg := h.top (j := g) (by omega)
  -- the reference's fields
  have hq : ∀ k, k ≠ 7 → rQ Y z (S g) k = Y k := by
    intro k hk
    unfold rQ
    split
    · exact zu_ne hk
    · rfl
  have hq7 : rQ Y z (S g) 7 = (if z = 1 ∧ (S g = 34 ∨ S g = 39) then Y 7 + 1 else Y 7) := by
    unfold rQ
    by_cases c : z = 1 ∧ (S g = 34 ∨ S g = 39)
    · rw [if_pos c, if_pos c]; exact zu_eq _ _ _
    · rw [if_neg c, if_neg c]
  have hky : ∀ k, k ≠ 13 → k ≠ 18 → rKY (rQ Y z (S g)) many z k = rQ Y z (S g) k := by
    intro k h1 h2
    unfold rKY
    split
    · rw [zu_ne h2, zu_ne h1]
    · rfl
  have y13 : many < 8000 → rKY (rQ Y z (S g)) many z 13 = Y 13 + 1 := by
    intro c
    unfold rKY
    rw [if_pos c, zu_ne (by decide), zu_eq, hq 13 (by decide)]
  have y18 : rKY (rQ Y z (S g)) many z 18 = (if many < 8000 then Y 18 + z else Y 18) := by
    unfold rKY
    by_cases c : many < 8000
    · rw [if_pos c, if_pos c, zu_eq, hq 18 (by decide)]
    · rw [if_neg c, if_neg c, hq 18 (by decide)]
  have p3 : adZ T Z1 (RX (g + z)) 3 = RX (g + z) := by show (psZ T Z1 (RX (g + z))).1 = _; rw [hp]
  have p4 : adZ T Z1 (RX (g + z)) 4 = LX (g + z) := by show (psZ T Z1 (RX (g + z))).2.1 = _; rw [hp]
  refine ⟨⟨show Z1 2 = n by omega, by rw [hky 0 (by decide) (by decide), hq 0 (by decide)]; exact a2, by rw [hky 8 (by decide) (by decide), hq 8 (by decide)]; exact a3, by rw [hky 12 (by decide) (by decide), hq 12 (by decide)]; exact a4, p3, p4, by omega⟩,
    ⟨show Z1 10 + 1 = many + 1 by omega, rfl, fun _ => ?_, fun h8 => ?_, Nat.zero_le _, by omega⟩,
    ⟨?_, show Z1 5 = _ by rw [hky 6 (by decide) (by decide), hq 6 (by decide)]; omega, show Z1 7 = _ by rw [hky 5 (by decide) (by decide), hq 5 (by decide)]; omega, show Z1 8 = 0 by omega, by rw [hky 4 (by decide) (by decide), hq 4 (by decide)]; exact c5, show Z1 9 = 0 by omega, by rw [hky 6 (by decide) (by decide), hq 6 (by decide)]; exact c7, ?_⟩,
    ⟨fun h8 => by rw [y13 (by omega), d1 (by omega)], by rw [y18]; split <;> omega, fun z => by omega⟩, ⟨k2.up (by omega), k3.up (by omega)⟩, ⟨fun j => ?_, fun j => ?_, fun _ => ?_⟩, fun j hj hj8 => ?_⟩
  · show (if Z1 10 = 0 then Z1 4 else Z1 12) = _
    by_cases c : many = 0
    · rw [if_pos c, if_pos (by omega)]; omega
    · rw [if_neg c, if_neg (by omega)]; have := b3 (by omega); omega
  · show (if Z1 10 = 8000 then Z1 4 else Z1 13) = _
    by_cases c : many = 8000
    · rw [if_pos c, if_pos (by omega)]; omega
    · rw [if_neg c, if_neg (by omega)]; have := b4 (by omega); omega
  · show Z1 6 = _
    rw [hky 7 (by decide) (by decide), hq7, k6, c1]
  · rw [hky 7 (by decide) (by decide), hq7]
    by_cases c : z = 1 ∧ (S g = 34 ∨ S g = 39)
    · rw [if_pos c]
      have : ¬ 1000 ≤ Z 6 := fun q => kn1 ⟨c.1, c.2, q⟩
      omega
    · rw [if_neg c]; exact c8
  · unfold rK6
    split
    · unfold nu
      split
      · omega
      · exact f1 j
    · exact f1 j
  · unfold rK9
    split
    · exact cpG_lt (fun i => hS _) f2 j
    · exact f2 j
  · unfold rK5
    by_cases c : many = 0
    · rw [if_pos (by omega), d1 (by omega), c, nu_e]
      exact d3 c
    · by_cases c2 : many < 8000
      · rw [if_pos c2, nu_n (by rw [d1 (by omega)]; omega)]
        exact f3 (by omega)
      · rw [if_neg c2]
        exact f3 (by omega)
  · rw [y18]
    by_cases c : many < 8000
    · have hY13 := d1 (by omega)
      have hK : adK T Z1 K kd (RX (g + z)) = vp_updL K many (lN (pkT (RX g) z (LX g) kd bf)) := by
        unfold adK
        rw [if_pos (by omega), hp, z10, b1, z3, a5, z4, a6, z11, b2]
      unfold rK5 rK6 rK9
      rw [if_pos c, if_pos c, if_pos c, if_pos c, if_pos c, if_pos c, hK, hY13]
      by_cases e : j = many
      · subst e
        obtain ⟨u1, u2, u3, u4, u5⟩ := tk_un (a := RX g) (b := z) (li := LX g) (kd := kd) (bf := bf) (by omega) (by omega) (by omega) k5 (by omega) (K := K) (i := j)
        have hspl := h.spl (g := g) (z := z) (by omega) hlast
        refine ⟨⟨by rw [u2, nu_e], by rw [u3, nu_e, h4], by rw [u5, nu_e], by rw [nu_e]; exact b5, ?_, by rw [nu_e]; omega, by rw [nu_e, nu_e]; omega, ?_⟩, by rw [nu_e, nu_e]; exact Nat.le_refl _⟩
        · rw [u4, nu_e, nu_e, k4]
          have w0 : cpG (fun i => S (g + i)) (Y 18) z x9 (Y 18) = S g := cpG_at (i := 0) (by omega)
          rw [w0]
          by_cases c1 : 1 < z
          · have w1 : cpG (fun i => S (g + i)) (Y 18) z x9 (Y 18 + 1) = S (g + 1) := cpG_at c1
            rw [if_pos c1, if_pos c1, w1]
          · rw [if_neg c1, if_neg c1]
        · rw [u1, nu_e, nu_e]
          exact hspl.congr (fun i hi => cpG_at hi)
      · obtain ⟨o1, o2⟩ := t j (by omega) hj8
        obtain ⟨v1, v2, v3, v4, v5⟩ := tk_ot (K := K) (i := many) (j := j) (x := lN (pkT (RX g) z (LX g) kd bf)) e
        obtain ⟨w1, w2, w3, w4, w5, w6, w7, w8⟩ := o1
        have hlo : ∀ i, i < x6 j → cpG (fun i => S (g + i)) (Y 18) z x9 (x5 j + i) = x9 (x5 j + i) := fun i hi => cpG_lo (by omega)
        refine ⟨⟨by rw [v2, nu_n e]; exact w1, by rw [v3, nu_n e]; exact w2, by rw [v5, nu_n e]; exact w3, by rw [nu_n e]; exact w4, ?_, by rw [nu_n e]; exact w6, by rw [nu_n e, nu_n e]; exact w7, ?_⟩, by rw [nu_n e, nu_n e]; omega⟩
        · rw [v4, nu_n e, nu_n e, w5, show cpG (fun i => S (g + i)) (Y 18) z x9 (x5 j) = x9 (x5 j) from hlo 0 (by omega)]
          by_cases c1 : 1 < x6 j
          · rw [if_pos c1, if_pos c1, hlo 1 c1]
          · rw [if_neg c1, if_neg c1]
        · rw [v1, nu_n e, nu_n e]
          exact w8.congr hlo
    · have hK : adK T Z1 K kd (RX (g + z)) = K := by
        unfold adK
        rw [if_neg (by omega)]
      unfold rK5 rK6 rK9
      rw [if_neg c, if_neg c, if_neg c, if_neg c, if_neg c, if_neg c, hK]
      exact t j (by omega) hj8
end SIML
