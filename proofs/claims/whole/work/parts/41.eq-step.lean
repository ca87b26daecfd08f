/-! a piece that is a token: class and reference cut alike -/
theorem kq_n {q b nx : Nat} (hq : ¬ (q = 34 ∨ q = 39)) (hL : isL b = false) : kq q b nx = if isD b = true ∨ (b = 46 ∧ isD nx = true) then 2 else if nx < 256 ∨ io 6 b = true then 5 else 6 := by
  rw [kq, if_neg hq, if_neg (by rw [hL]; decide)]
theorem kq_q {q b nx : Nat} (hq : q = 34 ∨ q = 39) : kq q b nx = kdQ q := by
  rw [kq, if_pos hq, kdQ]
theorem kq_L {q b nx : Nat} (hq : ¬ (q = 34 ∨ q = 39)) (hL : isL b = true) : kq q b nx = 1 := by
  rw [kq, if_neg hq, if_pos hL]
theorem kdQ_lt (y : Nat) : kdQ y < 16 := by unfold kdQ; split <;> omega
theorem isL_ne {x : Nat} (h : isL x = true) : (65 ≤ x ∧ x ≤ 90) ∨ (97 ≤ x ∧ x ≤ 122) ∨ x = 95 := by
  rcases Nat.decEq 0 0 with _ | _
  · omega
  · by_cases c : (65 ≤ x ∧ x ≤ 90) ∨ (97 ≤ x ∧ x ≤ 122) ∨ x = 95
    · exact c
    · rw [isL_f c] at h; cases h
theorem isD_ne {x : Nat} (h : isD x = true) : 48 ≤ x ∧ x ≤ 57 := by
  by_cases c : 48 ≤ x ∧ x ≤ 57
  · exact c
  · rw [isD_f c] at h; cases h
theorem isQ_ne {x : Nat} (h : isQ x = true) : x = 34 ∨ x = 39 := by
  by_cases c : x = 34 ∨ x = 39
  · exact c
  · rw [isQ_f c] at h; cases h
theorem io6_q {x : Nat} (h : x = 34 ∨ x = 39) : io 6 x = false := by
  cases e : io 6 x with
  | false => rfl
  | true => have := (io_6 x).mp e; omega
theorem ts3_q {S : Nat → Nat} {m g : Nat} (h : rb S m g = 34 ∨ rb S m g = 39) : ts3 S m g = 1 := by
  unfold ts3
  rw [if_neg (by rw [isL_f (by omega)]; decide), if_neg (fun z => by
    rcases z with z | z
    · rw [isD_f (by omega)] at z; cases z
    · omega), sgN_n (by omega), if_neg (fun z => by
    rcases z with z | z | z
    · have := (io_4 _).mp z.2; omega
    · have := (io_5 _).mp z.2; omega
    · omega)]
/-- what the class does at a token: fields Z1 before the token is kept, its kind -/
def StepT (T : Nat → Int64) (Z : Nat → Nat) (K : Nat → Int64) (m : Nat) (S RX : Nat → Nat) (g : Nat) (Z1 : Nat → Nat) (kd : Nat) : Prop :=
  (∀ k, k ≠ 14 → k ≠ 15 → k ≠ 6 → Z1 k = Z k) ∧ Mem S RX m 34 (Z1 14) g ∧ Mem S RX m 39 (Z1 15) g ∧
  ((ts1 S m g = 1 ∧ (S g = 34 ∨ S g = 39) ∧ 1000 ≤ Z 6 ∧ cpZ T Z K = (zu (zu Z1 7 (Z1 4)) 8 1, K, 21) ∧ Z1 6 = Z 6) ∨
   (¬ (ts1 S m g = 1 ∧ (S g = 34 ∨ S g = 39) ∧ 1000 ≤ Z 6) ∧ kd = kn (S g) (if 1 < ts1 S m g then S (g + 1) else 256) ∧ kd < 16 ∧ Z1 6 = (if ts1 S m g = 1 ∧ (S g = 34 ∨ S g = 39) then Z 6 + 1 else Z 6) ∧ cpZ T Z K = (adZ T Z1 (RX (g + ts1 S m g)), adK T Z1 K kd (RX (g + ts1 S m g)), 0)))
set_option maxHeartbeats 4000000 in
theorem Chn.step {T : Nat → Int64} {n m : Nat} {S RX LX : Nat → Nat} (h : Chn T n m S RX LX) {Z : Nat → Nat} {K : Nat → Int64} {g : Nat} (hZ2 : Z 2 = n) (hZ3 : Z 3 = RX g) (hg : g < m) (h10 : S g ≠ 10) (hB : isB (S g) = false) (hc1 : ¬ (S g = 47 ∧ rb S m (g + 1) = 42)) (hc2 : ¬ (S g = 47 ∧ rb S m (g + 1) = 47)) (hM : Mem S RX m 34 (Z 14) g) (hN : Mem S RX m 39 (Z 15) g) : ∃ Z1 kd, StepT T Z K m S RX g Z1 kd := by
  have hS := h.2.1
  have rg : rb S m g = S g := if_pos hg
  have r1 := rb_in hS m (g + 1)
  have hx : gb T n (RX g) = S g := (h.2.2 g hg).2.1
  have hlf := h.lf1 hg
  have hy : gb T n (RX (g + 1)) = rb S m (g + 1) := h.gbx (by omega)
  have hcp : cpZ T Z K = cpR T Z K (S g) (RX (g + 1)) (rb S m (g + 1)) := by
    unfold cpZ
    rw [hZ2, hZ3, hx, hlf, hy]
  have htb := ts1_b hS hg
  rw [cpR, if_neg h10, if_neg (by rw [hB]; decide), if_neg hc1, if_neg hc2] at hcp
  by_cases c5 : isQ (S g) = true
  · -- a quote
    have hq := isQ_ne c5
    rw [if_pos c5] at hcp
    have t1 : ts1 S m g = ts2 S m g := ts1_n (fun z => by omega)
    obtain ⟨q1, q2, q3⟩ := h.qe hZ2 hg rfl hq (Nat.le_refl g) (fun j h1 h2 => by omega) hM hN
    rw [← hZ3] at q1 q2 q3
    unfold cqZ at hcp
    have kk : ∀ k, k ≠ 14 → k ≠ 15 → (qeZ T Z (Z 3) (S g)).2 k = Z k := fun k h1 h2 => qeZ_k h1 h2
    generalize (qeZ T Z (Z 3) (S g)).2 = Z1 at hcp q2 q3 kk
    rw [q1] at hcp
    cases e : qdO S m g with
    | some x =>
      have hb := qdO_b e
      have t2 : ts1 S m g = x - g := by rw [t1, ts2_s (by rw [rg]; exact hq) e]
      rw [e] at hcp
      refine ⟨Z1, kdQ (S g), fun k h1 h2 _ => kk k h1 h2, q2, q3, Or.inr ⟨by omega, ?_, kdQ_lt _, ?_, ?_⟩⟩
      · rw [if_pos (by omega), kn_2 (by omega) (hS _), kq_q hq]
      · rw [if_neg (by omega)]; exact kk 6 (by decide) (by decide)
      · rw [hcp, t2, show g + (x - g) = x by omega]; rfl
    | none =>
      have t2 : ts1 S m g = 1 := by rw [t1, ts2_n (fun _ => e), ts3_q (by rw [rg]; exact hq)]
      rw [e] at hcp
      have e6 := kk 6 (by decide) (by decide)
      have hcp : cpZ T Z K = cqR T Z1 K (S g) none := hcp
      rw [cqR] at hcp
      by_cases d : 1000 ≤ Z1 6
      · rw [if_pos d] at hcp
        exact ⟨Z1, 0, fun k h1 h2 _ => kk k h1 h2, q2, q3, Or.inl ⟨t2, hq, by omega, hcp, e6⟩⟩
      · rw [if_neg d] at hcp
        refine ⟨zu Z1 6 (Z1 6 + 1), 6, fun k h1 h2 h3 => by rw [zu_ne h3]; exact kk k h1 h2, q2, q3, Or.inr ⟨by omega, ?_, by decide, ?_, ?_⟩⟩
        · rw [if_neg (by omega), kn_3 (by omega) (by decide), kq_n (by decide) (isL_f (by omega)), if_neg (fun z => by
            rcases z with z | z
            · rw [isD_f (by omega)] at z; cases z
            · omega), if_neg (fun z => by
            rcases z with z | z
            · omega
            · rw [io6_q hq] at z; cases z)]
        · rw [if_pos ⟨t2, hq⟩, zu_eq, e6]
        · rw [hcp, t2, kk 2 (by decide) (by decide), kk 3 (by decide) (by decide), hZ2, hZ3, hlf]
  rw [if_neg c5] at hcp
  have hnq : ¬ (S g = 34 ∨ S g = 39) := fun z => c5 (isQ_t z)
  by_cases c6 : S g = 76 ∧ isQ (rb S m (g + 1)) = true
  · -- wide
    have hq := isQ_ne c6.2
    rw [if_pos c6] at hcp
    have hg1 : g + 1 < m := by omega
    have e1 : rb S m (g + 1) = S (g + 1) := if_pos hg1
    rw [e1] at hq hcp
    obtain ⟨q1, q2, q3⟩ := h.qe (g0 := g) hZ2 hg1 rfl hq (by omega) (fun j h1 h2 => by rw [show j = g by omega]; omega) hM hN
    unfold cwZ at hcp
    have kk : ∀ k, k ≠ 14 → k ≠ 15 → (qeZ T Z (RX (g + 1)) (S (g + 1))).2 k = Z k := fun k h1 h2 => qeZ_k h1 h2
    generalize (qeZ T Z (RX (g + 1)) (S (g + 1))).2 = Z1 at hcp q2 q3 kk
    rw [q1] at hcp
    cases e : qdO S m (g + 1) with
    | some x =>
      have hb := qdO_b e
      have t2 : ts1 S m g = x - g := ts1_s (by rw [rg, e1]; exact ⟨c6.1, hq⟩) e
      rw [e] at hcp
      refine ⟨Z1, kdQ (S (g + 1)), fun k h1 h2 _ => kk k h1 h2, q2, q3, Or.inr ⟨fun z => hnq z.2.1, ?_, kdQ_lt _, ?_, ?_⟩⟩
      · rw [if_pos (by omega), kn_1 ⟨c6.1, hq⟩, kq_q hq]
      · rw [if_neg (fun z => hnq z.2)]; exact kk 6 (by decide) (by decide)
      · rw [hcp, t2, show g + (x - g) = x by omega]; rfl
    | none =>
      have t2 : ts1 S m g = 1 := by
        rw [ts1_n (fun _ => e), ts2_n (fun z => by rw [rg] at z; omega), ts3, if_pos (by rw [rg, c6.1]; decide), nmI, if_neg (fun z => by
          rw [e1] at z
          rcases z.2 with z | z
          · have := isL_ne z; omega
          · have := isD_ne z; omega)]
        omega
      rw [e] at hcp
      refine ⟨Z1, 1, fun k h1 h2 _ => kk k h1 h2, q2, q3, Or.inr ⟨fun z => hnq z.2.1, ?_, by decide, ?_, ?_⟩⟩
      · rw [if_neg (by omega), kn_3 (by omega) (by decide), kq_L (by decide) (by rw [c6.1]; decide)]
      · rw [if_neg (fun z => hnq z.2)]; exact kk 6 (by decide) (by decide)
      · rw [hcp, t2]; rfl
  rw [if_neg c6] at hcp
  have n1 : ts1 S m g = ts2 S m g := by
    refine ts1_n (fun z => ?_)
    rw [rg] at z
    exact absurd ⟨z.1, isQ_t z.2⟩ c6
  have n2 : ts2 S m g = ts3 S m g := ts2_n (fun z => by rw [rg] at z; exact absurd z hnq)
  have hnw : ∀ nx, (nx = rb S m (g + 1) ∨ nx = 256) → ¬ (S g = 76 ∧ (nx = 34 ∨ nx = 39)) := by
    intro nx hnx z
    rcases hnx with hnx | hnx
    · rw [hnx] at z; exact c6 ⟨z.1, isQ_t z.2⟩
    · omega
  have fin : ∀ kd, cpZ T Z K = (adZ T Z (RX (g + ts1 S m g)), adK T Z K kd (RX (g + ts1 S m g)), 0) → kd = kn (S g) (if 1 < ts1 S m g then S (g + 1) else 256) → kd < 16 → ∃ Z1 kd, StepT T Z K m S RX g Z1 kd := by
    intro kd h1 h2 h3
    exact ⟨Z, kd, fun _ _ _ _ => rfl, hM, hN, Or.inr ⟨fun z => hnq z.2.1, h2, h3, by rw [if_neg (fun z => hnq z.2)], h1⟩⟩
  -- the second byte, as kn sees it
  have hnx : (if 1 < ts1 S m g then S (g + 1) else 256) = rb S m (g + 1) ∨ (if 1 < ts1 S m g then S (g + 1) else 256) = 256 := by
    by_cases c : 1 < ts1 S m g
    · rw [if_pos c]; left; exact (if_pos (by omega)).symm
    · rw [if_neg c]; right; rfl
  have hkn : isL (S g) = false → kn (S g) (if 1 < ts1 S m g then S (g + 1) else 256) = if isD (S g) = true ∨ (S g = 46 ∧ isD (if 1 < ts1 S m g then S (g + 1) else 256) = true) then 2 else if (if 1 < ts1 S m g then S (g + 1) else 256) < 256 ∨ io 6 (S g) = true then 5 else 6 := by
    intro hL
    have hw := hnw _ hnx
    generalize (if 1 < ts1 S m g then S (g + 1) else 256) = nx at hw ⊢
    by_cases c : nx < 256
    · rw [kn_2 hw c, kq_n hnq hL]
    · rw [kn_3 hw c, kq_n (by decide) hL]
  by_cases c7 : isL (S g) = true
  · rw [if_pos c7, hZ2, h.nm (m + 1) (g + 1) (by omega) (by omega)] at hcp
    have hb := nmI_b S m (g + 1)
    have t3 : ts1 S m g = nmI S m (g + 1) - g := by rw [n1, n2, ts3, if_pos (by rw [rg]; exact c7)]
    refine fin 1 (by rw [hcp, t3, show g + (nmI S m (g + 1) - g) = nmI S m (g + 1) by omega]) ?_ (by decide)
    have hw := hnw _ hnx
    have hl := isL_ne c7
    generalize (if 1 < ts1 S m g then S (g + 1) else 256) = nx at hw ⊢
    by_cases c : nx < 256
    · rw [kn_2 hw c, kq_L (by omega) c7]
    · rw [kn_3 hw c, kq_L (by decide) c7]
  rw [if_neg c7] at hcp
  have hL : isL (S g) = false := by cases e : isL (S g) with
    | false => rfl
    | true => exact absurd e c7
  by_cases c8 : isD (S g) = true ∨ (S g = 46 ∧ isD (rb S m (g + 1)) = true)
  · rw [if_pos c8, hZ2, h.nux (m + 1) (g + 1) (S g) (by omega) (by omega) (by rw [show g + 1 - 1 = g by omega, rg])] at hcp
    have hb := nuI_b S m (g + 1)
    have t3 : ts1 S m g = nuI S m (g + 1) - g := by rw [n1, n2, ts3, if_neg (by rw [rg, hL]; decide), if_pos (by rw [rg]; exact c8)]
    refine fin 2 (by rw [hcp, t3, show g + (nuI S m (g + 1) - g) = nuI S m (g + 1) by omega]) ?_ (by decide)
    rw [hkn hL, if_pos ?_]
    rcases c8 with c8 | c8
    · exact Or.inl c8
    · right
      have hd := isD_lt c8.2
      have hg1 : g + 1 < m := by omega
      have hgo : nuI S m (g + 1) = nuI S m (g + 2) := by
        conv => lhs; rw [nuI, if_pos ⟨hg1, goB_d c8.2⟩]
      have hb2 := nuI_b S m (g + 2)
      refine ⟨c8.1, ?_⟩
      rw [if_pos (by omega), ← show rb S m (g + 1) = S (g + 1) from if_pos hg1]
      exact c8.2
  rw [if_neg c8] at hcp
  -- a sign, or any other byte
  have t3 : ts1 S m g = sgN (S g) (rb S m (g + 1)) (rb S m (g + 2)) := by
    rw [n1, n2, ts3, rg, if_neg (by rw [hL]; decide), if_neg c8]
  have hsb : gb T n (lf T n (RX (g + 1) + 1)) = rb S m (g + 2) ∧ (g + 1 < m → lf T n (RX (g + 1) + 1) = RX (g + 2)) := by
    by_cases c : g + 1 < m
    · rw [h.lf1 c]
      exact ⟨h.gbx (by omega), fun _ => rfl⟩
    · have e : g + 1 = m := by omega
      have hno : lf T n (n + 1) = n + 1 := lf_no (by omega)
      rw [e, h.1, hno, gb_hi (by omega)]
      refine ⟨?_, fun z => absurd z (Nat.lt_irrefl _)⟩
      unfold rb
      rw [if_neg (by omega)]
  unfold csZ at hcp
  rw [hZ2, hsb.1] at hcp
  have r2 := rb_in hS m (g + 2)
  have notD : ∀ nx, (nx = rb S m (g + 1) ∨ nx = 256) → ¬ (isD (S g) = true ∨ (S g = 46 ∧ isD nx = true)) := by
    intro nx hn z
    rcases z with z | z
    · exact c8 (Or.inl z)
    · rcases hn with hn | hn
      · exact c8 (Or.inr ⟨z.1, by rw [← hn]; exact z.2⟩)
      · rw [hn] at z; exact absurd z.2 (by decide)
  by_cases d3 : (S g = 46 ∧ rb S m (g + 1) = 46 ∧ rb S m (g + 2) = 46) ∨ ((S g = 60 ∨ S g = 62) ∧ rb S m (g + 1) = S g ∧ rb S m (g + 2) = 61)
  · have hs := hs3_iff.mpr d3
    have ht : ts1 S m g = 3 := by rw [t3, sgN, if_pos d3]
    rw [if_pos hs, hsb.2 (by omega), h.lf1 (show g + 2 < m by omega)] at hcp
    refine fin 5 (by rw [hcp, ht]) ?_ (by decide)
    rw [hkn hL, if_neg (notD _ hnx), if_pos (Or.inl (by rw [if_pos (by omega)]; exact hS _))]
  rw [if_neg (fun z => d3 (hs3_iff.mp z))] at hcp
  by_cases d2 : (S g = rb S m (g + 1) ∧ io 4 (S g) = true) ∨ (rb S m (g + 1) = 61 ∧ io 5 (S g) = true) ∨ (S g = 45 ∧ rb S m (g + 1) = 62)
  · have hs := (hs2_iff (z := rb S m (g + 2))).mpr d2
    have ht : ts1 S m g = 2 := by rw [t3, sgN_n d3, if_pos d2]
    have hg1 : g + 1 < m := by
      have := hS g
      rcases d2 with z | z | z <;> omega
    rw [if_pos hs, hsb.2 hg1] at hcp
    refine fin 5 (by rw [hcp, ht]) ?_ (by decide)
    rw [hkn hL, if_neg (notD _ hnx), if_pos (Or.inl (by rw [if_pos (by omega)]; exact hS _))]
  rw [if_neg (fun z => d2 (hs2_iff.mp z))] at hcp
  have ht : ts1 S m g = 1 := by rw [t3, sgN_n d3, if_neg d2]
  by_cases d1 : io 6 (S g) = true
  · rw [if_pos (hs1_iff.mpr d1)] at hcp
    refine fin 5 (by rw [hcp, ht]) ?_ (by decide)
    rw [hkn hL, if_neg (notD _ hnx), if_pos (Or.inr d1)]
  · rw [if_neg (fun z => d1 (hs1_iff.mp z))] at hcp
    refine fin 6 (by rw [hcp, ht]) ?_ (by decide)
    rw [hkn hL, if_neg (notD _ hnx), if_neg (fun z => by
      rcases z with z | z
      · rw [if_neg (by omega)] at z; omega
      · exact d1 z)]
