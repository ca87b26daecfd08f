/-! the class's searches by place are the reference's by index -/
section SCAN
variable {T : Nat → Int64} {n m : Nat} {S RX LX : Nat → Nat}
theorem Chn.nm (h : Chn T n m S RX LX) : ∀ (k j : Nat), m - j < k → j ≤ m → nmE T n (RX j) = RX (nmI S m j) := by
  intro k
  induction k with
  | zero => intro j hk; exact absurd hk (by omega)
  | succ k ih =>
    intro j hk hj
    have e := h.gbx hj
    rw [nmE, nmI, e]
    by_cases c : j < m ∧ (isL (rb S m j) = true ∨ isD (rb S m j) = true)
    · rw [if_pos ⟨(h.end hj).mpr c.1, c.2⟩, if_pos c, h.lf1 c.1, ih (j + 1) (by omega) (by omega)]
    · rw [if_neg (fun z => c ⟨(h.end hj).mp z.1, z.2⟩), if_neg c]
theorem Chn.ln (h : Chn T n m S RX LX) : ∀ (k j : Nat), m - j < k → j ≤ m → lnE T n (RX j) = RX (lnI S m j) := by
  intro k
  induction k with
  | zero => intro j hk; exact absurd hk (by omega)
  | succ k ih =>
    intro j hk hj
    rw [lnE, lnI]
    by_cases c : j < m ∧ S j ≠ 10
    · rw [if_pos ⟨(h.end hj).mpr c.1, by rw [(h.2.2 j c.1).2.1]; exact c.2⟩, if_pos c, h.lf1 c.1, ih (j + 1) (by omega) (by omega)]
    · rw [if_neg (fun z => c ⟨(h.end hj).mp z.1, by rw [(h.2.2 j ((h.end hj).mp z.1)).2.1] at z; exact z.2⟩), if_neg c]
theorem Chn.nux (h : Chn T n m S RX LX) : ∀ (k j y : Nat), m - j < k → j ≤ m → y = rb S m (j - 1) → nuE T n (RX j) y = RX (nuI S m j) := by
  intro k
  induction k with
  | zero => intro j y hk; exact absurd hk (by omega)
  | succ k ih =>
    intro j y hk hj hy
    have e := h.gbx hj
    rw [nuE, nuI, e, goNB, hy]
    by_cases c : j < m ∧ goB (rb S m j) (rb S m (j - 1)) = true
    · have hi := ih (j + 1) (rb S m j) (by omega) (by omega) rfl
      rw [if_pos ⟨(h.end hj).mpr c.1, c.2⟩, if_pos c, h.lf1 c.1]
      exact hi
    · rw [if_neg (fun z => c ⟨(h.end hj).mp z.1, z.2⟩), if_neg c]
theorem ce_s {S : Nat → Nat} {m j : Nat} (h : ¬ (S j = 42 ∧ S (j + 1) = 47)) (hj : j + 1 < m) : ce S m j = ce S m (j + 1) := by
  rw [ce, if_pos ⟨hj, h⟩]
theorem ce_e {S : Nat → Nat} {m j : Nat} (h : ¬ (j + 1 < m ∧ ¬ (S j = 42 ∧ S (j + 1) = 47))) : ce S m j = j := by
  rw [ce, if_neg h]
/-- the comment's end, as an index -/
def cx (RX S : Nat → Nat) (m j : Nat) : Option Nat := if ce S m j + 1 < m then some (RX (ce S m j + 2)) else none
theorem cx_s {RX S : Nat → Nat} {m j : Nat} (h : ¬ (S j = 42 ∧ S (j + 1) = 47)) : cx RX S m j = cx RX S m (j + 1) := by
  unfold cx
  by_cases c : j + 1 < m
  · rw [ce_s h c]
  · rw [ce_e (fun z => c z.1), ce_e (j := j + 1) (fun z => by omega), if_neg (by omega), if_neg (by omega)]
theorem Chn.cm (h : Chn T n m S RX LX) : ∀ (k j : Nat), m - j < k → j ≤ m → cmE T n (RX j) false = cx RX S m j ∧ (1 ≤ j → S (j - 1) = 42 → cmE T n (RX j) true = cx RX S m (j - 1)) := by
  intro k
  induction k with
  | zero => intro j hk; exact absurd hk (by omega)
  | succ k ih =>
    intro j hk hj
    by_cases c : j < m
    · have e := (h.2.2 j c).2.1
      obtain ⟨a1, a2⟩ := ih (j + 1) (by omega) (by omega)
      have key : cmE T n (RX (j + 1)) (decide (S j = 42)) = cx RX S m j := by
        by_cases d : S j = 42
        · rw [show decide (S j = 42) = true by simp [d]]
          exact a2 (by omega) d
        · rw [show decide (S j = 42) = false by simp [d], a1, cx_s (fun z => d z.1)]
      refine ⟨?_, fun h1 h2 => ?_⟩
      · rw [cmE, if_pos ((h.end hj).mpr c), if_neg (fun z => by cases z.1), e, h.lf1 c, key]
      · rw [cmE, if_pos ((h.end hj).mpr c), e, h.lf1 c]
        by_cases d : S j = 47
        · rw [if_pos ⟨rfl, d⟩]
          unfold cx
          have hce : ce S m (j - 1) = j - 1 := ce_e (fun z => z.2 ⟨h2, by rw [show j - 1 + 1 = j by omega]; exact d⟩)
          rw [hce, if_pos (by omega), show j - 1 + 2 = j + 1 by omega]
        · rw [if_neg (fun z => d z.2), key]
          have hs := cx_s (RX := RX) (S := S) (m := m) (j := j - 1) (fun z => d (by rw [show j - 1 + 1 = j by omega] at z; exact z.2))
          rw [hs, show j - 1 + 1 = j by omega]
    · have hjm : j = m := by omega
      subst hjm
      refine ⟨?_, fun h1 h2 => ?_⟩
      · rw [cmE, if_neg (fun z => c ((h.end hj).mp z))]
        unfold cx
        rw [ce_e (fun z => by omega), if_neg (by omega)]
      · rw [cmE, if_neg (fun z => c ((h.end hj).mp z))]
        unfold cx
        rw [ce_e (fun z => by omega), if_neg (by omega)]
theorem qd_end {S : Nat → Nat} {m y j : Nat} (h : ¬ (j < m ∧ S j ≠ 10 ∧ S j ≠ y)) : qd S m y j = j := by rw [qd, if_neg h]
theorem qd_go {S : Nat → Nat} {m y j : Nat} (h : j < m ∧ S j ≠ 10 ∧ S j ≠ y) : qd S m y j = qd S m y (if S j = 92 ∧ j + 1 < m ∧ S (j + 1) ≠ 10 then j + 2 else j + 1) := by
  conv => lhs; rw [qd, if_pos h]
theorem Chn.qt (h : Chn T n m S RX LX) {y : Nat} (hy : y ≠ 10) : ∀ (k j : Nat), m - j < k → j ≤ m → qd S m y j ≤ m ∧ qtE T n y (RX j) = if qd S m y j < m ∧ S (qd S m y j) = y then (RX (qd S m y j + 1), true) else (RX (qd S m y j), false) := by
  intro k
  induction k with
  | zero => intro j hk; exact absurd hk (by omega)
  | succ k ih =>
    intro j hk hj
    by_cases c : j < m
    · have e := (h.2.2 j c).2.1
      have hlt := (h.end hj).mpr c
      by_cases d : S j = 10
      · have hq : qd S m y j = j := qd_end (fun z => z.2.1 d)
        rw [hq, qtE, if_neg (fun z => z.2 (by rw [e]; exact d)), if_neg (fun z => hy (by rw [← z.2]; exact d))]
        exact ⟨hj, rfl⟩
      · by_cases f : S j = y
        · have hq : qd S m y j = j := qd_end (fun z => z.2.2 f)
          rw [hq, qtE, if_pos ⟨hlt, by rw [e]; exact d⟩, if_pos (by rw [e]; exact f), h.lf1 c, if_pos ⟨c, f⟩]
          exact ⟨hj, rfl⟩
        · have hq := qd_go (S := S) (m := m) (y := y) (j := j) ⟨c, d, f⟩
          have hqt : qtE T n y (RX j) = if S j = 92 ∧ RX (j + 1) < n ∧ gb T n (RX (j + 1)) ≠ 10 then qtE T n y (lf T n (RX (j + 1) + 1)) else qtE T n y (RX (j + 1)) := by
            rw [qtE, if_pos ⟨hlt, by rw [e]; exact d⟩, if_neg (by rw [e]; exact f), e, h.lf1 c]
          rw [hq, hqt]
          by_cases g : S j = 92 ∧ j + 1 < m ∧ S (j + 1) ≠ 10
          · have e1 := (h.2.2 (j + 1) g.2.1).2.1
            rw [if_pos g, if_pos ⟨g.1, (h.end (by omega)).mpr g.2.1, by rw [e1]; exact g.2.2⟩, h.lf1 g.2.1]
            exact ih (j + 2) (by omega) (by omega)
          · rw [if_neg g, if_neg (fun z => g ⟨z.1, (h.end (by omega)).mp z.2.1, by
              have hz := z.2.2
              rw [(h.2.2 (j + 1) ((h.end (by omega)).mp z.2.1)).2.1] at hz
              exact hz⟩)]
            exact ih (j + 1) (by omega) (by omega)
    · have hjm : j = m := by omega
      subst hjm
      have hq : qd S j y j = j := qd_end (fun z => c z.1)
      rw [hq, qtE, if_neg (fun z => c ((h.end hj).mp z.1)), if_neg (fun z => c z.1)]
      exact ⟨hj, rfl⟩
theorem qd_skip {S : Nat → Nat} {m y : Nat} : ∀ (k i : Nat), m - i < k → ∀ j, i ≤ j → j < qd S m y i → S j = y → qd S m y (j + 1) = qd S m y i := by
  intro k
  induction k with
  | zero => intro i hk; exact absurd hk (by omega)
  | succ k ih =>
    intro i hk j hij hj hS
    by_cases c : i < m ∧ S i ≠ 10 ∧ S i ≠ y
    · have hq := qd_go c
      rw [hq] at hj ⊢
      have hne : j ≠ i := fun z => c.2.2 (by rw [← z]; exact hS)
      by_cases g : S i = 92 ∧ i + 1 < m ∧ S (i + 1) ≠ 10
      · rw [if_pos g] at hj ⊢
        by_cases e : j = i + 1
        · rw [e]
        · exact ih (i + 2) (by omega) j (by omega) hj hS
      · rw [if_neg g] at hj ⊢
        exact ih (i + 1) (by omega) j (by omega) hj hS
    · rw [qd_end c] at hj
      omega
/-- every quote y below U, from g on, has no end -/
def Mem (S RX : Nat → Nat) (m y U g : Nat) : Prop := ∀ j, g ≤ j → j < m → RX j < U → S j = y → qdO S m j = none
theorem Mem.up {y U g g' : Nat} (h : Mem S RX m y U g) (hg : g ≤ g') : Mem S RX m y U g' := fun j h1 => h j (by omega)
theorem qdO_some {S : Nat → Nat} {m g y : Nat} (hy : S g = y) (h : qd S m y (g + 1) < m ∧ S (qd S m y (g + 1)) = y) : qdO S m g = some (qd S m y (g + 1) + 1) := by
  unfold qdO
  rw [hy, if_pos h]
theorem qdO_none {S : Nat → Nat} {m g y : Nat} (hy : S g = y) (h : ¬ (qd S m y (g + 1) < m ∧ S (qd S m y (g + 1)) = y)) : qdO S m g = none := by
  unfold qdO
  rw [hy, if_neg h]
theorem Chn.qe (h : Chn T n m S RX LX) {Z : Nat → Nat} {g g0 y : Nat} (hZ : Z 2 = n) (hg : g < m) (hy : S g = y) (hy2 : y = 34 ∨ y = 39) (hg0 : g0 ≤ g) (hL : ∀ j, g0 ≤ j → j < g → S j ≠ y) (hM : Mem S RX m 34 (Z 14) g0) (hN : Mem S RX m 39 (Z 15) g0) :
    (qeZ T Z (RX g) y).1 = (qdO S m g).map RX ∧ Mem S RX m 34 ((qeZ T Z (RX g) y).2 14) g0 ∧ Mem S RX m 39 ((qeZ T Z (RX g) y).2 15) g0 := by
  have hq := h.qt (y := y) (by omega) (m + 1) (g + 1) (by omega) (by omega)
  unfold qeZ
  rw [hZ, h.lf1 hg, hq.2]
  by_cases c : RX g < (if y = 34 then Z 14 else Z 15)
  · rw [if_pos c]
    refine ⟨?_, hM, hN⟩
    have : qdO S m g = none := by
      rcases hy2 with z | z
      · rw [if_pos z] at c; exact hM g hg0 hg c (by omega)
      · rw [if_neg (by omega)] at c; exact hN g hg0 hg c (by omega)
    rw [this]
    rfl
  · rw [if_neg c]
    by_cases d : qd S m y (g + 1) < m ∧ S (qd S m y (g + 1)) = y
    · rw [if_pos d, qeR_t, qdO_some hy d]
      exact ⟨rfl, hM, hN⟩
    · rw [if_neg d]
      have hno := qdO_none hy d
      have new : Mem S RX m y (RX (qd S m y (g + 1))) g0 := by
        intro j h1 h2 h3 h4
        have h5 := (h.lt_iff (Nat.le_of_lt h2) hq.1).mp h3
        by_cases e : j = g
        · rw [e]; exact hno
        · have h6 : g ≤ j := by
            rcases Nat.lt_or_ge j g with z | z
            · exact absurd h4 (hL j h1 z)
            · exact z
          refine qdO_none h4 ?_
          rw [qd_skip (m + 1) (g + 1) (by omega) j (by omega) h5 h4]
          exact d
      by_cases f : y = 34
      · rw [qeR_34 f, hno]
        refine ⟨rfl, ?_, hN⟩
        rw [f] at new
        rw [f]
        exact new
      · rw [qeR_39 f, hno]
        refine ⟨rfl, hM, ?_⟩
        have f2 : y = 39 := by omega
        rw [f2] at new
        rw [f2]
        exact new
end SCAN
