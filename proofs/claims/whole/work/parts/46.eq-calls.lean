/-! the other calls: equal answers, the relation kept -/
section EQC
variable {Z : Nat → Nat} {T K : Nat → Int64} {Y x1 x2 x5 x6 x7 x8 x9 : Nat → Nat}
theorem eq_begin (h : RZ Z T K Y x1 x2 x5 x6 x7 x8 x9) : RZ (zu (zu (zu (zu (zu (zu (zu Z 3 0) 4 1) 5 0) 6 0) 7 0) 8 0) 9 0) T K (zu (zu (zu (zu (zu (zu (zu Y 2 0) 3 1) 4 0) 5 0) 6 0) 7 0) 13 0) x1 x2 x5 x6 x7 x8 x9 := by
  obtain ⟨⟨⟨r1, r2, r3, r4, r5, r6⟩, ⟨hI, r7⟩, ⟨r8, r9, r10⟩, r11⟩, ht, h1, h2⟩ := h
  unfold lmI at hI
  refine ⟨⟨⟨show Y 0 = Z 2 from r1, fun _ => ⟨rfl, rfl, rfl⟩, rfl, rfl, rfl, rfl⟩, ⟨?_, show 0 ≤ Y 0 by omega⟩, ⟨r8, r9, fun z => absurd (show 0 < 0 from z) (by decide)⟩, fun j hj => absurd (show j < 0 from hj) (by omega)⟩, ht, h1, h2⟩
  show Z 2 ≤ 32768 ∧ 0 ≤ Z 2 ∧ 1 ≤ 1 ∧ 1 ≤ 0 + 1 ∧ 0 ≤ 20000 ∧ 0 ≤ 1000 ∧ 0 ≤ 1 ∧ 0 ≤ 8000
  omega
theorem eq_clear (h : RZ Z T K Y x1 x2 x5 x6 x7 x8 x9) : RZ (zu (zu (zu (zu (zu (zu (zu (zu Z 2 0) 3 0) 4 1) 5 0) 6 0) 7 0) 8 0) 9 0) T K (zu (zu (zu (zu (zu (zu (zu (zu Y 0 0) 2 0) 3 1) 4 0) 5 0) 6 0) 7 0) 13 0) x1 x2 x5 x6 x7 x8 x9 := by
  obtain ⟨⟨⟨r1, r2, r3, r4, r5, r6⟩, ⟨hI, r7⟩, ⟨r8, r9, r10⟩, r11⟩, ht, h1, h2⟩ := h
  refine ⟨⟨⟨rfl, fun _ => ⟨rfl, rfl, rfl⟩, rfl, rfl, rfl, rfl⟩, ⟨?_, Nat.le_refl _⟩, ⟨r8, r9, fun z => absurd (show 0 < 0 from z) (by decide)⟩, fun j hj => absurd (show j < 0 from hj) (by omega)⟩, fun p hp => absurd (show p < 0 from hp) (by omega), h1, h2⟩
  show 0 ≤ 32768 ∧ 0 ≤ 0 ∧ 1 ≤ 1 ∧ 1 ≤ 0 + 1 ∧ 0 ≤ 20000 ∧ 0 ≤ 1000 ∧ 0 ≤ 1 ∧ 0 ≤ 8000
  omega
theorem eq_init : RZ lmZ0 (fun _ => 0) (fun _ => 0) rmY0 (fun _ => 0) (fun _ => 0) (fun _ => 0) (fun _ => 0) (fun _ => 0) (fun _ => 0) (fun _ => 0) := by
  refine ⟨⟨⟨rfl, fun _ => ⟨rfl, rfl, rfl⟩, rfl, rfl, rfl, rfl⟩, ⟨?_, Nat.le_refl _⟩, ⟨fun _ => show 0 < 65536 by decide, fun _ => show 0 < 256 by decide, fun z => absurd (show 0 < 0 from z) (by decide)⟩, fun j hj => absurd (show j < 0 from hj) (by omega)⟩, fun p hp => absurd (show p < 0 from hp) (by omega), fun _ => show 0 < 256 by decide, fun _ => show 0 < 256 by decide⟩
  show 0 ≤ 32768 ∧ 0 ≤ 0 ∧ 1 ≤ 1 ∧ 1 ≤ 0 + 1 ∧ 0 ≤ 20000 ∧ 0 ≤ 1000 ∧ 0 ≤ 1 ∧ 0 ≤ 8000
  omega
/-- bytes behind the text -/
theorem eq_app {T1 : Nat → Int64} {k0 : Nat} {gT g : Nat → Nat} (h : RZ Z T K Y x1 x2 x5 x6 x7 x8 x9) (hfit : Z 2 + k0 ≤ 32768) (hT : ∀ q, byt T1 q = if Z 2 ≤ q ∧ q < Z 2 + k0 then gT (q - Z 2) else byt T q) (hg : ∀ i, i < k0 → gT i = g i) (hg2 : ∀ i, g i < 256) :
    RZ (zu Z 2 (Z 2 + k0)) T1 K (zu Y 0 (Y 0 + k0)) (cpG g (Y 0) k0 x1) x2 x5 x6 x7 x8 x9 := by
  obtain ⟨⟨⟨r1, r2, r3, r4, r5, r6⟩, ⟨hI, r7⟩, ⟨r8, r9, r10⟩, r11⟩, ht, h1, h2⟩ := h
  unfold lmI at hI
  have hlo : ∀ p, p < Z 2 → byt T1 p = byt T p := fun p hp => by rw [hT, if_neg (by omega)]
  refine ⟨⟨⟨show Y 0 + k0 = Z 2 + k0 by omega, fun z => ?_, show Z 8 = Y 4 from r3, show Z 7 = Y 5 from r4, show Z 5 = Y 6 from r5, show Z 9 = Y 13 from r6⟩, ⟨?_, show Y 2 ≤ Y 0 + k0 by omega⟩, ⟨r8, r9, r10⟩, fun j hj => ?_⟩, fun p hp => ?_, cpG_lt hg2 h1, h2⟩
  · have := r2 (show Z 8 = 0 from z)
    exact ⟨this.1, this.2.1, this.2.2⟩
  · show Z 2 + k0 ≤ 32768 ∧ Z 3 ≤ Z 2 + k0 ∧ 1 ≤ Z 4 ∧ Z 4 ≤ Z 3 + 1 ∧ Z 5 ≤ 20000 ∧ Z 6 ≤ 1000 ∧ Z 8 ≤ 1 ∧ Z 9 ≤ 8000
    omega
  · exact (r11 j hj).ext (show Z 2 ≤ Z 2 + k0 by omega) hlo
  · have hp : p < Z 2 + k0 := hp
    rw [hT]
    unfold cpG
    by_cases c : Z 2 ≤ p
    · rw [if_pos ⟨c, hp⟩, if_pos (by omega), hg _ (by omega), r1]
    · rw [if_neg (by omega), if_neg (by omega), ht p (by omega)]
theorem eq_told (h : RZ Z T K Y x1 x2 x5 x6 x7 x8 x9) (w : Int32) : tdA T Z K w = rtA Y x6 x9 w := by
  obtain ⟨⟨⟨r1, r2, r3, r4, r5, r6⟩, ⟨hI, r7⟩, ⟨r8, r9, r10⟩, r11⟩, ht, h1, h2⟩ := h
  have e0 : b2i (drB T Z K) = nI (if 0 < Y 13 ∧ x6 0 = 1 ∧ x9 0 = 35 then 1 else 0) := by
    by_cases c : 0 < Z 9
    · obtain ⟨t1, t2, t3, t4, t5, t6, t7, t8⟩ := r11 0 c
      have hx5 := r10 c
      obtain ⟨p1, p2, -⟩ := t8 0 (by omega)
      have p1 : tkS K 0 < Z 2 := p1
      have p2 : byt T (tkS K 0) = x9 (x5 0 + 0) := p2
      rw [hx5] at p2
      by_cases d : x6 0 = 1 ∧ x9 0 = 35
      · rw [drB_t ⟨c, by omega, by rw [gb_lo p1, p2]; exact d.2⟩, if_pos ⟨by omega, d⟩]; rfl
      · rw [drB_f (fun z => d ⟨by omega, by rw [← z.2.2, gb_lo p1, p2]⟩), if_neg (fun z => d z.2)]; rfl
    · rw [drB_f (fun z => c z.1), if_neg (by omega)]; rfl
  have e3 : (if Z 8 = 0 then Z 4 else 0) = (if Y 4 = 0 then Y 3 else 0) := by
    by_cases c : Z 8 = 0
    · rw [if_pos c, if_pos (by omega), (r2 c).2.1]
    · rw [if_neg c, if_neg (by omega)]
  unfold tdA rtA
  rw [e0, r5, r4, e3]
theorem eq_token (h : RZ Z T K Y x1 x2 x5 x6 x7 x8 x9) {j : Nat} (hj : j < Z 9) (w : Int32) : tkA K j w = rkA x5 x6 x7 x8 x9 j w := by
  obtain ⟨t1, t2, t3, t4, t5, t6, t7, t8⟩ := h.1.2.2.2 j hj
  have e : (if x8 j = 0 then 0 else 1) = x8 j := by
    by_cases c : x8 j = 0
    · rw [if_pos c, c]
    · rw [if_neg c]; omega
  unfold tkA rkA
  rw [t5, t2, t1, t3, e]
end EQC
/-! spelling -/
def smB (v : Nat → Nat) (j : Nat) : Nat → Nat
  | 0 => 0
  | d + 1 => v j * 2 ^ (8 * j) + smB v (j + 1) d
theorem smB_0 {v : Nat → Nat} : ∀ (d j : Nat), (∀ i, j ≤ i → v i = 0) → smB v j d = 0 := by
  intro d
  induction d with
  | zero => intro j _; rfl
  | succ d ih =>
    intro j h
    rw [smB, h j (Nat.le_refl _), ih (j + 1) (fun i hi => h i (by omega)), Nat.zero_mul]
theorem skF_s {T : Nat → Int64} {n s q : Nat} : ∀ (k i : Nat), 8 * q < k + i → i ≤ 8 * q → skF T n q k (stp T n s i) i = stp T n s (8 * q) := by
  intro k
  induction k with
  | zero => intro i h1 h2; exact absurd h1 (by omega)
  | succ k ih =>
    intro i h1 h2
    rw [skF]
    by_cases c : i < 8 * q
    · rw [if_pos c]
      exact ih (i + 1) (by omega) (by omega)
    · rw [if_neg c, show i = 8 * q by omega]
theorem wdF_s {T : Nat → Int64} {n s q B : Nat} {f : Nat → Nat} (h : SPL T n s B f) (hf : ∀ i, f i < 256) : ∀ (k j acc : Nat), 8 < k + j → j ≤ 8 → wdF T n q B k (stp T n s (8 * q + j)) acc j = acc + smB (fun i => if 8 * q + i < B then f (8 * q + i) else 0) j (8 - j) := by
  intro k
  induction k with
  | zero => intro j acc h1 h2; exact absurd h1 (by omega)
  | succ k ih =>
    intro j acc h1 h2
    rw [wdF]
    by_cases c : j < 8 ∧ 8 * q + j < B
    · obtain ⟨p1, p2, -⟩ := h (8 * q + j) c.2
      have e : bb (gb T n (stp T n s (8 * q + j))) = f (8 * q + j) := by
        rw [gb_lo p1, p2]
        unfold bb
        rw [if_pos (hf _)]
      rw [if_pos c, e]
      have hi := ih (j + 1) (acc + f (8 * q + j) * 2 ^ (8 * j)) (by omega) (by omega)
      have hst : lf T n (stp T n s (8 * q + j) + 1) = stp T n s (8 * q + (j + 1)) := rfl
      rw [hst, hi, show 8 - j = (8 - (j + 1)) + 1 by omega, smB, if_pos c.2]
      omega
    · rw [if_neg c]
      by_cases d : j < 8
      · rw [smB_0]
        · rfl
        · intro i hi
          exact if_neg (by omega)
      · rw [show 8 - j = 0 by omega]; rfl
theorem spF_s {x5 x6 x9 : Nat → Nat} {j q : Nat} : spF x5 x6 x9 j q 8 0 = smB (fun i => if 8 * q + i < x6 j then x9 (x5 j + (8 * q + i)) else 0) 0 8 := by
  simp only [spF, smB, spv, Nat.reduceAdd, Nat.reduceMul, Nat.reducePow, Nat.add_zero]
  generalize (if 8 * q < x6 j then x9 (x5 j + 8 * q) else 0) = v0
  generalize (if 8 * q + 1 < x6 j then x9 (x5 j + (8 * q + 1)) else 0) = v1
  generalize (if 8 * q + 2 < x6 j then x9 (x5 j + (8 * q + 2)) else 0) = v2
  generalize (if 8 * q + 3 < x6 j then x9 (x5 j + (8 * q + 3)) else 0) = v3
  generalize (if 8 * q + 4 < x6 j then x9 (x5 j + (8 * q + 4)) else 0) = v4
  generalize (if 8 * q + 5 < x6 j then x9 (x5 j + (8 * q + 5)) else 0) = v5
  generalize (if 8 * q + 6 < x6 j then x9 (x5 j + (8 * q + 6)) else 0) = v6
  generalize (if 8 * q + 7 < x6 j then x9 (x5 j + (8 * q + 7)) else 0) = v7
  omega
theorem eq_spell {Z : Nat → Nat} {T K : Nat → Int64} {Y x1 x2 x5 x6 x7 x8 x9 : Nat → Nat} (h : RZ Z T K Y x1 x2 x5 x6 x7 x8 x9) {j q : Nat} (hj : j < Z 9) : spA T Z K j q = spF x5 x6 x9 j q 8 0 ∧ (4096 ≤ q → spA T Z K j q = 0) := by
  obtain ⟨t1, t2, t3, t4, t5, t6, t7, t8⟩ := h.1.2.2.2 j hj
  have hf := fun i => h.1.2.2.1.2.1 (x5 j + i)
  have key : spA T Z K j q = spF x5 x6 x9 j q 8 0 := by
    rw [spF_s]
    unfold spA
    rw [t1]
    by_cases c : x6 j / 8 < q
    · rw [if_pos c, smB_0]
      intro i hi
      exact if_neg (by omega)
    · rw [if_neg c]
      have e1 : skF T (Z 2) q (8 * q + 1) (tkS K j) 0 = stp T (Z 2) (tkS K j) (8 * q) := skF_s (s := tkS K j) (8 * q + 1) 0 (by omega) (by omega)
      have e2 := wdF_s (q := q) t8 hf 9 0 0 (by omega) (by omega)
      rw [Nat.add_zero, Nat.zero_add, Nat.sub_zero] at e2
      rw [e1, e2]
  refine ⟨key, fun h4 => ?_⟩
  rw [key, spF_s, smB_0]
  intro i hi
  exact if_neg (by omega)
