/-- a long's bits where one of its bytes is replaced -/
theorem app_bits (x : Int64) (s v : Nat) (b : Nat) (hb : b < 64) : (tn ((lN (tn x) &&& (lN (255 * 2 ^ s) ^^^ (-1))) ||| lN (v * 2 ^ s))).testBit b = if s ≤ b ∧ b < s + 8 then v.testBit (b - s) else ((tn x).testBit b || (decide (s ≤ b) && v.testBit (b - s))) := by
  unfold tn
  rw [BitVec.testBit_toNat, BitVec.testBit_toNat, Int64.toBitVec_or, Int64.toBitVec_and, Int64.toBitVec_xor, wb_tb, wb_tb, wb_tb, BitVec.getLsbD_or, BitVec.getLsbD_and, BitVec.getLsbD_xor, BitVec.getLsbD_ofNat, BitVec.getLsbD_ofNat, BitVec.getLsbD_ofNat, show ((-1 : Int64)).toBitVec = BitVec.allOnes 64 by decide, BitVec.getLsbD_allOnes, Nat.testBit_mul_two_pow, Nat.testBit_mul_two_pow, show (255 : Nat) = 2 ^ 8 - 1 by decide, Nat.testBit_two_pow_sub_one, BitVec.testBit_toNat]
  by_cases h1 : s ≤ b
  · by_cases h2 : b < s + 8
    · rw [if_pos ⟨h1, h2⟩]
      simp [hb, h1, show b - s < 8 by omega]
    · rw [if_neg (fun z => h2 z.2)]
      simp [hb, h1, show ¬ b - s < 8 by omega]
  · rw [if_neg (fun z => h1 z.1)]
    simp [hb, h1]
theorem app_byt (T : Nat → Int64) (n v : Nat) (hv : v < 256) : ∀ p, byt (vp_updL T (n / 8) ((lN (tn (T (n / 8))) &&& (lN (255 * 2 ^ (n % 8 * 8)) ^^^ (-1))) ||| lN (v * 2 ^ (n % 8 * 8)))) p = if p = n then v else byt T p := by
  intro p
  unfold byt
  by_cases hq : p / 8 = n / 8
  · rw [hq, pk_uLs]
    apply Nat.eq_of_testBit_eq
    intro i
    rw [show (256 : Nat) = 2 ^ 8 by decide, Nat.testBit_mod_two_pow, Nat.testBit_div_two_pow]
    by_cases hi : i < 8
    · rw [app_bits _ _ _ _ (by omega)]
      by_cases hp : p = n
      · subst hp
        rw [if_pos rfl, if_pos (by omega)]
        simp [hi, show i + 8 * (p % 8) - p % 8 * 8 = i by omega]
      · rw [if_neg hp, if_neg (by omega), Nat.testBit_mod_two_pow, Nat.testBit_div_two_pow]
        by_cases h1 : n % 8 * 8 ≤ i + 8 * (p % 8)
        · rw [Nat.testBit_lt_two_pow (x := v) (i := i + 8 * (p % 8) - n % 8 * 8) (Nat.lt_of_lt_of_le hv (show 2 ^ 8 ≤ 2 ^ (i + 8 * (p % 8) - n % 8 * 8) from Nat.pow_le_pow_right (by decide) (by omega)))]
          simp
        · simp [h1]
    · simp only [hi, decide_false, Bool.false_and]
      by_cases hp : p = n
      · rw [if_pos hp, Nat.testBit_lt_two_pow (Nat.lt_of_lt_of_le hv (show 2 ^ 8 ≤ 2 ^ i from Nat.pow_le_pow_right (by decide) (by omega)))]
      · rw [if_neg hp, Nat.testBit_mod_two_pow]
        simp [hi]
  · rw [pk_uLn hq, if_neg (fun e => hq (by rw [e]))]
/-! what LineMill's cutting methods do to Z and K -/
def clZ (Z : Nat → Nat) : (Nat → Nat) × Nat :=
  if Z 10 = 0 then (Z, 0)
  else if 20000 ≤ Z 5 then (zu (zu Z 7 (Z 12)) 8 1, 21)
  else if 8000 < Z 10 then (zu (zu (zu Z 5 (Z 5 + 1)) 7 (Z 13)) 8 1, 21)
  else (zu (zu Z 5 (Z 5 + 1)) 9 (Z 10), 0)
def psZ (T : Nat → Int64) (Z : Nat → Nat) (stop : Nat) : Nat × Nat × Nat := pss T (Z 2) stop (Z 3) (Z 4) 0
def pbZ (T : Nat → Int64) (Z : Nat → Nat) (stop : Nat) : Nat → Nat := zu (zu (zu Z 3 (psZ T Z stop).1) 4 (psZ T Z stop).2.1) 11 1
def pcZ (T : Nat → Int64) (Z : Nat → Nat) (q : Nat) : (Nat → Nat) × Nat := match cmE T (Z 2) q false with
  | none => (zu (zu Z 7 (Z 4)) 8 1, 1)
  | some stop => (pbZ T Z stop, 0)
def pkT (a b li kd bf : Nat) : Nat := a + b * 2 ^ 16 + li * 2 ^ 32 + kd * 2 ^ 48 + bf * 2 ^ 52
def adZ (T : Nat → Int64) (Z : Nat → Nat) (stop : Nat) : Nat → Nat :=
  zu (zu (zu (zu (zu (zu Z 3 (psZ T Z stop).1) 4 (psZ T Z stop).2.1) 10 (Z 10 + 1)) 11 0) 12 (if Z 10 = 0 then Z 4 else Z 12)) 13 (if Z 10 = 8000 then Z 4 else Z 13)
def adK (T : Nat → Int64) (Z : Nat → Nat) (K : Nat → Int64) (kd stop : Nat) : Nat → Int64 :=
  if Z 10 < 8000 then vp_updL K (Z 10) (lN (pkT (Z 3) (psZ T Z stop).2.2 (Z 4) kd (Z 11))) else K
/-- quoteEnd behind its search w for the quote y -/
def qeR (Z : Nat → Nat) (y : Nat) (w : Nat × Bool) : Option Nat × (Nat → Nat) := match w with
  | (a, true) => (some a, Z)
  | (a, false) => (none, if y = 34 then zu Z 14 a else zu Z 15 a)
theorem qeR_t (Z : Nat → Nat) (y a : Nat) : qeR Z y (a, true) = (some a, Z) := rfl
theorem qeR_34 {Z : Nat → Nat} {y a : Nat} (h : y = 34) : qeR Z y (a, false) = (none, zu Z 14 a) := by rw [qeR, if_pos h]
theorem qeR_39 {Z : Nat → Nat} {y a : Nat} (h : ¬ y = 34) : qeR Z y (a, false) = (none, zu Z 15 a) := by rw [qeR, if_neg h]
/-- quoteEnd at place p for the quote y: where it ends, and the fields behind it -/
def qeZ (T : Nat → Int64) (Z : Nat → Nat) (p y : Nat) : Option Nat × (Nat → Nat) :=
  if p < (if y = 34 then Z 14 else Z 15) then (none, Z) else qeR Z y (qtE T (Z 2) y (lf T (Z 2) (p + 1)))
theorem qeR_k {Z : Nat → Nat} {y : Nat} {w : Nat × Bool} {k : Nat} (h1 : k ≠ 14) (h2 : k ≠ 15) : (qeR Z y w).2 k = Z k := by
  obtain ⟨a, b⟩ := w
  cases b with
  | true => rfl
  | false =>
    by_cases h : y = 34
    · rw [qeR_34 h]; exact zu_ne h1
    · rw [qeR_39 h]; exact zu_ne h2
theorem qeZ_k {T : Nat → Int64} {Z : Nat → Nat} {p y k : Nat} (h1 : k ≠ 14) (h2 : k ≠ 15) : (qeZ T Z p y).2 k = Z k := by
  rw [qeZ]
  by_cases h : p < (if y = 34 then Z 14 else Z 15)
  · rw [if_pos h]
  · rw [if_neg h]; exact qeR_k h1 h2
theorem qeR_s {Z : Nat → Nat} {y x : Nat} {w : Nat × Bool} (h : (qeR Z y w).1 = some x) : x = w.1 := by
  obtain ⟨a, b⟩ := w
  cases b with
  | true => exact (Option.some.inj h).symm
  | false => cases h
theorem qeZ_s {T : Nat → Int64} {Z : Nat → Nat} {p y x : Nat} (h : (qeZ T Z p y).1 = some x) : p < x ∧ (x ≤ p + 1 ∨ x ≤ Z 2) := by
  rw [qeZ] at h
  by_cases c : p < (if y = 34 then Z 14 else Z 15)
  · rw [if_pos c] at h; cases h
  · rw [if_neg c] at h
    have h1 := qeR_s h
    have h2 := lf_b T (Z 2) (p + 1)
    have h3 := qtE_b T (Z 2) y (lf T (Z 2) (p + 1))
    rw [← h1] at h3
    omega
theorem qeZ_u {T : Nat → Int64} {Z : Nat → Nat} {p y : Nat} {B : Nat} (hp : p + 1 ≤ B) (h2 : Z 2 ≤ B) (h14 : Z 14 ≤ B) (h15 : Z 15 ≤ B) : (qeZ T Z p y).2 14 ≤ B ∧ (qeZ T Z p y).2 15 ≤ B := by
  rw [qeZ]
  by_cases c : p < (if y = 34 then Z 14 else Z 15)
  · rw [if_pos c]; exact ⟨h14, h15⟩
  · rw [if_neg c]
    have h3 := lf_b T (Z 2) (p + 1)
    have h4 := qtE_b T (Z 2) y (lf T (Z 2) (p + 1))
    generalize qtE T (Z 2) y (lf T (Z 2) (p + 1)) = w at h4 ⊢
    obtain ⟨a, b⟩ := w
    dsimp only at h4
    cases b with
    | true => exact ⟨h14, h15⟩
    | false =>
      by_cases h : y = 34
      · rw [qeR_34 h]
        exact ⟨by show a ≤ B; omega, h15⟩
      · rw [qeR_39 h]
        exact ⟨h14, by show a ≤ B; omega⟩
/-- cutQuote behind quoteEnd: fields, tokens, fault -/
def cqR (T : Nat → Int64) (Z : Nat → Nat) (K : Nat → Int64) (y : Nat) (o : Option Nat) : (Nat → Nat) × (Nat → Int64) × Nat := match o with
  | some stop => (adZ T Z stop, adK T Z K (kdQ y) stop, 0)
  | none =>
    if 1000 ≤ Z 6 then (zu (zu Z 7 (Z 4)) 8 1, K, 21)
    else (adZ T (zu Z 6 (Z 6 + 1)) (lf T (Z 2) (Z 3 + 1)), adK T (zu Z 6 (Z 6 + 1)) K 6 (lf T (Z 2) (Z 3 + 1)), 0)
def cqZ (T : Nat → Int64) (Z : Nat → Nat) (K : Nat → Int64) (y : Nat) : (Nat → Nat) × (Nat → Int64) × Nat := cqR T (qeZ T Z (Z 3) y).2 K y (qeZ T Z (Z 3) y).1
def cwR (T : Nat → Int64) (Z : Nat → Nat) (K : Nat → Int64) (p y : Nat) (o : Option Nat) : (Nat → Nat) × (Nat → Int64) × Nat := match o with
  | some stop => (adZ T Z stop, adK T Z K (kdQ y) stop, 0)
  | none => (adZ T Z p, adK T Z K 1 p, 0)
def cwZ (T : Nat → Int64) (Z : Nat → Nat) (K : Nat → Int64) (p y : Nat) : (Nat → Nat) × (Nat → Int64) × Nat := cwR T (qeZ T Z p y).2 K p y (qeZ T Z p y).1
theorem lor_add {a b k : Nat} (hk : k ≤ 64) (ha : a < 2 ^ k) (hb : b * 2 ^ k < 2 ^ 64) : lN a ||| lN (b * 2 ^ k) = lN (a + b * 2 ^ k) := by
  have h1 : a < 2 ^ 64 := Nat.lt_of_lt_of_le ha (Nat.pow_le_pow_right (by decide) hk)
  rw [wb_or h1 hb, Nat.or_comm, Nat.mul_comm, ← Nat.two_pow_add_eq_or_of_lt ha, Nat.add_comm]
