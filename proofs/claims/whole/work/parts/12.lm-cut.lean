/-- a long's bits where one of its bytes is replaced -/
theorem app_bits (x : Int64) (s v : Nat) (b : Nat) (hb : b < 64) : (tn ((lN (tn x) &&& (lN (255 * 2 ^ s) ^^^ (-1))) ||| lN (v * 2 ^ s))).testBit b = if s ≤ b ∧ b < s + 8 then v.testBit (b - s) else ((tn x).testBit b || (decide (s ≤ b) && v.testBit (b - s))) := by
  unfold tn
  rw [BitVec.testBit_toNat, BitVec.testBit_toNat, Int64.toBitVec_or, Int64.toBitVec_and, Int64.toBitVec_xor, wb_tb, wb_tb, wb_tb, BitVec.getLsbD_or, BitVec.getLsbD_and, BitVec.getLsbD_xor, BitVec.getLsbD_ofNat, BitVec.getLsbD_ofNat, BitVec.getLsbD_ofNat, show ((-1 : Int64)).toBitVec = BitVec.allOnes 64 by decide, BitVec.getLsbD_allOnes, Nat.testBit_mul_two_pow, Nat.testBit_mul_two_pow, show (255 : Nat) = 2 ^ 8 - 1 by decide, Nat.testBit_two_pow_sub_one, BitVec.testBit_toNat]
  by_cases h1 : s ≤ b
  · by_cases h2 : b < s + 8
    · rw [if_pos ⟨h1, h2⟩]
      simp [hb, h1, show b - s < 8 by omega]
    · rw [if_neg (fun z => h2 z.2)]
      simp [hb, h1, show ¬ b - s < 8 by omega]
  · rw [if_neg (fun z => h1 z.1)]
    simp [hb, h1]
theorem app_byt (T : Nat → Int64) (n v : Nat) (hv : v < 256) : ∀ p, byt (vp_updL T (n / 8) ((lN (tn (T (n / 8))) &&& (lN (255 * 2 ^ (n % 8 * 8)) ^^^ (-1))) ||| lN (v * 2 ^ (n % 8 * 8)))) p = if p = n then v else byt T p := by
  intro p
  unfold byt
  by_cases hq : p / 8 = n / 8
  · rw [hq, pk_uLs]
    apply Nat.eq_of_testBit_eq
    intro i
    rw [show (256 : Nat) = 2 ^ 8 by decide, Nat.testBit_mod_two_pow, Nat.testBit_div_two_pow]
    by_cases hi : i < 8
    · rw [app_bits _ _ _ _ (by omega)]
      by_cases hp : p = n
      · subst hp
        rw [if_pos rfl, if_pos (by omega)]
        simp [hi, show i + 8 * (p % 8) - p % 8 * 8 = i by omega]
      · rw [if_neg hp, if_neg (by omega), Nat.testBit_mod_two_pow, Nat.testBit_div_two_pow]
        by_cases h1 : n % 8 * 8 ≤ i + 8 * (p % 8)
        · rw [Nat.testBit_lt_two_pow (x := v) (i := i + 8 * (p % 8) - n % 8 * 8) (Nat.lt_of_lt_of_le hv (show 2 ^ 8 ≤ 2 ^ (i + 8 * (p % 8) - n % 8 * 8) from Nat.pow_le_pow_right (by decide) (by omega)))]
          simp
        · simp [h1]
    · simp only [hi, decide_false, Bool.false_and]
      by_cases hp : p = n
      · rw [if_pos hp, Nat.testBit_lt_two_pow (Nat.lt_of_lt_of_le hv (show 2 ^ 8 ≤ 2 ^ i from Nat.pow_le_pow_right (by decide) (by omega)))]
      · rw [if_neg hp, Nat.testBit_mod_two_pow]
        simp [hi]
  · rw [pk_uLn hq, if_neg (fun e => hq (by rw [e]))]
/-! what LineMill's cutting methods do to Z and K -/
def clZ (Z : Nat → Nat) : (Nat → Nat) × Nat :=
  if Z 10 = 0 then (Z, 0)
  else if 20000 ≤ Z 5 then (zu (zu Z 7 (Z 12)) 8 1, 21)
  else if 8000 < Z 10 then (zu (zu (zu Z 5 (Z 5 + 1)) 7 (Z 13)) 8 1, 21)
  else (zu (zu Z 5 (Z 5 + 1)) 9 (Z 10), 0)
def psZ (T : Nat → Int64) (Z : Nat → Nat) (stop : Nat) : Nat × Nat × Nat := pss T (Z 2) stop (Z 3) (Z 4) 0
def pbZ (T : Nat → Int64) (Z : Nat → Nat) (stop : Nat) : Nat → Nat := zu (zu (zu Z 3 (psZ T Z stop).1) 4 (psZ T Z stop).2.1) 11 1
def pcZ (T : Nat → Int64) (Z : Nat → Nat) (q : Nat) : (Nat → Nat) × Nat := match cmE T (Z 2) q false with
  | none => (zu (zu Z 7 (Z 4)) 8 1, 1)
  | some stop => (pbZ T Z stop, 0)
def pkT (a b li kd bf : Nat) : Nat := a + b * 2 ^ 16 + li * 2 ^ 32 + kd * 2 ^ 48 + bf * 2 ^ 52
def adZ (T : Nat → Int64) (Z : Nat → Nat) (stop : Nat) : Nat → Nat :=
  zu (zu (zu (zu (zu (zu Z 3 (psZ T Z stop).1) 4 (psZ T Z stop).2.1) 10 (Z 10 + 1)) 11 0) 12 (if Z 10 = 0 then Z 4 else Z 12)) 13 (if Z 10 = 8000 then Z 4 else Z 13)
def adK (T : Nat → Int64) (Z : Nat → Nat) (K : Nat → Int64) (kd stop : Nat) : Nat → Int64 :=
  if Z 10 < 8000 then vp_updL K (Z 10) (lN (pkT (Z 3) (psZ T Z stop).2.2 (Z 4) kd (Z 11))) else K
/-- quoteEnd at place p for the quote y: where it ends, and the fields behind it -/
def qeZ (T : Nat → Int64) (Z : Nat → Nat) (p y : Nat) : Option Nat × (Nat → Nat) :=
  if p < (if y = 34 then Z 14 else Z 15) then (none, Z)
  else if (qtE T (Z 2) y (lf T (Z 2) (p + 1))).2 = true then (some (qtE T (Z 2) y (lf T (Z 2) (p + 1))).1, Z)
  else (none, if y = 34 then zu Z 14 (qtE T (Z 2) y (lf T (Z 2) (p + 1))).1 else zu Z 15 (qtE T (Z 2) y (lf T (Z 2) (p + 1))).1)
def kdQ (y : Nat) : Nat := if y = 34 then 3 else 4
/-- cutQuote: fields, tokens, fault -/
def cqZ (T : Nat → Int64) (Z : Nat → Nat) (K : Nat → Int64) (y : Nat) : (Nat → Nat) × (Nat → Int64) × Nat :=
  match (qeZ T Z (Z 3) y).1 with
  | some stop => (adZ T (qeZ T Z (Z 3) y).2 stop, adK T (qeZ T Z (Z 3) y).2 K (kdQ y) stop, 0)
  | none =>
    if 1000 ≤ Z 6 then (zu (zu (qeZ T Z (Z 3) y).2 7 (Z 4)) 8 1, K, 21)
    else (adZ T (zu (qeZ T Z (Z 3) y).2 6 (Z 6 + 1)) (lf T (Z 2) (Z 3 + 1)), adK T (zu (qeZ T Z (Z 3) y).2 6 (Z 6 + 1)) K 6 (lf T (Z 2) (Z 3 + 1)), 0)
def cwZ (T : Nat → Int64) (Z : Nat → Nat) (K : Nat → Int64) (p y : Nat) : (Nat → Nat) × (Nat → Int64) × Nat :=
  match (qeZ T Z p y).1 with
  | some stop => (adZ T (qeZ T Z p y).2 stop, adK T (qeZ T Z p y).2 K (kdQ y) stop, 0)
  | none => (adZ T (qeZ T Z p y).2 p, adK T (qeZ T Z p y).2 K 1 p, 0)
