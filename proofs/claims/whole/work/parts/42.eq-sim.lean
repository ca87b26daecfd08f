/-! next's loops on both sides, side by side -/
/-- while a line is cut: the class's fields and tokens, the reference's fields and rows, at index g -/
def SIM (T : Nat → Int64) (n m : Nat) (S RX LX : Nat → Nat) (Z : Nat → Nat) (K : Nat → Int64) (Y x5 x6 x7 x8 x9 : Nat → Nat) (g many much bf first : Nat) : Prop :=
  (Z 2 = n ∧ Y 0 = n ∧ Y 8 = m ∧ Y 12 = LX m ∧ Z 3 = RX g ∧ Z 4 = LX g ∧ g ≤ m) ∧
  (Z 10 = many ∧ Z 11 = bf ∧ (0 < many → Z 12 = first) ∧ (8000 < many → Z 13 = much) ∧ bf ≤ 1 ∧ many ≤ g) ∧
  (Z 6 = Y 7 ∧ Z 5 = Y 6 ∧ Z 7 = Y 5 ∧ Z 8 = 0 ∧ Y 4 = 0 ∧ Z 9 = 0 ∧ Y 6 ≤ 20000 ∧ Y 7 ≤ 1000) ∧
  ((many ≤ 8000 → Y 13 = many) ∧ Y 18 ≤ g ∧ (many = 0 → Y 18 = 0)) ∧
  (Mem S RX m 34 (Z 14) g ∧ Mem S RX m 39 (Z 15) g) ∧
  ((∀ j, x6 j < 65536) ∧ (∀ j, x9 j < 256) ∧ (0 < many → x5 0 = 0)) ∧
  ∀ j, j < many → j < 8000 → TOK T n K x5 x6 x7 x8 x9 j ∧ x5 j + x6 j ≤ Y 18
/-- behind next: what both hold -/
def RR (T : Nat → Int64) (Z : Nat → Nat) (K : Nat → Int64) (Y x5 x6 x7 x8 x9 : Nat → Nat) : Prop :=
  (Y 0 = Z 2 ∧ (Z 8 = 0 → Z 3 = Y 2 ∧ Z 4 = Y 3 ∧ Z 6 = Y 7) ∧ Z 8 = Y 4 ∧ Z 7 = Y 5 ∧ Z 5 = Y 6 ∧ Z 9 = Y 13) ∧
  (lmI Z ∧ Y 2 ≤ Y 0) ∧
  ((∀ j, x6 j < 65536) ∧ (∀ j, x9 j < 256) ∧ (0 < Z 9 → x5 0 = 0)) ∧
  ∀ j, j < Z 9 → TOK T (Z 2) K x5 x6 x7 x8 x9 j
/-- the answers of both, and what they hold behind it; x1 .. x4 are the reference's rows that stay -/
def OUT (T : Nat → Int64) (x1 x2 x3 x4 : Nat → Nat) (c : (Nat → Nat) × (Nat → Int64) × Nat) (r : Int32 × rmU) : Prop :=
  nxA c = r.1 ∧ ∃ Y x5 x6 x7 x8 x9, r.2 = (Y, x1, x2, x3, x4, x5, x6, x7, x8, x9) ∧ RR T c.1 c.2.1 Y x5 x6 x7 x8 x9
section SIMS
variable {T : Nat → Int64} {n m : Nat} {S RX LX x1 x3 x4 : Nat → Nat}
/-- the line's end: closeLine and what stands behind the reference's loop -/
theorem sim_end {Z : Nat → Nat} {K : Nat → Int64} {Y x5 x6 x7 x8 x9 : Nat → Nat} {g many much first en : Nat} (hJ : lmJ Z)
    (h0 : Z 2 = n ∧ Y 0 = n) (hpl : Z 3 = (if en = 0 then Y 0 else x3 g + 1) ∧ Z 4 = (if en = 0 then Y 12 else x4 g + 1))
    (h1 : Z 10 = many ∧ (0 < many → Z 12 = first) ∧ (8000 < many → Z 13 = much)) (h2 : Z 6 = Y 7 ∧ Z 5 = Y 6 ∧ Z 7 = Y 5 ∧ Z 8 = 0 ∧ Y 4 = 0 ∧ Z 9 = 0 ∧ Y 6 ≤ 20000 ∧ Y 7 ≤ 1000)
    (h3 : many ≤ 8000 → Y 13 = many) (h5 : (∀ j, x6 j < 65536) ∧ (∀ j, x9 j < 256) ∧ (0 < many → x5 0 = 0)) (h6 : ∀ j, j < many → j < 8000 → TOK T n K x5 x6 x7 x8 x9 j) :
    OUT T x1 S x3 x4 (nxE (Z, K, 0)) (rE x1 S x3 x4 Y x5 x6 x7 x8 x9 g many much first en) := by
  rw [nxE_0 rfl]
  unfold rE
  have hJ2 := hJ
  unfold lmJ at hJ2
  generalize (if en = 0 then Y 0 else x3 g + 1) = pl at hpl ⊢
  generalize (if en = 0 then Y 12 else x4 g + 1) = li at hpl ⊢
  by_cases c0 : Z 10 = 0
  · have hm : many = 0 := by omega
    have hcl : clZ Z = (Z, 0) := by rw [clZ, if_pos c0]
    rw [hcl, if_neg (by omega), if_neg (by omega), if_neg (by omega)]
    refine ⟨?_, _, _, _, _, _, _, rfl, ?_⟩
    · show nI (Z 9) = nI (Y 13)
      rw [h2.2.2.2.2.2.1, h3 (by omega), hm]
    · refine ⟨⟨show Y 0 = Z 2 by omega, fun _ => ⟨show Z 3 = pl by omega, show Z 4 = li by omega, show Z 6 = Y 7 by omega⟩, show Z 8 = Y 4 by omega, show Z 7 = Y 5 by omega, show Z 5 = Y 6 by omega, show Z 9 = Y 13 by have := h3 (by omega); omega⟩, ⟨?_, show pl ≤ Y 0 by omega⟩, ⟨h5.1, h5.2.1, fun z => absurd (show 0 < Z 9 from z) (by omega)⟩, fun j hj => absurd (show j < Z 9 from hj) (by omega)⟩
      show Z 2 ≤ 32768 ∧ Z 3 ≤ Z 2 ∧ 1 ≤ Z 4 ∧ Z 4 ≤ Z 3 + 1 ∧ Z 5 ≤ 20000 ∧ Z 6 ≤ 1000 ∧ Z 8 ≤ 1 ∧ Z 9 ≤ 8000
      omega
  · have hm : 0 < many := by omega
    by_cases c1 : 20000 ≤ Z 5
    · have hcl : clZ Z = (zu (zu Z 7 (Z 12)) 8 1, 21) := by rw [clZ, if_neg c0, if_pos c1]
      rw [hcl, if_pos ⟨hm, by omega⟩]
      refine ⟨rfl, _, _, _, _, _, _, rfl, ?_⟩
      refine ⟨⟨show Y 0 = Z 2 by omega, fun z => absurd (show 1 = 0 from z) (by decide), rfl, h1.2.1 hm, show Z 5 = Y 6 by omega, show Z 9 = 0 by omega⟩, ⟨?_, show pl ≤ Y 0 by omega⟩, ⟨h5.1, h5.2.1, fun z => absurd (show 0 < Z 9 from z) (by omega)⟩, fun j hj => absurd (show j < Z 9 from hj) (by omega)⟩
      show Z 2 ≤ 32768 ∧ Z 3 ≤ Z 2 ∧ 1 ≤ Z 4 ∧ Z 4 ≤ Z 3 + 1 ∧ Z 5 ≤ 20000 ∧ Z 6 ≤ 1000 ∧ 1 ≤ 1 ∧ Z 9 ≤ 8000
      omega
    · by_cases c2 : 8000 < Z 10
      · have hcl : clZ Z = (zu (zu (zu Z 5 (Z 5 + 1)) 7 (Z 13)) 8 1, 21) := by rw [clZ, if_neg c0, if_neg c1, if_pos c2]
        rw [hcl, if_neg (by omega), if_pos hm, if_pos (by omega)]
        refine ⟨rfl, _, _, _, _, _, _, rfl, ?_⟩
        refine ⟨⟨show Y 0 = Z 2 by omega, fun z => absurd (show 1 = 0 from z) (by decide), rfl, h1.2.2 (by omega), show Z 5 + 1 = Y 6 + 1 by omega, show Z 9 = 0 by omega⟩, ⟨?_, show pl ≤ Y 0 by omega⟩, ⟨h5.1, h5.2.1, fun z => absurd (show 0 < Z 9 from z) (by omega)⟩, fun j hj => absurd (show j < Z 9 from hj) (by omega)⟩
        show Z 2 ≤ 32768 ∧ Z 3 ≤ Z 2 ∧ 1 ≤ Z 4 ∧ Z 4 ≤ Z 3 + 1 ∧ Z 5 + 1 ≤ 20000 ∧ Z 6 ≤ 1000 ∧ 1 ≤ 1 ∧ Z 9 ≤ 8000
        omega
      · have hcl : clZ Z = (zu (zu Z 5 (Z 5 + 1)) 9 (Z 10), 0) := by rw [clZ, if_neg c0, if_neg c1, if_neg c2]
        rw [hcl, if_neg (by omega), if_pos hm, if_neg (by omega)]
        have h13 := h3 (by omega)
        refine ⟨?_, _, _, _, _, _, _, rfl, ?_⟩
        · show nI (Z 10) = nI (Y 13)
          rw [h13, h1.1]
        · refine ⟨⟨show Y 0 = Z 2 by omega, fun _ => ⟨show Z 3 = pl by omega, show Z 4 = li by omega, show Z 6 = Y 7 by omega⟩, show Z 8 = Y 4 by omega, show Z 7 = Y 5 by omega, show Z 5 + 1 = Y 6 + 1 by omega, show Z 10 = Y 13 by omega⟩, ⟨?_, show pl ≤ Y 0 by omega⟩, ⟨h5.1, h5.2.1, fun _ => h5.2.2 hm⟩, fun j hj => ?_⟩
          · show Z 2 ≤ 32768 ∧ Z 3 ≤ Z 2 ∧ 1 ≤ Z 4 ∧ Z 4 ≤ Z 3 + 1 ∧ Z 5 + 1 ≤ 20000 ∧ Z 6 ≤ 1000 ∧ Z 8 ≤ 1 ∧ Z 10 ≤ 8000
            omega
          · have hj2 : j < Z 10 := hj
            have := h6 j (by omega) (by omega)
            rw [← h0.1] at this
            exact this
/-- a fault in the line -/
theorem sim_fault {Z : Nat → Nat} {K : Nat → Int64} {Y x5 x6 x7 x8 x9 : Nat → Nat} {f b : Nat} (hf : f ≠ 0) (hJ : lmJ Z) (h0 : Z 2 = n ∧ Y 0 = n) (hY2 : Y 2 ≤ Y 0) (h2 : Z 5 = Y 6 ∧ Z 9 = 0) (hb : Z 4 = b)
    (h5 : (∀ j, x6 j < 65536) ∧ (∀ j, x9 j < 256)) : OUT T x1 S x3 x4 (nxE (zu (zu Z 7 (Z 4)) 8 1, K, f)) ((-10) - nI f, (rSt Y b, x1, S, x3, x4, x5, x6, x7, x8, x9)) := by
  rw [nxE_n hf]
  have hJ2 := hJ
  unfold lmJ at hJ2
  refine ⟨by rw [nxA_n hf], _, _, _, _, _, _, rfl, ?_⟩
  refine ⟨⟨show Y 0 = Z 2 by omega, fun z => absurd (show 1 = 0 from z) (by decide), rfl, hb, show Z 5 = Y 6 by omega, show Z 9 = 0 by omega⟩, ⟨?_, show Y 2 ≤ Y 0 from hY2⟩, ⟨h5.1, h5.2, fun z => absurd (show 0 < Z 9 from z) (by omega)⟩, fun j hj => absurd (show j < Z 9 from hj) (by omega)⟩
  show Z 2 ≤ 32768 ∧ Z 3 ≤ Z 2 ∧ 1 ≤ Z 4 ∧ Z 4 ≤ Z 3 + 1 ∧ Z 5 ≤ 20000 ∧ Z 6 ≤ 1000 ∧ 1 ≤ 1 ∧ Z 9 ≤ 8000
  omega
end SIMS
