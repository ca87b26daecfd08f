/-! LineMill's state: Z its int fields by their slot's number, T the packed text, K the packed tokens; cells a0 (object), a1 (text), a2 (tokens) -/
def zu (Z : Nat → Nat) (k v : Nat) : Nat → Nat := fun j => bif Nat.beq j k then v else Z j
theorem zu_eq (Z : Nat → Nat) (k v : Nat) : zu Z k v k = v := by simp [zu]
theorem zu_ne {Z : Nat → Nat} {k v j : Nat} (h : j ≠ k) : zu Z k v j = Z j := by
  have h1 : Nat.beq j k = false := by
    cases q : Nat.beq j k with
    | false => rfl
    | true => exact absurd (Nat.eq_of_beq_eq_true q) h
  simp [zu, h1]
def b2i (b : Bool) : Int32 := bif b then 1 else 0
theorem b2i_z (b : Bool) : b2i b = 0 ↔ b = false := by cases b <;> decide
def bI (x : Nat) : Int32 := if x < 256 then nI x else -1
theorem bI_T (x : Nat) : (bI x).toInt = if x < 256 then (x : Int) else -1 := by
  unfold bI
  by_cases h : x < 256
  · rw [if_pos h, if_pos h, nI_toInt (by omega)]
  · rw [if_neg h, if_neg h]; decide
theorem bI_lo {x : Nat} (h : x < 256) : bI x = nI x := if_pos h
theorem bI_hi {x : Nat} (h : 256 ≤ x) : bI x = -1 := if_neg (by omega)
theorem bI_eqN {x k : Nat} (hk : k < 256) : bI x = nI k ↔ x = k := by
  rw [← Int32.toInt_inj, bI_T, nI_toInt (by omega)]
  by_cases h : x < 256
  · rw [if_pos h]; omega
  · rw [if_neg h]; omega
theorem bI_ltN {x k : Nat} (hk : k < 256) : bI x < nI k ↔ (x < k ∨ 256 ≤ x) := by
  rw [Int32.lt_iff_toInt_lt, bI_T, nI_toInt (by omega)]
  by_cases h : x < 256
  · rw [if_pos h]; omega
  · rw [if_neg h]; omega
theorem bI_leN {x k : Nat} (hk : k < 256) : bI x ≤ nI k ↔ (x ≤ k ∨ 256 ≤ x) := by
  rw [Int32.le_iff_toInt_le, bI_T, nI_toInt (by omega)]
  by_cases h : x < 256
  · rw [if_pos h]; omega
  · rw [if_neg h]; omega
theorem bI_Neq {x k : Nat} (hk : k < 256) : nI k = bI x ↔ k = x := by
  rw [← Int32.toInt_inj, bI_T, nI_toInt (by omega)]
  by_cases h : x < 256
  · rw [if_pos h]; omega
  · rw [if_neg h]; omega
theorem bI_Nlt {x k : Nat} (hk : k < 256) : nI k < bI x ↔ (k < x ∧ x < 256) := by
  rw [Int32.lt_iff_toInt_lt, bI_T, nI_toInt (by omega)]
  by_cases h : x < 256
  · rw [if_pos h]; omega
  · rw [if_neg h]; omega
theorem bI_Nle {x k : Nat} (hk : k < 256) : nI k ≤ bI x ↔ (k ≤ x ∧ x < 256) := by
  rw [Int32.le_iff_toInt_le, bI_T, nI_toInt (by omega)]
  by_cases h : x < 256
  · rw [if_pos h]; omega
  · rw [if_neg h]; omega
theorem bI_eqB {x y : Nat} : bI x = bI y ↔ (x = y ∨ (256 ≤ x ∧ 256 ≤ y)) := by
  rw [← Int32.toInt_inj, bI_T, bI_T]
  by_cases h : x < 256 <;> by_cases g : y < 256
  · rw [if_pos h, if_pos g]; omega
  · rw [if_pos h, if_neg g]; omega
  · rw [if_neg h, if_pos g]; omega
  · rw [if_neg h, if_neg g]; omega
theorem nI_mask (m : Nat) {M P : Nat} (k : Nat) (hP : P = 2 ^ k) (hM : M + 1 = P) : nI m &&& nI M = nI (m % P) := by
  rw [nx_and, show M = 2 ^ k - 1 by omega, Nat.and_two_pow_sub_one_eq_mod, hP]
def oI (o : Option Nat) : Int32 := match o with
  | none => -1
  | some k => nI k
theorem oI_m1 {o : Option Nat} (h : ∀ k, o = some k → k < 2 ^ 31) : oI o = (-1) ↔ o = none := by
  cases o with
  | none => exact ⟨fun _ => rfl, fun _ => rfl⟩
  | some k =>
    refine ⟨fun q => ?_, fun q => by cases q⟩
    have h1 : (nI k).toInt = (-1 : Int32).toInt := by rw [show nI k = -1 from q]
    rw [nI_toInt (h k rfl)] at h1
    have h2 : (-1 : Int32).toInt = -1 := by decide
    omega
/-- the number of a long's bits -/
def tn (x : Int64) : Nat := x.toBitVec.toNat
theorem tn_lt (x : Int64) : tn x < 2 ^ 64 := x.toBitVec.isLt
theorem tn_lN (x : Int64) : lN (tn x) = x := wb_inj (by rw [wb_tb]; simp [tn])
theorem tn_of {n : Nat} (h : n < 2 ^ 64) : tn (lN n) = n := wb_tn h
/-- byte p of the packed text -/
def byt (T : Nat → Int64) (p : Nat) : Nat := tn (T (p / 8)) / 2 ^ (8 * (p % 8)) % 256
theorem byt_lt (T : Nat → Int64) (p : Nat) : byt T p < 256 := Nat.mod_lt _ (by decide)
/-- byteAt: 256 where there is none -/
def gb (T : Nat → Int64) (n p : Nat) : Nat := if p < n then byt T p else 256
theorem gb_lo {T : Nat → Int64} {n p : Nat} (h : p < n) : gb T n p = byt T p := if_pos h
theorem gb_hi {T : Nat → Int64} {n p : Nat} (h : n ≤ p) : gb T n p = 256 := if_neg (by omega)
theorem gb_in (T : Nat → Int64) (n p : Nat) : (gb T n p < 256 ∧ p < n) ∨ (gb T n p = 256 ∧ n ≤ p) := by
  by_cases h : p < n
  · left; rw [gb_lo h]; exact ⟨byt_lt T p, h⟩
  · right; exact ⟨gb_hi (by omega), by omega⟩
abbrev lmU : Type := (Nat → Nat) × (Nat → Int64) × (Nat → Int64)
abbrev lmF (a1 a2 : Nat) (Z : Nat → Nat) : List Value := [.ref a1, .ref a2, .int (nI (Z 2)), .int (nI (Z 3)), .int (nI (Z 4)), .int (nI (Z 5)), .int (nI (Z 6)), .int (nI (Z 7)), .int (nI (Z 8)), .int (nI (Z 9)), .int (nI (Z 10)), .int (nI (Z 11)), .int (nI (Z 12)), .int (nI (Z 13)), .int (nI (Z 14)), .int (nI (Z 15))]
abbrev lmW (cA : ClassId) (a0 a1 a2 : Nat) (u : lmU) : va_W := [(a0, .inr (0, lmF a1 a2 u.1)), (a1, .inl (cA, 4096, .inr (.inl u.2.1))), (a2, .inl (cA, 8000, .inr (.inl u.2.2)))]
/-- the world as a method that only reads has it -/
abbrev lmR (dC : Nat → ClassId) (dI : Nat → Nat → Nat) (cA : ClassId) (a0 a1 a2 : Nat) (u : lmU) (U : State) : Prop := va_P (dC, dI) vwCl (lmW cA a0 a1 a2 u) U.heap ∧ va_K (dC, dI) vwCl [(cA, .long)] U
/-- the world as a method that writes has it -/
abbrev lmB (dC : Nat → ClassId) (dI : Nat → Nat → Nat) (cA : ClassId) (a0 a1 a2 : Nat) (A : Nat → Prop) (u : lmU) (U : State) : Prop := va_P (dC, dI) vwCl (lmW cA a0 a1 a2 u) U.heap ∧ va_K (dC, dI) vwCl [(cA, .long)] U ∧ va_D A (lmW cA a0 a1 a2 u)
abbrev lmP (dC : Nat → ClassId) (dI : Nat → Nat → Nat) (cA : ClassId) (a0 a1 a2 sz : Nat) (u : lmU) (U : State) : Prop := U.heap.size = sz ∧ lmB dC dI cA a0 a1 a2 (fun _ => True) u U
section LMCALLS
variable {p : Program} {l : Launch} {e : Env} {R : Room} {s : State} {m : MethodId} {args : Array Value} {below : List Frame} {meth : Method} {c : Code} {H : Heap} {locs : List Loc} {cells slots : Nat} {Q : State → Prop}
variable {dC : Nat → ClassId} {dI : Nat → Nat → Nat} {cA : ClassId} {a0 a1 a2 : Nat} {u : lmU} {A : Nat → Prop} {H0 : Heap} {pc : Nat} {ls : Array Slot} {rest st0 : List Value} {a : Array Value}
theorem lm_preR {As : List Value} (hK : va_K (dC, dI) vwCl [(cA, .long)] s) (hP : va_P (dC, dI) vwCl (lmW cA a0 a1 a2 u) H) : PreV s H RX0 a0 (va_Pc (.ref a0 :: As) (lmR dC dI cA a0 a1 a2 u)) As :=
  ⟨fun a U g mk q => by obtain ⟨q0, qP, qK⟩ := q; exact ⟨q0, qP, va_K.moved (u := U) (U := U.calling g mk a) (Vm.Alike.refl U.vm) qK⟩, va_recv hK hP (ci := 0) (q0 := 0) rfl rfl, fun U hU hW => ⟨rfl, by rw [hU]; exact hP, va_K.moved hW.alike hK⟩⟩
theorem lm_preS {As : List Value} (hK : va_K (dC, dI) vwCl [(cA, .long)] s) (hP : va_P (dC, dI) vwCl (lmW cA a0 a1 a2 u) H) (hD : va_D A (lmW cA a0 a1 a2 u)) : PreV s H RX0 a0 (va_Pc (.ref a0 :: As) (lmP dC dI cA a0 a1 a2 H.size u)) As :=
  ⟨fun a U g mk q => by obtain ⟨q0, q1, qP, qK, qD⟩ := q; exact ⟨q0, q1, qP, va_K.moved (u := U) (U := U.calling g mk a) (Vm.Alike.refl U.vm) qK, qD⟩, va_recv hK hP (ci := 0) (q0 := 0) rfl rfl, fun U hU hW => ⟨rfl, by rw [hU], by rw [hU]; exact hP, va_K.moved hW.alike hK, hD.weaken (fun _ _ _ _ => trivial)⟩⟩
theorem st_pre {As : List Value} : PreS s H (va_Pc As (fun _ => True)) As :=
  ⟨fun a U g mk q => q, fun U _ _ => ⟨rfl, trivial⟩⟩
theorem lm_calli {post : Int32 → lmU → Prop} (hr : va_Run p l e R s m args below meth c H locs cells slots 0 0 (F0 m pc ls st0) rest (va_Qi post (lmB dC dI cA a0 a1 a2 (va_A (lmW cA a0 a1 a2 u) H.size)) (va_A (lmW cA a0 a1 a2 u) H.size) a) (va_A (lmW cA a0 a1 a2 u) H.size)) (hD : va_D A (lmW cA a0 a1 a2 u)) (hS : va_S A H0 H locs) (hA : ∀ q, H0.size ≤ q → A q)
    (kk : ∀ (r : Int32) (u1 : lmU) (H1 : Heap) (locs1 : List Loc), post r u1 → va_P (dC, dI) vwCl (lmW cA a0 a1 a2 u1) H1 → va_D A (lmW cA a0 a1 a2 u1) → va_S A H0 H1 locs1 → W p l e R s m args below meth c H1 locs1 cells slots Q (F0 m (pc + 3) ls (.int r :: rest))) : W p l e R s m args below meth c H locs cells slots Q (F0 m pc ls st0) := by
  have hFc := va_free (wc := lmW cA a0 a1 a2 u) hD hS hA [0, 1, 2] rfl
  refine va_calli hr hS (fun q _ h => hFc q h) hFc (fun r u1 t H1 locs1 ht hvm hp hB hz1 hk1 hS1 => ?_)
  obtain ⟨hP1, hK1, hD1⟩ := hB
  rw [ht] at hP1
  exact kk r u1 H1 locs1 hp hP1 (hD1.weaken (fun _ q _ h => hFc q.1 h)) hS1
theorem lm_callv {post : lmU → Prop} (hr : va_Run p l e R s m args below meth c H locs cells slots 0 0 (F0 m pc ls st0) rest (va_Qv post (lmB dC dI cA a0 a1 a2 (va_A (lmW cA a0 a1 a2 u) H.size)) (va_A (lmW cA a0 a1 a2 u) H.size) a) (va_A (lmW cA a0 a1 a2 u) H.size)) (hD : va_D A (lmW cA a0 a1 a2 u)) (hS : va_S A H0 H locs) (hA : ∀ q, H0.size ≤ q → A q)
    (kk : ∀ (u1 : lmU) (H1 : Heap) (locs1 : List Loc), post u1 → va_P (dC, dI) vwCl (lmW cA a0 a1 a2 u1) H1 → va_D A (lmW cA a0 a1 a2 u1) → va_S A H0 H1 locs1 → W p l e R s m args below meth c H1 locs1 cells slots Q (F0 m (pc + 3) ls rest)) : W p l e R s m args below meth c H locs cells slots Q (F0 m pc ls st0) := by
  have hFc := va_free (wc := lmW cA a0 a1 a2 u) hD hS hA [0, 1, 2] rfl
  refine va_callv hr hS (fun q _ h => hFc q h) hFc (fun u1 t H1 locs1 ht hvm hp hB hz1 hk1 hS1 => ?_)
  obtain ⟨hP1, hK1, hD1⟩ := hB
  rw [ht] at hP1
  exact kk u1 H1 locs1 hp hP1 (hD1.weaken (fun _ q _ h => hFc q.1 h)) hS1
end LMCALLS
