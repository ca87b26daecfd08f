/-! both objects side by side, and calls on either -/
abbrev wwW (cA : ClassId) (a0 a1 a2 : Nat) (ct : Nat → ClassId) (ad : Nat → Nat) (u : lmU) (v : rmU) : va_W := lmW cA a0 a1 a2 u ++ rmW ct ad v
abbrev wwT (cA : ClassId) (ct : Nat → ClassId) : List (ClassId × FieldType) := [(cA, .long), (ct 0, .byte), (ct 1, .int), (ct 2, .boolean)]
section WWC
variable {p : Program} {l : Launch} {e : Env} {R : Room} {s : State} {m : MethodId} {args : Array Value} {below : List Frame} {meth : Method} {c : Code} {H : Heap} {locs : List Loc} {cells slots : Nat} {Q : State → Prop}
variable {dC : Nat → ClassId} {dI : Nat → Nat → Nat} {cA : ClassId} {a0 a1 a2 : Nat} {ct : Nat → ClassId} {ad : Nat → Nat} {u : lmU} {v : rmU} {A : Nat → Prop} {H0 : Heap} {pc : Nat} {ls : Array Slot} {rest st0 : List Value} {a : Array Value}
theorem ww_Px (hP : va_P (dC, dI) vwCl (wwW cA a0 a1 a2 ct ad u v) H) : va_P (dC, dI) vwCl (lmW cA a0 a1 a2 u) H := hP.sub [0, 1, 2] rfl
theorem ww_Pm (hP : va_P (dC, dI) vwCl (wwW cA a0 a1 a2 ct ad u v) H) : va_P (dC, dI) vwCl (rmW ct ad v) H := hP.sub [3, 4, 5, 6, 7, 8, 9, 10, 11, 12] rfl
theorem ww_Dx (hD : va_D A (wwW cA a0 a1 a2 ct ad u v)) : va_D A (lmW cA a0 a1 a2 u) := hD.sub [0, 1, 2] (by decide) rfl
theorem ww_Dm (hD : va_D A (wwW cA a0 a1 a2 ct ad u v)) : va_D A (rmW ct ad v) := hD.sub [3, 4, 5, 6, 7, 8, 9, 10, 11, 12] (by decide) rfl
theorem ww_Kx (hK : va_K (dC, dI) vwCl (wwT cA ct) s) : va_K (dC, dI) vwCl [(cA, .long)] s := hK.sub [0] rfl
theorem ww_Km (hK : va_K (dC, dI) vwCl (wwT cA ct) s) : va_K (dC, dI) vwCl (rmT ct) s := hK.sub [1, 2, 3] rfl
theorem ww_xj {u1 : lmU} {H1 : Heap} (hP : va_P (dC, dI) vwCl (wwW cA a0 a1 a2 ct ad u v) H) (hD : va_D A (wwW cA a0 a1 a2 ct ad u v)) (hk1 : ∀ q : Nat, q < H.size → ¬ va_A (lmW cA a0 a1 a2 u) H.size q → H1[q]? = H[q]?) (hFc : ∀ q, va_A (lmW cA a0 a1 a2 u) H.size q → A q) (hP1 : va_P (dC, dI) vwCl (lmW cA a0 a1 a2 u1) H1) (hD1 : va_D (va_A (lmW cA a0 a1 a2 u) H.size) (lmW cA a0 a1 a2 u1)) : va_P (dC, dI) vwCl (wwW cA a0 a1 a2 ct ad u1 v) H1 ∧ va_D A (wwW cA a0 a1 a2 ct ad u1 v) := by
  obtain ⟨h1, h2⟩ := va_join (wr := rmW ct ad v) (w1 := lmW cA a0 a1 a2 u1) hP hD [0, 1, 2] [3, 4, 5, 6, 7, 8, 9, 10, 11, 12] rfl rfl (by decide) (by decide) hk1 hFc hP1 hD1
  exact ⟨h1.sub [10, 11, 12, 0, 1, 2, 3, 4, 5, 6, 7, 8, 9] rfl, h2.sub [10, 11, 12, 0, 1, 2, 3, 4, 5, 6, 7, 8, 9] (by decide) rfl⟩
theorem ww_mj {v1 : rmU} {H1 : Heap} (hP : va_P (dC, dI) vwCl (wwW cA a0 a1 a2 ct ad u v) H) (hD : va_D A (wwW cA a0 a1 a2 ct ad u v)) (hk1 : ∀ q : Nat, q < H.size → ¬ va_A (rmW ct ad v) H.size q → H1[q]? = H[q]?) (hFc : ∀ q, va_A (rmW ct ad v) H.size q → A q) (hP1 : va_P (dC, dI) vwCl (rmW ct ad v1) H1) (hD1 : va_D (va_A (rmW ct ad v) H.size) (rmW ct ad v1)) : va_P (dC, dI) vwCl (wwW cA a0 a1 a2 ct ad u v1) H1 ∧ va_D A (wwW cA a0 a1 a2 ct ad u v1) :=
  va_join (wr := lmW cA a0 a1 a2 u) (w1 := rmW ct ad v1) hP hD [3, 4, 5, 6, 7, 8, 9, 10, 11, 12] [0, 1, 2] rfl rfl (by decide) (by decide) hk1 hFc hP1 hD1
theorem ww_xi {post : Int32 → lmU → Prop} (hr : va_Run p l e R s m args below meth c H locs cells slots 0 0 (F0 m pc ls st0) rest (va_Qi post (lmB dC dI cA a0 a1 a2 (va_A (lmW cA a0 a1 a2 u) H.size)) (va_A (lmW cA a0 a1 a2 u) H.size) a) (va_A (lmW cA a0 a1 a2 u) H.size)) (hP : va_P (dC, dI) vwCl (wwW cA a0 a1 a2 ct ad u v) H) (hD : va_D A (wwW cA a0 a1 a2 ct ad u v)) (hS : va_S A H0 H locs) (hA : ∀ q, H0.size ≤ q → A q)
    (kk : ∀ (r : Int32) (u1 : lmU) (H1 : Heap) (locs1 : List Loc), post r u1 → va_P (dC, dI) vwCl (wwW cA a0 a1 a2 ct ad u1 v) H1 → va_D A (wwW cA a0 a1 a2 ct ad u1 v) → va_S A H0 H1 locs1 → W p l e R s m args below meth c H1 locs1 cells slots Q (F0 m (pc + 3) ls (.int r :: rest))) : W p l e R s m args below meth c H locs cells slots Q (F0 m pc ls st0) := by
  have hFc := va_free (wc := lmW cA a0 a1 a2 u) hD hS hA [0, 1, 2] rfl
  refine va_calli hr hS (fun q _ h => hFc q h) hFc (fun r u1 t H1 locs1 ht hvm hp hB hz1 hk1 hS1 => ?_)
  obtain ⟨hP1, hK1, hD1⟩ := hB
  rw [ht] at hP1
  obtain ⟨hP2, hD2⟩ := ww_xj hP hD hk1 hFc hP1 hD1
  exact kk r u1 H1 locs1 hp hP2 hD2 hS1
theorem ww_xv {post : lmU → Prop} (hr : va_Run p l e R s m args below meth c H locs cells slots 0 0 (F0 m pc ls st0) rest (va_Qv post (lmB dC dI cA a0 a1 a2 (va_A (lmW cA a0 a1 a2 u) H.size)) (va_A (lmW cA a0 a1 a2 u) H.size) a) (va_A (lmW cA a0 a1 a2 u) H.size)) (hP : va_P (dC, dI) vwCl (wwW cA a0 a1 a2 ct ad u v) H) (hD : va_D A (wwW cA a0 a1 a2 ct ad u v)) (hS : va_S A H0 H locs) (hA : ∀ q, H0.size ≤ q → A q)
    (kk : ∀ (u1 : lmU) (H1 : Heap) (locs1 : List Loc), post u1 → va_P (dC, dI) vwCl (wwW cA a0 a1 a2 ct ad u1 v) H1 → va_D A (wwW cA a0 a1 a2 ct ad u1 v) → va_S A H0 H1 locs1 → W p l e R s m args below meth c H1 locs1 cells slots Q (F0 m (pc + 3) ls rest)) : W p l e R s m args below meth c H locs cells slots Q (F0 m pc ls st0) := by
  have hFc := va_free (wc := lmW cA a0 a1 a2 u) hD hS hA [0, 1, 2] rfl
  refine va_callv hr hS (fun q _ h => hFc q h) hFc (fun u1 t H1 locs1 ht hvm hp hB hz1 hk1 hS1 => ?_)
  obtain ⟨hP1, hK1, hD1⟩ := hB
  rw [ht] at hP1
  obtain ⟨hP2, hD2⟩ := ww_xj hP hD hk1 hFc hP1 hD1
  exact kk u1 H1 locs1 hp hP2 hD2 hS1
theorem ww_mi {post : Int32 → rmU → Prop} (hr : va_Run p l e R s m args below meth c H locs cells slots 0 0 (F0 m pc ls st0) rest (va_Qi post (rmB dC dI ct ad (va_A (rmW ct ad v) H.size)) (va_A (rmW ct ad v) H.size) a) (va_A (rmW ct ad v) H.size)) (hP : va_P (dC, dI) vwCl (wwW cA a0 a1 a2 ct ad u v) H) (hD : va_D A (wwW cA a0 a1 a2 ct ad u v)) (hS : va_S A H0 H locs) (hA : ∀ q, H0.size ≤ q → A q)
    (kk : ∀ (r : Int32) (v1 : rmU) (H1 : Heap) (locs1 : List Loc), post r v1 → va_P (dC, dI) vwCl (wwW cA a0 a1 a2 ct ad u v1) H1 → va_D A (wwW cA a0 a1 a2 ct ad u v1) → va_S A H0 H1 locs1 → W p l e R s m args below meth c H1 locs1 cells slots Q (F0 m (pc + 3) ls (.int r :: rest))) : W p l e R s m args below meth c H locs cells slots Q (F0 m pc ls st0) := by
  have hFc := va_free (wc := rmW ct ad v) hD hS hA [3, 4, 5, 6, 7, 8, 9, 10, 11, 12] rfl
  refine va_calli hr hS (fun q _ h => hFc q h) hFc (fun r v1 t H1 locs1 ht hvm hp hB hz1 hk1 hS1 => ?_)
  obtain ⟨hP1, hK1, hD1⟩ := hB
  rw [ht] at hP1
  obtain ⟨hP2, hD2⟩ := ww_mj hP hD hk1 hFc hP1 hD1
  exact kk r v1 H1 locs1 hp hP2 hD2 hS1
theorem ww_mv {post : rmU → Prop} (hr : va_Run p l e R s m args below meth c H locs cells slots 0 0 (F0 m pc ls st0) rest (va_Qv post (rmB dC dI ct ad (va_A (rmW ct ad v) H.size)) (va_A (rmW ct ad v) H.size) a) (va_A (rmW ct ad v) H.size)) (hP : va_P (dC, dI) vwCl (wwW cA a0 a1 a2 ct ad u v) H) (hD : va_D A (wwW cA a0 a1 a2 ct ad u v)) (hS : va_S A H0 H locs) (hA : ∀ q, H0.size ≤ q → A q)
    (kk : ∀ (v1 : rmU) (H1 : Heap) (locs1 : List Loc), post v1 → va_P (dC, dI) vwCl (wwW cA a0 a1 a2 ct ad u v1) H1 → va_D A (wwW cA a0 a1 a2 ct ad u v1) → va_S A H0 H1 locs1 → W p l e R s m args below meth c H1 locs1 cells slots Q (F0 m (pc + 3) ls rest)) : W p l e R s m args below meth c H locs cells slots Q (F0 m pc ls st0) := by
  have hFc := va_free (wc := rmW ct ad v) hD hS hA [3, 4, 5, 6, 7, 8, 9, 10, 11, 12] rfl
  refine va_callv hr hS (fun q _ h => hFc q h) hFc (fun v1 t H1 locs1 ht hvm hp hB hz1 hk1 hS1 => ?_)
  obtain ⟨hP1, hK1, hD1⟩ := hB
  rw [ht] at hP1
  obtain ⟨hP2, hD2⟩ := ww_mj hP hD hk1 hFc hP1 hD1
  exact kk v1 H1 locs1 hp hP2 hD2 hS1
end WWC
