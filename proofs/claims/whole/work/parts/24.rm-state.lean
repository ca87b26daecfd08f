/-! the reference's state: Y its int fields by slot, x1 .. x9 its rows (text, store, rawOf, lineOf, tokenAt, tokenSize, tokenLine, tokenBefore, spellings) as numbers; its cells at ad 0 .. ad 9; the rows' classes ct 0 (bytes), ct 1 (ints), ct 2 (booleans) -/
theorem sb_m {c : Nat} (h : c < 256) : sb_b c &&& nI 255 = nI c := (sb_byte c h).1
theorem sb_lo : ∀ c, c < 128 → sb_b c = nI c := by decide +kernel
theorem sb_eqN {c k : Nat} (hc : c < 256) (hk : k < 128) : sb_b c = nI k ↔ c = k := by
  refine ⟨fun h => ?_, fun h => by rw [h]; exact sb_lo k hk⟩
  have h1 := sb_m hc
  rw [h, nI_mask k 8 (P := 256) (by decide) (by decide), Nat.mod_eq_of_lt (by omega)] at h1
  exact ((nI_eq (by omega) (by omega)).mp h1).symm
theorem b2i_nar (b : Bool) : narrow .boolean (.int (b2i b)) = .int (b2i b) := by cases b <;> rfl
def nu (f : Nat → Nat) (i v : Nat) : Nat → Nat := fun j => if j = i then v else f j
theorem nu_e (f : Nat → Nat) (i v : Nat) : nu f i v i = v := if_pos rfl
theorem nu_n {f : Nat → Nat} {i v j : Nat} (h : ¬ j = i) : nu f i v j = f j := if_neg h
theorem nu_b {f : Nat → Nat} {i v : Nat} : upd (fun j => sb_b (f j)) i (vp_nar .byte (sb_b v)) = fun j => sb_b (nu f i v j) := by
  funext j
  unfold upd nu
  by_cases h : j = i
  · rw [if_pos h, if_pos h]; exact pk_vb (nI v)
  · rw [if_neg h, if_neg h]
theorem nu_i {f : Nat → Nat} {i v : Nat} : upd (fun j => nI (f j)) i (nI v) = fun j => nI (nu f i v j) := by
  funext j
  unfold upd nu
  by_cases h : j = i
  · rw [if_pos h, if_pos h]
  · rw [if_neg h, if_neg h]
theorem nu_z {f : Nat → Nat} {i v : Nat} (hv : v ≤ 1) : upd (fun j => nI (f j)) i (vp_nar .boolean (nI v)) = fun j => nI (nu f i v j) := by
  funext j
  unfold upd nu
  by_cases h : j = i
  · rw [if_pos h, if_pos h]
    rcases (show v = 0 ∨ v = 1 by omega) with rfl | rfl <;> decide
  · rw [if_neg h, if_neg h]
/-- byteAt: 256 where there is none -/
def rb (S : Nat → Nat) (lim g : Nat) : Nat := if g < lim then S g else 256
theorem rb_in {S : Nat → Nat} (h : ∀ j, S j < 256) (lim g : Nat) : (rb S lim g < 256 ∧ g < lim ∧ rb S lim g = S g) ∨ (rb S lim g = 256 ∧ lim ≤ g) := by
  unfold rb
  by_cases c : g < lim
  · left; rw [if_pos c]; exact ⟨h g, c, rfl⟩
  · right; rw [if_neg c]; exact ⟨rfl, by omega⟩
abbrev rmU : Type := (Nat → Nat) × (Nat → Nat) × (Nat → Nat) × (Nat → Nat) × (Nat → Nat) × (Nat → Nat) × (Nat → Nat) × (Nat → Nat) × (Nat → Nat) × (Nat → Nat)
abbrev rmT (ct : Nat → ClassId) : List (ClassId × FieldType) := [(ct 0, .byte), (ct 1, .int), (ct 2, .boolean)]
abbrev rmF (ad : Nat → Nat) (Y : Nat → Nat) : List Value := [.int (nI (Y 0)), .ref (ad 1), .int (nI (Y 2)), .int (nI (Y 3)), .int (nI (Y 4)), .int (nI (Y 5)), .int (nI (Y 6)), .int (nI (Y 7)), .int (nI (Y 8)), .ref (ad 2), .ref (ad 3), .ref (ad 4), .int (nI (Y 12)), .int (nI (Y 13)), .ref (ad 5), .ref (ad 6), .ref (ad 7), .ref (ad 8), .int (nI (Y 18)), .ref (ad 9)]
abbrev rmW (ct : Nat → ClassId) (ad : Nat → Nat) (u : rmU) : va_W := [(ad 0, .inr (1, rmF ad u.1)), (ad 1, .inl (ct 0, 32768, .inl (fun j => sb_b (u.2.1 j)))), (ad 2, .inl (ct 0, 32768, .inl (fun j => sb_b (u.2.2.1 j)))), (ad 3, .inl (ct 1, 32768, .inl (fun j => nI (u.2.2.2.1 j)))), (ad 4, .inl (ct 1, 32768, .inl (fun j => nI (u.2.2.2.2.1 j)))), (ad 5, .inl (ct 1, 8000, .inl (fun j => nI (u.2.2.2.2.2.1 j)))), (ad 6, .inl (ct 1, 8000, .inl (fun j => nI (u.2.2.2.2.2.2.1 j)))), (ad 7, .inl (ct 1, 8000, .inl (fun j => nI (u.2.2.2.2.2.2.2.1 j)))), (ad 8, .inl (ct 2, 8000, .inl (fun j => nI (u.2.2.2.2.2.2.2.2.1 j)))), (ad 9, .inl (ct 0, 32768, .inl (fun j => sb_b (u.2.2.2.2.2.2.2.2.2 j))))]
abbrev rmR (dC : Nat → ClassId) (dI : Nat → Nat → Nat) (ct : Nat → ClassId) (ad : Nat → Nat) (u : rmU) (U : State) : Prop := va_P (dC, dI) vwCl (rmW ct ad u) U.heap ∧ va_K (dC, dI) vwCl (rmT ct) U
abbrev rmB (dC : Nat → ClassId) (dI : Nat → Nat → Nat) (ct : Nat → ClassId) (ad : Nat → Nat) (A : Nat → Prop) (u : rmU) (U : State) : Prop := va_P (dC, dI) vwCl (rmW ct ad u) U.heap ∧ va_K (dC, dI) vwCl (rmT ct) U ∧ va_D A (rmW ct ad u)
abbrev rmP (dC : Nat → ClassId) (dI : Nat → Nat → Nat) (ct : Nat → ClassId) (ad : Nat → Nat) (sz : Nat) (u : rmU) (U : State) : Prop := U.heap.size = sz ∧ rmB dC dI ct ad (fun _ => True) u U
section RMCALLS
variable {p : Program} {l : Launch} {e : Env} {R : Room} {s : State} {m : MethodId} {args : Array Value} {below : List Frame} {meth : Method} {c : Code} {H : Heap} {locs : List Loc} {cells slots : Nat} {Q : State → Prop}
variable {dC : Nat → ClassId} {dI : Nat → Nat → Nat} {ct : Nat → ClassId} {ad : Nat → Nat} {u : rmU} {A : Nat → Prop} {H0 : Heap} {pc : Nat} {ls : Array Slot} {rest st0 : List Value} {a : Array Value} {dK dV : Nat → Nat} {A0 : Nat → Prop}
theorem rm_preR {As : List Value} (hK : va_K (dC, dI) vwCl (rmT ct) s) (hP : va_P (dC, dI) vwCl (rmW ct ad u) H) : PreV s H RX1 (ad 0) (va_Pc (.ref (ad 0) :: As) (rmR dC dI ct ad u)) As :=
  ⟨fun a U g mk q => by obtain ⟨q0, qP, qK⟩ := q; exact ⟨q0, qP, va_K.moved (u := U) (U := U.calling g mk a) (Vm.Alike.refl U.vm) qK⟩, va_recv hK hP (ci := 1) (q0 := 0) rfl rfl, fun U hU hW => ⟨rfl, by rw [hU]; exact hP, va_K.moved hW.alike hK⟩⟩
theorem rm_preRS {As : List Value} (hK : va_K (dC, dI) vwCl (rmT ct) s) (hP : va_P (dC, dI) vwCl (rmW ct ad u) H) : PreS s H (va_Pc As (rmR dC dI ct ad u)) As :=
  ⟨fun a U g mk q => by obtain ⟨q0, qP, qK⟩ := q; exact ⟨q0, qP, va_K.moved (u := U) (U := U.calling g mk a) (Vm.Alike.refl U.vm) qK⟩, fun U hU hW => ⟨rfl, by rw [hU]; exact hP, va_K.moved hW.alike hK⟩⟩
theorem rm_preRW {As : List Value} (hK : va_K (dC, dI) vwCl (rmT ct) s) (hP : va_P (dC, dI) vwCl (rmW ct ad u) H) (hw : swd dK dV A0 s H) : PreV s H RX1 (ad 0) (va_Pc (.ref (ad 0) :: As) (fun U => rmR dC dI ct ad u U ∧ swd dK dV A0 U U.heap)) As :=
  ⟨fun a U g mk q => by obtain ⟨q0, ⟨qP, qK⟩, qw⟩ := q; exact ⟨q0, ⟨qP, va_K.moved (u := U) (U := U.calling g mk a) (Vm.Alike.refl U.vm) qK⟩, qw.call⟩, va_recv hK hP (ci := 1) (q0 := 0) rfl rfl, fun U hU hW => ⟨rfl, ⟨by rw [hU]; exact hP, va_K.moved hW.alike hK⟩, by rw [hU]; exact hw.warm hW⟩⟩
theorem rm_preS {As : List Value} (hK : va_K (dC, dI) vwCl (rmT ct) s) (hP : va_P (dC, dI) vwCl (rmW ct ad u) H) (hD : va_D A (rmW ct ad u)) : PreV s H RX1 (ad 0) (va_Pc (.ref (ad 0) :: As) (rmP dC dI ct ad H.size u)) As :=
  ⟨fun a U g mk q => by obtain ⟨q0, q1, qP, qK, qD⟩ := q; exact ⟨q0, q1, qP, va_K.moved (u := U) (U := U.calling g mk a) (Vm.Alike.refl U.vm) qK, qD⟩, va_recv hK hP (ci := 1) (q0 := 0) rfl rfl, fun U hU hW => ⟨rfl, by rw [hU], by rw [hU]; exact hP, va_K.moved hW.alike hK, hD.weaken (fun _ _ _ _ => trivial)⟩⟩
theorem rm_preW {As : List Value} (hK : va_K (dC, dI) vwCl (rmT ct) s) (hP : va_P (dC, dI) vwCl (rmW ct ad u) H) (hD : va_D A (rmW ct ad u)) (hw : swd dK dV A0 s H) : PreV s H RX1 (ad 0) (va_Pc (.ref (ad 0) :: As) (fun U => rmP dC dI ct ad H.size u U ∧ swd dK dV A0 U U.heap)) As :=
  ⟨fun a U g mk q => by obtain ⟨q0, ⟨q1, qP, qK, qD⟩, qw⟩ := q; exact ⟨q0, ⟨q1, qP, va_K.moved (u := U) (U := U.calling g mk a) (Vm.Alike.refl U.vm) qK, qD⟩, qw.call⟩, va_recv hK hP (ci := 1) (q0 := 0) rfl rfl, fun U hU hW => ⟨rfl, ⟨by rw [hU], by rw [hU]; exact hP, va_K.moved hW.alike hK, hD.weaken (fun _ _ _ _ => trivial)⟩, by rw [hU]; exact hw.warm hW⟩⟩
theorem rm_calli {post : Int32 → rmU → Prop} (hr : va_Run p l e R s m args below meth c H locs cells slots 0 0 (F0 m pc ls st0) rest (va_Qi post (rmB dC dI ct ad (va_A (rmW ct ad u) H.size)) (va_A (rmW ct ad u) H.size) a) (va_A (rmW ct ad u) H.size)) (hD : va_D A (rmW ct ad u)) (hS : va_S A H0 H locs) (hA : ∀ q, H0.size ≤ q → A q)
    (kk : ∀ (r : Int32) (u1 : rmU) (H1 : Heap) (locs1 : List Loc), post r u1 → va_P (dC, dI) vwCl (rmW ct ad u1) H1 → va_D A (rmW ct ad u1) → va_S A H0 H1 locs1 → W p l e R s m args below meth c H1 locs1 cells slots Q (F0 m (pc + 3) ls (.int r :: rest))) : W p l e R s m args below meth c H locs cells slots Q (F0 m pc ls st0) := by
  have hFc := va_free (wc := rmW ct ad u) hD hS hA [0, 1, 2, 3, 4, 5, 6, 7, 8, 9] rfl
  refine va_calli hr hS (fun q _ h => hFc q h) hFc (fun r u1 t H1 locs1 ht hvm hp hB hz1 hk1 hS1 => ?_)
  obtain ⟨hP1, hK1, hD1⟩ := hB
  rw [ht] at hP1
  exact kk r u1 H1 locs1 hp hP1 (hD1.weaken (fun _ q _ h => hFc q.1 h)) hS1
theorem rm_callv {post : rmU → Prop} (hr : va_Run p l e R s m args below meth c H locs cells slots 0 0 (F0 m pc ls st0) rest (va_Qv post (rmB dC dI ct ad (va_A (rmW ct ad u) H.size)) (va_A (rmW ct ad u) H.size) a) (va_A (rmW ct ad u) H.size)) (hD : va_D A (rmW ct ad u)) (hS : va_S A H0 H locs) (hA : ∀ q, H0.size ≤ q → A q)
    (kk : ∀ (u1 : rmU) (H1 : Heap) (locs1 : List Loc), post u1 → va_P (dC, dI) vwCl (rmW ct ad u1) H1 → va_D A (rmW ct ad u1) → va_S A H0 H1 locs1 → W p l e R s m args below meth c H1 locs1 cells slots Q (F0 m (pc + 3) ls rest)) : W p l e R s m args below meth c H locs cells slots Q (F0 m pc ls st0) := by
  have hFc := va_free (wc := rmW ct ad u) hD hS hA [0, 1, 2, 3, 4, 5, 6, 7, 8, 9] rfl
  refine va_callv hr hS (fun q _ h => hFc q h) hFc (fun u1 t H1 locs1 ht hvm hp hB hz1 hk1 hS1 => ?_)
  obtain ⟨hP1, hK1, hD1⟩ := hB
  rw [ht] at hP1
  exact kk u1 H1 locs1 hp hP1 (hD1.weaken (fun _ q _ h => hFc q.1 h)) hS1
end RMCALLS
