/-! LineMill() -/
/-- a new object's fields -/
def lmZ0 : Nat → Nat := zu (zu (zu (zu (zu (zu (zu (fun _ => 0) 3 0) 4 1) 5 0) 6 0) 7 0) 8 0) 9 0
abbrev lmN (a0 : Nat) : va_W := [(a0, .inr (0, [.null, .null, .int (nI 0), .int (nI 0), .int (nI 0), .int (nI 0), .int (nI 0), .int (nI 0), .int (nI 0), .int (nI 0), .int (nI 0), .int (nI 0), .int (nI 0), .int (nI 0), .int (nI 0), .int (nI 0)]))]
set_option maxHeartbeats 4000000 in
set_option maxRecDepth 100000 in
theorem c_init (l : Launch) (dC : Nat → ClassId) (dI : Nat → Nat → Nat) (a0 sz : Nat) : Met l yX0_init wX0_init ({ frames := 1, cells := 2, slots := 12096, locals := 20 }) (va_Pc [.ref a0] (fun U => U.heap.size = sz ∧ va_P (dC, dI) vwCl (lmN a0) U.heap ∧ va_K (dC, dI) vwCl [] U ∧ va_D (fun _ => True) (lmN a0))) (va_Qv (fun _ : ClassId × Nat × Nat => True) (fun w t => lmB dC dI w.1 a0 w.2.1 w.2.2 (va_A (lmN a0) sz) (lmZ0, fun _ => 0, fun _ => 0) t) (va_A (lmN a0) sz)) 2 12096 (va_A (lmN a0) sz) := by
  refine Met.ofW (cc := cX0_init) (maxL := 1) (ret := none) (by decide) rfl ?_
  intro p e s m args below meth c s₁ B hml hv
  obtain ⟨rfl, hsz, hP, hK, hD0⟩ := hv
  have hx := B.exec
  have hb := B.bytes
  have hr := B.returns
  have hts : ∀ w ∈ bw, w.before _ s = true := fun w h => atoms_spec (ws := wX0_init) B.pre w (bc w h)
  have hown : s.vm.findClass RX0 = some m.cls := findClass_of_methodNamed B.named
  have hlocks := B.notSynchronized
  have hin : meth.name = "<init>" := (name_of_methodNamed B.named B.method).1
  subst hsz
  have hD := hD0.self (sz := s.heap.size)
  generalize hAe : va_A (lmN a0) s.heap.size = A at hD ⊢
  have hA : ∀ q : Nat, s.heap.size ≤ q → A q := fun q h => by rw [← hAe]; exact Or.inr h
  have hS : va_S A s.heap s.heap [] := va_S.rf
  have hl := lv_entry ([.ref a0]) (n := 1) (Nat.le_of_ble_eq_true rfl)
  rw [lg_entry_eq]
  generalize (lg_sl ([.ref a0]) ++ List.replicate (1 - (lg_sl ([.ref a0])).length) Slot.unset).toArray = ls at hl ⊢
  have hl : lv_has ls 1 [(0, .ref a0)] := hl
  refine lv_aload_n hx hb dX0_init_0 rfl (lv_at hl 0 rfl) ?_
  refine W.objInit hx hb hown (hts _ ml_X0_1) (hts _ im_O_init) (hts _ co_O_init) rfl (by rw [hml]; exact hl.1) rfl dX0_init_1 (Nat.le_of_ble_eq_true rfl) (Nat.le_of_ble_eq_true rfl) ?_
  refine W.eq (g2 := F0 m 4 ls []) rfl ?_
  refine lv_aload_n hx hb dX0_init_4 rfl (lv_at hl 0 rfl) ?_
  refine lv_sipush (v := nI 4096) hx hb dX0_init_5 (by decide) ?_
  refine va_newa (atype := .long) (ty := .long) (N' := 4096) (a0 := (4096, .inr (.inl (fun _ => 0)))) hx hb (hts _ ac_long) rfl hK hP hD hS hA (fun cA => rfl) (by decide) (by decide) (by decide) (Nat.le_of_ble_eq_true rfl) (Nat.le_of_ble_eq_true rfl) dX0_init_8 (fun q1 c1 H hK hP hD hS => ?_)
  refine W.widen (k := 1) (n := 4096) (by omega) (by omega) ?_
  have hP : va_P (dC, dI) vwCl [(a0, .inr (0, [.null, .null, .int (nI 0), .int (nI 0), .int (nI 0), .int (nI 0), .int (nI 0), .int (nI 0), .int (nI 0), .int (nI 0), .int (nI 0), .int (nI 0), .int (nI 0), .int (nI 0), .int (nI 0), .int (nI 0)])), (q1, .inl (c1, 4096, .inr (.inl (fun _ => 0))))] H := hP
  have hD : va_D A [(a0, .inr (0, [.null, .null, .int (nI 0), .int (nI 0), .int (nI 0), .int (nI 0), .int (nI 0), .int (nI 0), .int (nI 0), .int (nI 0), .int (nI 0), .int (nI 0), .int (nI 0), .int (nI 0), .int (nI 0), .int (nI 0)])), (q1, .inl (c1, 4096, .inr (.inl (fun _ => 0))))] := hD
  refine va_putF (D := (dC, dI)) (ci := 0) (v := .ref q1) (ty := .array .long) (C := RX0) (T := TX0) (N := 16) hx hb hts inX0 tyX0 okX0 nmX0 hown hK hP hD hS 0 rfl rfl 0 (by decide) (hts _ fl_X0_9) (fun _ h9 => h9) rfl hin rfl (by decide +kernel) rfl rfl (Nat.le_of_ble_eq_true rfl) dX0_init_10 (fun H locs hP hD hS => ?_)
  have hP : va_P (dC, dI) vwCl [(a0, .inr (0, [.ref q1, .null, .int (nI 0), .int (nI 0), .int (nI 0), .int (nI 0), .int (nI 0), .int (nI 0), .int (nI 0), .int (nI 0), .int (nI 0), .int (nI 0), .int (nI 0), .int (nI 0), .int (nI 0), .int (nI 0)])), (q1, .inl (c1, 4096, .inr (.inl (fun _ => 0))))] H := hP
  have hD : va_D A [(a0, .inr (0, [.ref q1, .null, .int (nI 0), .int (nI 0), .int (nI 0), .int (nI 0), .int (nI 0), .int (nI 0), .int (nI 0), .int (nI 0), .int (nI 0), .int (nI 0), .int (nI 0), .int (nI 0), .int (nI 0), .int (nI 0)])), (q1, .inl (c1, 4096, .inr (.inl (fun _ => 0))))] := hD
  refine lv_aload_n hx hb dX0_init_13 rfl (lv_at hl 0 rfl) ?_
  refine lv_sipush (v := nI 8000) hx hb dX0_init_14 (by decide) ?_
  refine va_newa (atype := .long) (ty := .long) (N' := 8000) (a0 := (8000, .inr (.inl (fun _ => 0)))) hx hb (hts _ ac_long) rfl hK hP hD hS hA (fun cA => rfl) (by decide) (by decide) (by decide) (Nat.le_of_ble_eq_true rfl) (Nat.le_of_ble_eq_true rfl) dX0_init_17 (fun q2 c2 H hK hP hD hS => ?_)
  refine W.widen (k := 2) (n := 12096) (by omega) (by omega) ?_
  have hP : va_P (dC, dI) vwCl [(a0, .inr (0, [.ref q1, .null, .int (nI 0), .int (nI 0), .int (nI 0), .int (nI 0), .int (nI 0), .int (nI 0), .int (nI 0), .int (nI 0), .int (nI 0), .int (nI 0), .int (nI 0), .int (nI 0), .int (nI 0), .int (nI 0)])), (q1, .inl (c1, 4096, .inr (.inl (fun _ => 0)))), (q2, .inl (c2, 8000, .inr (.inl (fun _ => 0))))] H := hP
  have hD : va_D A [(a0, .inr (0, [.ref q1, .null, .int (nI 0), .int (nI 0), .int (nI 0), .int (nI 0), .int (nI 0), .int (nI 0), .int (nI 0), .int (nI 0), .int (nI 0), .int (nI 0), .int (nI 0), .int (nI 0), .int (nI 0), .int (nI 0)])), (q1, .inl (c1, 4096, .inr (.inl (fun _ => 0)))), (q2, .inl (c2, 8000, .inr (.inl (fun _ => 0))))] := hD
  refine va_putF (D := (dC, dI)) (ci := 0) (v := .ref q2) (ty := .array .long) (C := RX0) (T := TX0) (N := 16) hx hb hts inX0 tyX0 okX0 nmX0 hown hK hP hD hS 0 rfl rfl 1 (by decide) (hts _ fl_X0_13) (fun _ h9 => h9) rfl hin rfl (by decide +kernel) rfl rfl (Nat.le_of_ble_eq_true rfl) dX0_init_19 (fun H locs hP hD hS => ?_)
  obtain rfl : c1 = c2 := Option.some.inj ((show s.vm.findClass _ = some c1 from (hK.2 0 (c1, .long) rfl).2).symm.trans (show s.vm.findClass _ = some c2 from (hK.2 1 (c2, .long) rfl).2))
  have hP : va_P (dC, dI) vwCl (lmW c1 a0 q1 q2 ((fun _ => 0), (fun _ => 0), (fun _ => 0))) H := hP
  have hD : va_D A (lmW c1 a0 q1 q2 ((fun _ => 0), (fun _ => 0), (fun _ => 0))) := hD
  have hK : va_K (dC, dI) vwCl [(c1, .long)] s := hK.sub [0] rfl
  refine lv_aload_n hx hb dX0_init_22 rfl (lv_at hl 0 rfl) ?_
  refine lm_callv (va_runV (As := []) (rest := []) ⟨hx, hb, hml, hown, hts⟩ (c_restart l dC dI c1 a0 q1 q2 H.size (fun _ => 0) (fun _ => 0) (fun _ => 0)) (cwV 0 hts (gV (fun _ h => h) ml_X0_16 im_X0_restart se_X0_restart ini_X0 co_X0_restart) rfl rfl rfl pd_X0_restart ⟨Nat.le_of_ble_eq_true rfl, Nat.le_of_ble_eq_true rfl⟩) (lm_preS hK hP hD) rfl rfl hl.1 rfl (lv_room (Nat.le_of_ble_eq_true rfl)) dX0_init_23 ⟨Nat.le_of_ble_eq_true rfl, Nat.le_of_ble_eq_true rfl⟩) hD hS hA (fun u_1 H locs q_1 hP hD hS => ?_)
  subst q_1
  exact W.vret hx hb hr (fun t ht hW => ⟨⟨(c1, q1, q2), rfl, trivial, by rw [ht]; exact hP, va_K.moved hW.alike hK, hD⟩, hS.F ht⟩) hS.2.2 dX0_init_26
