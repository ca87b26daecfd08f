set_option maxHeartbeats 4000000 in
set_option maxRecDepth 100000 in
theorem c_restart (l : Launch) (dC : Nat → ClassId) (dI : Nat → Nat → Nat) (cA : ClassId) (a0 a1 a2 : Nat) (sz : Nat) (Z : Nat → Nat) (T K : Nat → Int64)  : Met l yX0_restart wX0_restart ({ frames := 0, cells := 0, slots := 0, locals := 0 }) (va_Pc [.ref a0] (lmP dC dI cA a0 a1 a2 sz (Z, T, K))) (va_Qv (fun (u : lmU) => u = ((zu (zu (zu (zu (zu (zu (zu Z 3 0) 4 1) 5 0) 6 0) 7 0) 8 0) 9 0), T, K)) (lmB dC dI cA a0 a1 a2 (va_A (lmW cA a0 a1 a2 (Z, T, K)) sz)) (va_A (lmW cA a0 a1 a2 (Z, T, K)) sz)) 0 0 (va_A (lmW cA a0 a1 a2 (Z, T, K)) sz) := by
  refine Met.ofW (cc := cX0_restart) (maxL := 1) (ret := none) (by decide) rfl ?_
  intro p e s m args below meth c s₁ B hml hv
  obtain ⟨rfl, hsz, hP, hK, hD0⟩ := hv
  have hx := B.exec
  have hb := B.bytes
  have hr := B.returns
  have hts : ∀ w ∈ bw, w.before _ s = true := fun w h => atoms_spec (ws := wX0_restart) B.pre w (bc w h)
  have hown : s.vm.findClass RX0 = some m.cls := findClass_of_methodNamed B.named
  have hlocks := B.notSynchronized
  subst hsz
  have hD := hD0.self (sz := s.heap.size)
  generalize hAe : va_A (lmW cA a0 a1 a2 (Z, T, K)) s.heap.size = A at hD ⊢
  have hA : ∀ q : Nat, s.heap.size ≤ q → A q := fun q h => by rw [← hAe]; exact Or.inr h
  have hS : va_S A s.heap s.heap [] := va_S.rf
  have hl := lv_entry ([.ref a0]) (n := 1) (Nat.le_of_ble_eq_true rfl)
  rw [lg_entry_eq]
  generalize (lg_sl ([.ref a0]) ++ List.replicate (1 - (lg_sl ([.ref a0])).length) Slot.unset).toArray = ls at hl ⊢
  have hl : lv_has ls 1 [(0, .ref a0)] := hl
  refine lv_aload_n hx hb dX0_restart_0 rfl (lv_at hl 0 rfl) ?_
  refine lv_iconst (v := nI 0) hx hb dX0_restart_1 (by decide) ?_
  refine va_put (D := (dC, dI)) (ci := 0) (v := .int (nI 0)) (ty := .int) (C := RX0) (T := TX0) (N := 16) hx hb hts inX0 tyX0 okX0 nmX0 hown hK hP hD hS 0 rfl rfl 3 (by decide) (hts _ fl_X0_39) (fun _ h9 => h9) rfl (by decide +kernel) rfl rfl (Nat.le_of_ble_eq_true rfl) dX0_restart_2 (fun H locs hP hD hS => ?_)
  have hP : va_P (dC, dI) vwCl (lmW cA a0 a1 a2 ((zu Z 3 0), T, K)) H := hP
  have hD : va_D A (lmW cA a0 a1 a2 ((zu Z 3 0), T, K)) := hD
  refine lv_aload_n hx hb dX0_restart_5 rfl (lv_at hl 0 rfl) ?_
  refine lv_iconst (v := nI 1) hx hb dX0_restart_6 (by decide) ?_
  refine va_put (D := (dC, dI)) (ci := 0) (v := .int (nI 1)) (ty := .int) (C := RX0) (T := TX0) (N := 16) hx hb hts inX0 tyX0 okX0 nmX0 hown hK hP hD hS 0 rfl rfl 4 (by decide) (hts _ fl_X0_68) (fun _ h9 => h9) rfl (by decide +kernel) rfl rfl (Nat.le_of_ble_eq_true rfl) dX0_restart_7 (fun H locs hP hD hS => ?_)
  have hP : va_P (dC, dI) vwCl (lmW cA a0 a1 a2 ((zu (zu Z 3 0) 4 1), T, K)) H := hP
  have hD : va_D A (lmW cA a0 a1 a2 ((zu (zu Z 3 0) 4 1), T, K)) := hD
  refine lv_aload_n hx hb dX0_restart_10 rfl (lv_at hl 0 rfl) ?_
  refine lv_iconst (v := nI 0) hx hb dX0_restart_11 (by decide) ?_
  refine va_put (D := (dC, dI)) (ci := 0) (v := .int (nI 0)) (ty := .int) (C := RX0) (T := TX0) (N := 16) hx hb hts inX0 tyX0 okX0 nmX0 hown hK hP hD hS 0 rfl rfl 5 (by decide) (hts _ fl_X0_62) (fun _ h9 => h9) rfl (by decide +kernel) rfl rfl (Nat.le_of_ble_eq_true rfl) dX0_restart_12 (fun H locs hP hD hS => ?_)
  have hP : va_P (dC, dI) vwCl (lmW cA a0 a1 a2 ((zu (zu (zu Z 3 0) 4 1) 5 0), T, K)) H := hP
  have hD : va_D A (lmW cA a0 a1 a2 ((zu (zu (zu Z 3 0) 4 1) 5 0), T, K)) := hD
  refine lv_aload_n hx hb dX0_restart_15 rfl (lv_at hl 0 rfl) ?_
  refine lv_iconst (v := nI 0) hx hb dX0_restart_16 (by decide) ?_
  refine va_put (D := (dC, dI)) (ci := 0) (v := .int (nI 0)) (ty := .int) (C := RX0) (T := TX0) (N := 16) hx hb hts inX0 tyX0 okX0 nmX0 hown hK hP hD hS 0 rfl rfl 6 (by decide) (hts _ fl_X0_85) (fun _ h9 => h9) rfl (by decide +kernel) rfl rfl (Nat.le_of_ble_eq_true rfl) dX0_restart_17 (fun H locs hP hD hS => ?_)
  have hP : va_P (dC, dI) vwCl (lmW cA a0 a1 a2 ((zu (zu (zu (zu Z 3 0) 4 1) 5 0) 6 0), T, K)) H := hP
  have hD : va_D A (lmW cA a0 a1 a2 ((zu (zu (zu (zu Z 3 0) 4 1) 5 0) 6 0), T, K)) := hD
  refine lv_aload_n hx hb dX0_restart_20 rfl (lv_at hl 0 rfl) ?_
  refine lv_iconst (v := nI 0) hx hb dX0_restart_21 (by decide) ?_
  refine va_put (D := (dC, dI)) (ci := 0) (v := .int (nI 0)) (ty := .int) (C := RX0) (T := TX0) (N := 16) hx hb hts inX0 tyX0 okX0 nmX0 hown hK hP hD hS 0 rfl rfl 7 (by decide) (hts _ fl_X0_65) (fun _ h9 => h9) rfl (by decide +kernel) rfl rfl (Nat.le_of_ble_eq_true rfl) dX0_restart_22 (fun H locs hP hD hS => ?_)
  have hP : va_P (dC, dI) vwCl (lmW cA a0 a1 a2 ((zu (zu (zu (zu (zu Z 3 0) 4 1) 5 0) 6 0) 7 0), T, K)) H := hP
  have hD : va_D A (lmW cA a0 a1 a2 ((zu (zu (zu (zu (zu Z 3 0) 4 1) 5 0) 6 0) 7 0), T, K)) := hD
  refine lv_aload_n hx hb dX0_restart_25 rfl (lv_at hl 0 rfl) ?_
  refine lv_iconst (v := nI 0) hx hb dX0_restart_26 (by decide) ?_
  refine va_put (D := (dC, dI)) (ci := 0) (v := .int (nI 0)) (ty := .boolean) (C := RX0) (T := TX0) (N := 16) hx hb hts inX0 tyX0 okX0 nmX0 hown hK hP hD hS 0 rfl rfl 8 (by decide) (hts _ fl_X0_35) (fun _ h9 => h9) rfl (by decide +kernel) rfl rfl (Nat.le_of_ble_eq_true rfl) dX0_restart_27 (fun H locs hP hD hS => ?_)
  have hP : va_P (dC, dI) vwCl (lmW cA a0 a1 a2 ((zu (zu (zu (zu (zu (zu Z 3 0) 4 1) 5 0) 6 0) 7 0) 8 0), T, K)) H := hP
  have hD : va_D A (lmW cA a0 a1 a2 ((zu (zu (zu (zu (zu (zu Z 3 0) 4 1) 5 0) 6 0) 7 0) 8 0), T, K)) := hD
  refine lv_aload_n hx hb dX0_restart_30 rfl (lv_at hl 0 rfl) ?_
  refine lv_iconst (v := nI 0) hx hb dX0_restart_31 (by decide) ?_
  refine va_put (D := (dC, dI)) (ci := 0) (v := .int (nI 0)) (ty := .int) (C := RX0) (T := TX0) (N := 16) hx hb hts inX0 tyX0 okX0 nmX0 hown hK hP hD hS 0 rfl rfl 9 (by decide) (hts _ fl_X0_32) (fun _ h9 => h9) rfl (by decide +kernel) rfl rfl (Nat.le_of_ble_eq_true rfl) dX0_restart_32 (fun H locs hP hD hS => ?_)
  have hP : va_P (dC, dI) vwCl (lmW cA a0 a1 a2 ((zu (zu (zu (zu (zu (zu (zu Z 3 0) 4 1) 5 0) 6 0) 7 0) 8 0) 9 0), T, K)) H := hP
  have hD : va_D A (lmW cA a0 a1 a2 ((zu (zu (zu (zu (zu (zu (zu Z 3 0) 4 1) 5 0) 6 0) 7 0) 8 0) 9 0), T, K)) := hD
  exact W.vret hx hb hr (fun t ht hW => ⟨⟨((zu (zu (zu (zu (zu (zu (zu Z 3 0) 4 1) 5 0) 6 0) 7 0) 8 0) 9 0), T, K), rfl, rfl, by rw [ht]; exact hP, va_K.moved hW.alike hK, hD⟩, hS.F ht⟩) hS.2.2 dX0_restart_35
set_option maxHeartbeats 4000000 in
set_option maxRecDepth 100000 in
theorem c_openLine (l : Launch) (dC : Nat → ClassId) (dI : Nat → Nat → Nat) (cA : ClassId) (a0 a1 a2 : Nat) (sz : Nat) (Z : Nat → Nat) (T K : Nat → Int64)  : Met l yX0_openLine wX0_openLine ({ frames := 0, cells := 0, slots := 0, locals := 0 }) (va_Pc [.ref a0] (lmP dC dI cA a0 a1 a2 sz (Z, T, K))) (va_Qv (fun (u : lmU) => u = ((zu (zu (zu (zu Z 10 0) 11 1) 14 0) 15 0), T, K)) (lmB dC dI cA a0 a1 a2 (va_A (lmW cA a0 a1 a2 (Z, T, K)) sz)) (va_A (lmW cA a0 a1 a2 (Z, T, K)) sz)) 0 0 (va_A (lmW cA a0 a1 a2 (Z, T, K)) sz) := by
  refine Met.ofW (cc := cX0_openLine) (maxL := 1) (ret := none) (by decide) rfl ?_
  intro p e s m args below meth c s₁ B hml hv
  obtain ⟨rfl, hsz, hP, hK, hD0⟩ := hv
  have hx := B.exec
  have hb := B.bytes
  have hr := B.returns
  have hts : ∀ w ∈ bw, w.before _ s = true := fun w h => atoms_spec (ws := wX0_openLine) B.pre w (bc w h)
  have hown : s.vm.findClass RX0 = some m.cls := findClass_of_methodNamed B.named
  have hlocks := B.notSynchronized
  subst hsz
  have hD := hD0.self (sz := s.heap.size)
  generalize hAe : va_A (lmW cA a0 a1 a2 (Z, T, K)) s.heap.size = A at hD ⊢
  have hA : ∀ q : Nat, s.heap.size ≤ q → A q := fun q h => by rw [← hAe]; exact Or.inr h
  have hS : va_S A s.heap s.heap [] := va_S.rf
  have hl := lv_entry ([.ref a0]) (n := 1) (Nat.le_of_ble_eq_true rfl)
  rw [lg_entry_eq]
  generalize (lg_sl ([.ref a0]) ++ List.replicate (1 - (lg_sl ([.ref a0])).length) Slot.unset).toArray = ls at hl ⊢
  have hl : lv_has ls 1 [(0, .ref a0)] := hl
  refine lv_aload_n hx hb dX0_openLine_0 rfl (lv_at hl 0 rfl) ?_
  refine lv_iconst (v := nI 0) hx hb dX0_openLine_1 (by decide) ?_
  refine va_put (D := (dC, dI)) (ci := 0) (v := .int (nI 0)) (ty := .int) (C := RX0) (T := TX0) (N := 16) hx hb hts inX0 tyX0 okX0 nmX0 hown hK hP hD hS 0 rfl rfl 10 (by decide) (hts _ fl_X0_90) (fun _ h9 => h9) rfl (by decide +kernel) rfl rfl (Nat.le_of_ble_eq_true rfl) dX0_openLine_2 (fun H locs hP hD hS => ?_)
  have hP : va_P (dC, dI) vwCl (lmW cA a0 a1 a2 ((zu Z 10 0), T, K)) H := hP
  have hD : va_D A (lmW cA a0 a1 a2 ((zu Z 10 0), T, K)) := hD
  refine lv_aload_n hx hb dX0_openLine_5 rfl (lv_at hl 0 rfl) ?_
  refine lv_iconst (v := nI 1) hx hb dX0_openLine_6 (by decide) ?_
  refine va_put (D := (dC, dI)) (ci := 0) (v := .int (nI 1)) (ty := .boolean) (C := RX0) (T := TX0) (N := 16) hx hb hts inX0 tyX0 okX0 nmX0 hown hK hP hD hS 0 rfl rfl 11 (by decide) (hts _ fl_X0_93) (fun _ h9 => h9) rfl (by decide +kernel) rfl rfl (Nat.le_of_ble_eq_true rfl) dX0_openLine_7 (fun H locs hP hD hS => ?_)
  have hP : va_P (dC, dI) vwCl (lmW cA a0 a1 a2 ((zu (zu Z 10 0) 11 1), T, K)) H := hP
  have hD : va_D A (lmW cA a0 a1 a2 ((zu (zu Z 10 0) 11 1), T, K)) := hD
  refine lv_aload_n hx hb dX0_openLine_10 rfl (lv_at hl 0 rfl) ?_
  refine lv_iconst (v := nI 0) hx hb dX0_openLine_11 (by decide) ?_
  refine va_put (D := (dC, dI)) (ci := 0) (v := .int (nI 0)) (ty := .int) (C := RX0) (T := TX0) (N := 16) hx hb hts inX0 tyX0 okX0 nmX0 hown hK hP hD hS 0 rfl rfl 14 (by decide) (hts _ fl_X0_96) (fun _ h9 => h9) rfl (by decide +kernel) rfl rfl (Nat.le_of_ble_eq_true rfl) dX0_openLine_12 (fun H locs hP hD hS => ?_)
  have hP : va_P (dC, dI) vwCl (lmW cA a0 a1 a2 ((zu (zu (zu Z 10 0) 11 1) 14 0), T, K)) H := hP
  have hD : va_D A (lmW cA a0 a1 a2 ((zu (zu (zu Z 10 0) 11 1) 14 0), T, K)) := hD
  refine lv_aload_n hx hb dX0_openLine_15 rfl (lv_at hl 0 rfl) ?_
  refine lv_iconst (v := nI 0) hx hb dX0_openLine_16 (by decide) ?_
  refine va_put (D := (dC, dI)) (ci := 0) (v := .int (nI 0)) (ty := .int) (C := RX0) (T := TX0) (N := 16) hx hb hts inX0 tyX0 okX0 nmX0 hown hK hP hD hS 0 rfl rfl 15 (by decide) (hts _ fl_X0_99) (fun _ h9 => h9) rfl (by decide +kernel) rfl rfl (Nat.le_of_ble_eq_true rfl) dX0_openLine_17 (fun H locs hP hD hS => ?_)
  have hP : va_P (dC, dI) vwCl (lmW cA a0 a1 a2 ((zu (zu (zu (zu Z 10 0) 11 1) 14 0) 15 0), T, K)) H := hP
  have hD : va_D A (lmW cA a0 a1 a2 ((zu (zu (zu (zu Z 10 0) 11 1) 14 0) 15 0), T, K)) := hD
  exact W.vret hx hb hr (fun t ht hW => ⟨⟨((zu (zu (zu (zu Z 10 0) 11 1) 14 0) 15 0), T, K), rfl, rfl, by rw [ht]; exact hP, va_K.moved hW.alike hK, hD⟩, hS.F ht⟩) hS.2.2 dX0_openLine_20
set_option maxHeartbeats 4000000 in
set_option maxRecDepth 100000 in
theorem c_stopAt (l : Launch) (dC : Nat → ClassId) (dI : Nat → Nat → Nat) (cA : ClassId) (a0 a1 a2 : Nat) (sz : Nat) (Z : Nat → Nat) (T K : Nat → Int64) (b : Nat) (f : Nat) : Met l yX0_stopAt wX0_stopAt ({ frames := 0, cells := 0, slots := 0, locals := 0 }) (va_Pc [.ref a0, .int (nI b), .int (nI f)] (lmP dC dI cA a0 a1 a2 sz (Z, T, K))) (va_Qi (fun (r : Int32) (u : lmU) => r = nI f ∧ u = ((zu (zu Z 7 b) 8 1), T, K)) (lmB dC dI cA a0 a1 a2 (va_A (lmW cA a0 a1 a2 (Z, T, K)) sz)) (va_A (lmW cA a0 a1 a2 (Z, T, K)) sz)) 0 0 (va_A (lmW cA a0 a1 a2 (Z, T, K)) sz) := by
  refine Met.ofW (cc := cX0_stopAt) (maxL := 3) (ret := (some .int)) (by decide) rfl ?_
  intro p e s m args below meth c s₁ B hml hv
  obtain ⟨rfl, hsz, hP, hK, hD0⟩ := hv
  have hx := B.exec
  have hb := B.bytes
  have hr := B.returns
  have hts : ∀ w ∈ bw, w.before _ s = true := fun w h => atoms_spec (ws := wX0_stopAt) B.pre w (bc w h)
  have hown : s.vm.findClass RX0 = some m.cls := findClass_of_methodNamed B.named
  have hlocks := B.notSynchronized
  subst hsz
  have hD := hD0.self (sz := s.heap.size)
  generalize hAe : va_A (lmW cA a0 a1 a2 (Z, T, K)) s.heap.size = A at hD ⊢
  have hA : ∀ q : Nat, s.heap.size ≤ q → A q := fun q h => by rw [← hAe]; exact Or.inr h
  have hS : va_S A s.heap s.heap [] := va_S.rf
  have hl := lv_entry ([.ref a0, .int (nI b), .int (nI f)]) (n := 3) (Nat.le_of_ble_eq_true rfl)
  rw [lg_entry_eq]
  generalize (lg_sl ([.ref a0, .int (nI b), .int (nI f)]) ++ List.replicate (3 - (lg_sl ([.ref a0, .int (nI b), .int (nI f)])).length) Slot.unset).toArray = ls at hl ⊢
  have hl : lv_has ls 3 [(0, .ref a0), (1, .int (nI b)), (2, .int (nI f))] := hl
  refine lv_aload_n hx hb dX0_stopAt_0 rfl (lv_at hl 0 rfl) ?_
  refine lv_iconst (v := nI 1) hx hb dX0_stopAt_1 (by decide) ?_
  refine va_put (D := (dC, dI)) (ci := 0) (v := .int (nI 1)) (ty := .boolean) (C := RX0) (T := TX0) (N := 16) hx hb hts inX0 tyX0 okX0 nmX0 hown hK hP hD hS 0 rfl rfl 8 (by decide) (hts _ fl_X0_35) (fun _ h9 => h9) rfl (by decide +kernel) rfl rfl (Nat.le_of_ble_eq_true rfl) dX0_stopAt_2 (fun H locs hP hD hS => ?_)
  have hP : va_P (dC, dI) vwCl (lmW cA a0 a1 a2 ((zu Z 8 1), T, K)) H := hP
  have hD : va_D A (lmW cA a0 a1 a2 ((zu Z 8 1), T, K)) := hD
  refine lv_aload_n hx hb dX0_stopAt_5 rfl (lv_at hl 0 rfl) ?_
  refine lv_iload_n hx hb dX0_stopAt_6 rfl (lv_at hl 1 rfl) ?_
  refine va_put (D := (dC, dI)) (ci := 0) (v := .int (nI b)) (ty := .int) (C := RX0) (T := TX0) (N := 16) hx hb hts inX0 tyX0 okX0 nmX0 hown hK hP hD hS 0 rfl rfl 7 (by decide) (hts _ fl_X0_65) (fun _ h9 => h9) rfl (by decide +kernel) rfl rfl (Nat.le_of_ble_eq_true rfl) dX0_stopAt_7 (fun H locs hP hD hS => ?_)
  have hP : va_P (dC, dI) vwCl (lmW cA a0 a1 a2 ((zu (zu Z 7 b) 8 1), T, K)) H := hP
  have hD : va_D A (lmW cA a0 a1 a2 ((zu (zu Z 7 b) 8 1), T, K)) := hD
  refine lv_iload_n hx hb dX0_stopAt_10 rfl (lv_at hl 2 rfl) ?_
  exact W.iret (v := nI f) hx hb hr (fun t ht hW => ⟨⟨_, ((zu (zu Z 7 b) 8 1), T, K), rfl, ⟨rfl, rfl⟩, by rw [ht]; exact hP, va_K.moved hW.alike hK, hD⟩, hS.F ht⟩) hS.2.2 dX0_stopAt_11
set_option maxHeartbeats 4000000 in
set_option maxRecDepth 100000 in
theorem c_begin (l : Launch) (dC : Nat → ClassId) (dI : Nat → Nat → Nat) (cA : ClassId) (a0 a1 a2 : Nat) (sz : Nat) (Z : Nat → Nat) (T K : Nat → Int64)  : Met l yX0_begin wX0_begin ({ frames := 1, cells := 0, slots := 0, locals := 20 }) (va_Pc [.ref a0] (lmP dC dI cA a0 a1 a2 sz (Z, T, K))) (va_Qv (fun (u : lmU) => u = ((zu (zu (zu (zu (zu (zu (zu Z 3 0) 4 1) 5 0) 6 0) 7 0) 8 0) 9 0), T, K)) (lmB dC dI cA a0 a1 a2 (va_A (lmW cA a0 a1 a2 (Z, T, K)) sz)) (va_A (lmW cA a0 a1 a2 (Z, T, K)) sz)) 0 0 (va_A (lmW cA a0 a1 a2 (Z, T, K)) sz) := by
  refine Met.ofW (cc := cX0_begin) (maxL := 1) (ret := none) (by decide) rfl ?_
  intro p e s m args below meth c s₁ B hml hv
  obtain ⟨rfl, hsz, hP, hK, hD0⟩ := hv
  have hx := B.exec
  have hb := B.bytes
  have hr := B.returns
  have hts : ∀ w ∈ bw, w.before _ s = true := fun w h => atoms_spec (ws := wX0_begin) B.pre w (bc w h)
  have hown : s.vm.findClass RX0 = some m.cls := findClass_of_methodNamed B.named
  have hlocks := B.notSynchronized
  subst hsz
  have hD := hD0.self (sz := s.heap.size)
  generalize hAe : va_A (lmW cA a0 a1 a2 (Z, T, K)) s.heap.size = A at hD ⊢
  have hA : ∀ q : Nat, s.heap.size ≤ q → A q := fun q h => by rw [← hAe]; exact Or.inr h
  have hS : va_S A s.heap s.heap [] := va_S.rf
  have hl := lv_entry ([.ref a0]) (n := 1) (Nat.le_of_ble_eq_true rfl)
  rw [lg_entry_eq]
  generalize (lg_sl ([.ref a0]) ++ List.replicate (1 - (lg_sl ([.ref a0])).length) Slot.unset).toArray = ls at hl ⊢
  have hl : lv_has ls 1 [(0, .ref a0)] := hl
  refine lv_aload_n hx hb dX0_begin_0 rfl (lv_at hl 0 rfl) ?_
  refine lm_callv (va_runV (As := []) (rest := []) ⟨hx, hb, hml, hown, hts⟩ (c_restart l dC dI cA a0 a1 a2 s.heap.size Z T K  ) (cwV 0 hts (gV (fun _ h => h) ml_X0_16 im_X0_restart se_X0_restart ini_X0 co_X0_restart) rfl rfl rfl pd_X0_restart ⟨Nat.le_of_ble_eq_true rfl, Nat.le_of_ble_eq_true rfl⟩) (lm_preS hK hP hD) rfl rfl hl.1 rfl (lv_room (Nat.le_of_ble_eq_true rfl)) dX0_begin_1 ⟨Nat.zero_le _, Nat.zero_le _⟩) hD hS hA (fun u_2 H locs q_1 hP hD hS => ?_)
  subst q_1
  have hP : va_P (dC, dI) vwCl (lmW cA a0 a1 a2 ((zu (zu (zu (zu (zu (zu (zu Z 3 0) 4 1) 5 0) 6 0) 7 0) 8 0) 9 0), T, K)) H := hP
  have hD : va_D A (lmW cA a0 a1 a2 ((zu (zu (zu (zu (zu (zu (zu Z 3 0) 4 1) 5 0) 6 0) 7 0) 8 0) 9 0), T, K)) := hD
  exact W.vret hx hb hr (fun t ht hW => ⟨⟨((zu (zu (zu (zu (zu (zu (zu Z 3 0) 4 1) 5 0) 6 0) 7 0) 8 0) 9 0), T, K), rfl, rfl, by rw [ht]; exact hP, va_K.moved hW.alike hK, hD⟩, hS.F ht⟩) hS.2.2 dX0_begin_4
set_option maxHeartbeats 4000000 in
set_option maxRecDepth 100000 in
theorem c_clear (l : Launch) (dC : Nat → ClassId) (dI : Nat → Nat → Nat) (cA : ClassId) (a0 a1 a2 : Nat) (sz : Nat) (Z : Nat → Nat) (T K : Nat → Int64)  : Met l yX0_clear wX0_clear ({ frames := 1, cells := 0, slots := 0, locals := 20 }) (va_Pc [.ref a0] (lmP dC dI cA a0 a1 a2 sz (Z, T, K))) (va_Qi (fun (r : Int32) (u : lmU) => r = nI (Z 2) ∧ u = ((zu (zu (zu (zu (zu (zu (zu (zu Z 2 0) 3 0) 4 1) 5 0) 6 0) 7 0) 8 0) 9 0), T, K)) (lmB dC dI cA a0 a1 a2 (va_A (lmW cA a0 a1 a2 (Z, T, K)) sz)) (va_A (lmW cA a0 a1 a2 (Z, T, K)) sz)) 0 0 (va_A (lmW cA a0 a1 a2 (Z, T, K)) sz) := by
  refine Met.ofW (cc := cX0_clear) (maxL := 2) (ret := (some .int)) (by decide) rfl ?_
  intro p e s m args below meth c s₁ B hml hv
  obtain ⟨rfl, hsz, hP, hK, hD0⟩ := hv
  have hx := B.exec
  have hb := B.bytes
  have hr := B.returns
  have hts : ∀ w ∈ bw, w.before _ s = true := fun w h => atoms_spec (ws := wX0_clear) B.pre w (bc w h)
  have hown : s.vm.findClass RX0 = some m.cls := findClass_of_methodNamed B.named
  have hlocks := B.notSynchronized
  subst hsz
  have hD := hD0.self (sz := s.heap.size)
  generalize hAe : va_A (lmW cA a0 a1 a2 (Z, T, K)) s.heap.size = A at hD ⊢
  have hA : ∀ q : Nat, s.heap.size ≤ q → A q := fun q h => by rw [← hAe]; exact Or.inr h
  have hS : va_S A s.heap s.heap [] := va_S.rf
  have hl := lv_entry ([.ref a0]) (n := 2) (Nat.le_of_ble_eq_true rfl)
  rw [lg_entry_eq]
  generalize (lg_sl ([.ref a0]) ++ List.replicate (2 - (lg_sl ([.ref a0])).length) Slot.unset).toArray = ls at hl ⊢
  have hl : lv_has ls 2 [(0, .ref a0)] := hl
  refine lv_aload_n hx hb dX0_clear_0 rfl (lv_at hl 0 rfl) ?_
  refine va_get (D := (dC, dI)) (ci := 0) (v := .int (nI (Z 2))) (C := RX0) (T := TX0) (N := 16) hx hb hts inX0 hown hK hP 0 rfl rfl 2 (by decide) (hts _ fl_X0_19) (fun _ h9 => h9) rfl dX0_clear_1 ?_
  refine lv_istore_n (lv' := [(1, .int (nI (Z 2))), (0, .ref a0)]) hx hb dX0_clear_4 rfl hl (by decide) rfl (fun ls hl => ?_)
  refine lv_aload_n hx hb dX0_clear_5 rfl (lv_at hl 1 rfl) ?_
  refine lv_iconst (v := nI 0) hx hb dX0_clear_6 (by decide) ?_
  refine va_put (D := (dC, dI)) (ci := 0) (v := .int (nI 0)) (ty := .int) (C := RX0) (T := TX0) (N := 16) hx hb hts inX0 tyX0 okX0 nmX0 hown hK hP hD hS 0 rfl rfl 2 (by decide) (hts _ fl_X0_19) (fun _ h9 => h9) rfl (by decide +kernel) rfl rfl (Nat.le_of_ble_eq_true rfl) dX0_clear_7 (fun H locs hP hD hS => ?_)
  have hP : va_P (dC, dI) vwCl (lmW cA a0 a1 a2 ((zu Z 2 0), T, K)) H := hP
  have hD : va_D A (lmW cA a0 a1 a2 ((zu Z 2 0), T, K)) := hD
  refine lv_aload_n hx hb dX0_clear_10 rfl (lv_at hl 1 rfl) ?_
  refine lm_callv (va_runV (As := []) (rest := []) ⟨hx, hb, hml, hown, hts⟩ (c_restart l dC dI cA a0 a1 a2 H.size (zu Z 2 0) T K  ) (cwV 0 hts (gV (fun _ h => h) ml_X0_16 im_X0_restart se_X0_restart ini_X0 co_X0_restart) rfl rfl rfl pd_X0_restart ⟨Nat.le_of_ble_eq_true rfl, Nat.le_of_ble_eq_true rfl⟩) (lm_preS hK hP hD) rfl rfl hl.1 rfl (lv_room (Nat.le_of_ble_eq_true rfl)) dX0_clear_11 ⟨Nat.zero_le _, Nat.zero_le _⟩) hD hS hA (fun u_2 H locs q_1 hP hD hS => ?_)
  subst q_1
  have hP : va_P (dC, dI) vwCl (lmW cA a0 a1 a2 ((zu (zu (zu (zu (zu (zu (zu (zu Z 2 0) 3 0) 4 1) 5 0) 6 0) 7 0) 8 0) 9 0), T, K)) H := hP
  have hD : va_D A (lmW cA a0 a1 a2 ((zu (zu (zu (zu (zu (zu (zu (zu Z 2 0) 3 0) 4 1) 5 0) 6 0) 7 0) 8 0) 9 0), T, K)) := hD
  refine lv_iload_n hx hb dX0_clear_14 rfl (lv_at hl 0 rfl) ?_
  exact W.iret (v := nI (Z 2)) hx hb hr (fun t ht hW => ⟨⟨_, ((zu (zu (zu (zu (zu (zu (zu (zu Z 2 0) 3 0) 4 1) 5 0) 6 0) 7 0) 8 0) 9 0), T, K), rfl, ⟨rfl, rfl⟩, by rw [ht]; exact hP, va_K.moved hW.alike hK, hD⟩, hS.F ht⟩) hS.2.2 dX0_clear_15
set_option maxHeartbeats 4000000 in
set_option maxRecDepth 100000 in
theorem k_pass_2 {p : Program} {l : Launch} {e : Env} {s : State} {m : MethodId} {args : Array Value} {below : List Frame} {meth : Method} {c : Code} {A : Nat → Prop} (hx : p.tables.exec = Jvm.exec) (hb : c.code = cX0_pass) (hr : meth.sig.returnType = (some .int)) (hml : c.maxLocals = 4) (hown : s.vm.findClass RX0 = some m.cls) (hts : ∀ w ∈ bw, w.before args s = true) (hlocks : meth.locks = false) {dC : Nat → ClassId} {dI : Nat → Nat → Nat} {cA : ClassId} {a0 a1 a2 : Nat} {Z : Nat → Nat} {T K : Nat → Int64} (hK : va_K (dC, dI) vwCl [(cA, .long)] s) (hA : ∀ q, s.heap.size ≤ q → A q) (stop : Nat) (hn : Z 2 ≤ 32768) (hst : stop < 2 ^ 29) (P : Int32 → lmU → Prop) : ∀ (k : Nat) (a : Nat) (li : Nat) (n : Nat), stop - a < k → a < 2 ^ 29 → P (nI (pss T (Z 2) stop a li n).2.2) (zu (zu Z 3 (pss T (Z 2) stop a li n).1) 4 (pss T (Z 2) stop a li n).2.1, T, K) → ∀ (H : Heap) (locs : List Loc), va_P (dC, dI) vwCl (lmW cA a0 a1 a2 ((zu (zu Z 3 a) 4 li), T, K)) H → va_D A (lmW cA a0 a1 a2 ((zu (zu Z 3 a) 4 li), T, K)) → va_S A s.heap H locs → ∀ ls, lv_has ls 4 [(0, .ref a0), (1, .int (nI stop)), (2, .int (nI n))] → W p l e (headSpec wX0_pass ({ frames := 2, cells := 0, slots := 0, locals := 44 })).room s m args below meth c H locs 0 0 (MQ below (va_Qi P (lmB dC dI cA a0 a1 a2 A) A) args s 0 0 A) (F0 m 2 ls []) := by
  intro k
  induction k with
  | zero => intro a li n hk; exact absurd hk (by omega)
  | succ k ih =>
    intro a li n hk ha hQ H locs hP hD hS ls hl
    refine lv_aload_n hx hb dX0_pass_2 rfl (lv_at hl 0 rfl) ?_
    refine va_get (D := (dC, dI)) (ci := 0) (v := .int (nI a)) (C := RX0) (T := TX0) (N := 16) hx hb hts inX0 hown hK hP 0 rfl rfl 3 (by decide) (hts _ fl_X0_39) (fun _ h9 => h9) rfl dX0_pass_3 ?_
    refine lv_iload_n hx hb dX0_pass_6 rfl (lv_at hl 1 rfl) ?_
    refine lv_icmp_ge (tgt := 92) hx hb dX0_pass_7 (by decide) (fun c_1 => ?_) (fun c_1 => ?_)
    · have c_1 := (nI_leI (a := stop) (b := a) (by omega) (by omega)).mp c_1
      refine lv_iload_n hx hb dX0_pass_92 rfl (lv_at hl 2 rfl) ?_
      exact W.iret (v := nI n) hx hb hr (fun t ht hW => ⟨⟨_, ((zu (zu Z 3 a) 4 li), T, K), rfl, (by rw [pss, if_neg (by omega)] at hQ; exact hQ), by rw [ht]; exact hP, va_K.moved hW.alike hK, hD⟩, hS.F ht⟩) hS.2.2 dX0_pass_93
    · have c_1 := mt (nI_leI (a := stop) (b := a) (by omega) (by omega)).mpr c_1
      refine lv_aload_n hx hb dX0_pass_10 rfl (lv_at hl 0 rfl) ?_
      refine lv_aload_n hx hb dX0_pass_11 rfl (lv_at hl 0 rfl) ?_
      refine va_get (D := (dC, dI)) (ci := 0) (v := .int (nI a)) (C := RX0) (T := TX0) (N := 16) hx hb hts inX0 hown hK hP 0 rfl rfl 3 (by decide) (hts _ fl_X0_39) (fun _ h9 => h9) rfl dX0_pass_12 ?_
      refine vp_callSi (va_Run.run (va_runV (As := [.int (nI a)]) (rest := []) ⟨hx, hb, hml, hown, hts⟩ (c_leftFrom l dC dI cA a0 a1 a2 (zu (zu Z 3 a) 4 li) T K a (show Z 2 ≤ 32768 by omega) (show a < 2 ^ 30 by omega)) (cwV 1 hts (gV (fun _ h => h) ml_X0_42 im_X0_leftFrom se_X0_leftFrom ini_X0 co_X0_leftFrom) rfl rfl rfl pd_X0_leftFrom ⟨Nat.le_of_ble_eq_true rfl, Nat.le_of_ble_eq_true rfl⟩) (lm_preR hK hP) rfl rfl hl.1 rfl (lv_room (Nat.le_of_ble_eq_true rfl)) dX0_pass_15 ⟨Nat.zero_le _, Nat.zero_le _⟩)) (fun r_2 (e_3 : r_2 = nI (lf T (Z 2) a)) => ?_)
      subst e_3
      have := lf_b T (Z 2) a
      refine lv_istore_n (lv' := [(3, .int (nI (lf T (Z 2) a))), (0, .ref a0), (1, .int (nI stop)), (2, .int (nI n))]) hx hb dX0_pass_18 rfl hl (by decide) rfl (fun ls hl => ?_)
      refine lv_aload_n hx hb dX0_pass_19 rfl (lv_at hl 1 rfl) ?_
      refine lv_dup hx hb dX0_pass_20 rfl ?_
      refine va_get (D := (dC, dI)) (ci := 0) (v := .int (nI li)) (C := RX0) (T := TX0) (N := 16) hx hb hts inX0 hown hK hP 0 rfl rfl 4 (by decide) (hts _ fl_X0_68) (fun _ h9 => h9) rfl dX0_pass_21 ?_
      refine lv_iload_n hx hb dX0_pass_24 rfl (lv_at hl 0 rfl) ?_
      refine lv_aload_n hx hb dX0_pass_25 rfl (lv_at hl 1 rfl) ?_
      refine va_get (D := (dC, dI)) (ci := 0) (v := .int (nI a)) (C := RX0) (T := TX0) (N := 16) hx hb hts inX0 hown hK hP 0 rfl rfl 3 (by decide) (hts _ fl_X0_39) (fun _ h9 => h9) rfl dX0_pass_26 ?_
      refine lv_isub hx hb dX0_pass_29 ?_
      refine lv_topi (fun x_4 e_5 => ?_)
      obtain rfl : x_4 = nI (lf T (Z 2) a - a) := e_5.trans (pk_sub (by omega))
      refine lv_iconst (v := nI 2) hx hb dX0_pass_30 (by decide) ?_
      refine lv_idiv hx hb dX0_pass_31 (by decide) ?_
      refine lv_topi (fun x_6 e_7 => ?_)
      obtain rfl : x_6 = nI ((lf T (Z 2) a - a) / 2) := e_7.trans (pk_div (by omega) (by decide) (by decide))
      refine lv_iadd hx hb dX0_pass_32 ?_
      refine lv_topi (fun x_8 e_9 => ?_)
      obtain rfl : x_8 = nI (li + ((lf T (Z 2) a - a) / 2)) := e_9.trans (nI_add li ((lf T (Z 2) a - a) / 2))
      refine va_put (D := (dC, dI)) (ci := 0) (v := .int (nI (li + ((lf T (Z 2) a - a) / 2)))) (ty := .int) (C := RX0) (T := TX0) (N := 16) hx hb hts inX0 tyX0 okX0 nmX0 hown hK hP hD hS 0 rfl rfl 4 (by decide) (hts _ fl_X0_68) (fun _ h9 => h9) rfl (by decide +kernel) rfl rfl (Nat.le_of_ble_eq_true rfl) dX0_pass_33 (fun H locs hP hD hS => ?_)
      have hP : va_P (dC, dI) vwCl (lmW cA a0 a1 a2 ((zu (zu Z 3 a) 4 (li + ((lf T (Z 2) a - a) / 2))), T, K)) H := hP
      have hD : va_D A (lmW cA a0 a1 a2 ((zu (zu Z 3 a) 4 (li + ((lf T (Z 2) a - a) / 2))), T, K)) := hD
      refine lv_aload_n hx hb dX0_pass_36 rfl (lv_at hl 1 rfl) ?_
      refine lv_iload_n hx hb dX0_pass_37 rfl (lv_at hl 0 rfl) ?_
      refine va_put (D := (dC, dI)) (ci := 0) (v := .int (nI (lf T (Z 2) a))) (ty := .int) (C := RX0) (T := TX0) (N := 16) hx hb hts inX0 tyX0 okX0 nmX0 hown hK hP hD hS 0 rfl rfl 3 (by decide) (hts _ fl_X0_39) (fun _ h9 => h9) rfl (by decide +kernel) rfl rfl (Nat.le_of_ble_eq_true rfl) dX0_pass_38 (fun H locs hP hD hS => ?_)
      have hP : va_P (dC, dI) vwCl (lmW cA a0 a1 a2 ((zu (zu Z 3 (lf T (Z 2) a)) 4 (li + ((lf T (Z 2) a - a) / 2))), T, K)) H := hP
      have hD : va_D A (lmW cA a0 a1 a2 ((zu (zu Z 3 (lf T (Z 2) a)) 4 (li + ((lf T (Z 2) a - a) / 2))), T, K)) := hD
      refine lv_aload_n hx hb dX0_pass_41 rfl (lv_at hl 1 rfl) ?_
      refine va_get (D := (dC, dI)) (ci := 0) (v := .int (nI (lf T (Z 2) a))) (C := RX0) (T := TX0) (N := 16) hx hb hts inX0 hown hK hP 0 rfl rfl 3 (by decide) (hts _ fl_X0_39) (fun _ h9 => h9) rfl dX0_pass_42 ?_
      refine lv_iload_n hx hb dX0_pass_45 rfl (lv_at hl 2 rfl) ?_
      refine lv_icmp_ge (tgt := 89) hx hb dX0_pass_46 (by decide) (fun c_10 => ?_) (fun c_10 => ?_)
      · have c_10 := (nI_leI (a := stop) (b := lf T (Z 2) a) (by omega) (by omega)).mp c_10
        refine lv_goto (tgt := 2) hx hb dX0_pass_89 (by decide) ?_
        exact ih (lf T (Z 2) a) (li + ((lf T (Z 2) a - a) / 2)) n (by omega) (by omega) (by rw [pss, if_pos (by omega), if_neg (by omega)] at hQ; rw [pss, if_neg (by omega)]; exact hQ) _ _ hP hD hS _ (lv_sub hl [1, 2, 3] rfl)
      · have c_10 := mt (nI_leI (a := stop) (b := lf T (Z 2) a) (by omega) (by omega)).mpr c_10
        refine lv_aload_n hx hb dX0_pass_49 rfl (lv_at hl 1 rfl) ?_
        refine lv_dup hx hb dX0_pass_50 rfl ?_
        refine va_get (D := (dC, dI)) (ci := 0) (v := .int (nI (li + ((lf T (Z 2) a - a) / 2)))) (C := RX0) (T := TX0) (N := 16) hx hb hts inX0 hown hK hP 0 rfl rfl 4 (by decide) (hts _ fl_X0_68) (fun _ h9 => h9) rfl dX0_pass_51 ?_
        refine lv_aload_n hx hb dX0_pass_54 rfl (lv_at hl 1 rfl) ?_
        refine lv_aload_n hx hb dX0_pass_55 rfl (lv_at hl 1 rfl) ?_
        refine va_get (D := (dC, dI)) (ci := 0) (v := .int (nI (lf T (Z 2) a))) (C := RX0) (T := TX0) (N := 16) hx hb hts inX0 hown hK hP 0 rfl rfl 3 (by decide) (hts _ fl_X0_39) (fun _ h9 => h9) rfl dX0_pass_56 ?_
        refine vp_callSi (va_Run.run (va_runV (As := [.int (nI (lf T (Z 2) a))]) (rest := [.int (nI (li + ((lf T (Z 2) a - a) / 2))), .ref a0]) ⟨hx, hb, hml, hown, hts⟩ (c_byteAt l dC dI cA a0 a1 a2 (zu (zu Z 3 (lf T (Z 2) a)) 4 (li + ((lf T (Z 2) a - a) / 2))) T K (lf T (Z 2) a) (show Z 2 ≤ 32768 by omega) (show lf T (Z 2) a < 2 ^ 31 by omega)) (cwV 1 hts (gV (fun _ h => h) ml_X0_28 im_X0_byteAt se_X0_byteAt ini_X0 co_X0_byteAt) rfl rfl rfl pd_X0_byteAt ⟨Nat.le_of_ble_eq_true rfl, Nat.le_of_ble_eq_true rfl⟩) (lm_preR hK hP) rfl rfl hl.1 rfl (lv_room (Nat.le_of_ble_eq_true rfl)) dX0_pass_59 ⟨Nat.zero_le _, Nat.zero_le _⟩)) (fun r_11 (e_12 : r_11 = bI (gb T (Z 2) (lf T (Z 2) a))) => ?_)
        subst e_12
        have := gb_in T (Z 2) (lf T (Z 2) a)
        refine lv_bipush (v := nI 10) hx hb dX0_pass_62 (by decide) ?_
        refine lv_icmp_ne (tgt := 71) hx hb dX0_pass_64 (by decide) (fun c_13 => ?_) (fun c_13 => ?_)
        · have c_13 := mt (bI_eqN (by omega)).mpr c_13
          refine lv_iconst (v := nI 0) hx hb dX0_pass_71 (by decide) ?_
          refine lv_iadd hx hb dX0_pass_72 ?_
          refine lv_topi (fun x_14 e_15 => ?_)
          obtain rfl : x_14 = nI (li + ((lf T (Z 2) a - a) / 2) + 0) := e_15.trans (nI_add (li + ((lf T (Z 2) a - a) / 2)) 0)
          refine va_put (D := (dC, dI)) (ci := 0) (v := .int (nI (li + ((lf T (Z 2) a - a) / 2) + 0))) (ty := .int) (C := RX0) (T := TX0) (N := 16) hx hb hts inX0 tyX0 okX0 nmX0 hown hK hP hD hS 0 rfl rfl 4 (by decide) (hts _ fl_X0_68) (fun _ h9 => h9) rfl (by decide +kernel) rfl rfl (Nat.le_of_ble_eq_true rfl) dX0_pass_73 (fun H locs hP hD hS => ?_)
          have hP : va_P (dC, dI) vwCl (lmW cA a0 a1 a2 ((zu (zu Z 3 (lf T (Z 2) a)) 4 (li + ((lf T (Z 2) a - a) / 2) + 0)), T, K)) H := hP
          have hD : va_D A (lmW cA a0 a1 a2 ((zu (zu Z 3 (lf T (Z 2) a)) 4 (li + ((lf T (Z 2) a - a) / 2) + 0)), T, K)) := hD
          refine lv_iinc (v := nI (n + 1)) (lv' := [(2, .int (nI (n + 1))), (3, .int (nI (lf T (Z 2) a))), (0, .ref a0), (1, .int (nI stop))]) hx hb dX0_pass_76 hl (k := 3) rfl (by exact nI_add n 1) (by decide) rfl (fun ls hl => ?_)
          refine lv_aload_n hx hb dX0_pass_79 rfl (lv_at hl 2 rfl) ?_
          refine lv_dup hx hb dX0_pass_80 rfl ?_
          refine va_get (D := (dC, dI)) (ci := 0) (v := .int (nI (lf T (Z 2) a))) (C := RX0) (T := TX0) (N := 16) hx hb hts inX0 hown hK hP 0 rfl rfl 3 (by decide) (hts _ fl_X0_39) (fun _ h9 => h9) rfl dX0_pass_81 ?_
          refine lv_iconst (v := nI 1) hx hb dX0_pass_84 (by decide) ?_
          refine lv_iadd hx hb dX0_pass_85 ?_
          refine lv_topi (fun x_16 e_17 => ?_)
          obtain rfl : x_16 = nI (lf T (Z 2) a + 1) := e_17.trans (nI_add (lf T (Z 2) a) 1)
          refine va_put (D := (dC, dI)) (ci := 0) (v := .int (nI (lf T (Z 2) a + 1))) (ty := .int) (C := RX0) (T := TX0) (N := 16) hx hb hts inX0 tyX0 okX0 nmX0 hown hK hP hD hS 0 rfl rfl 3 (by decide) (hts _ fl_X0_39) (fun _ h9 => h9) rfl (by decide +kernel) rfl rfl (Nat.le_of_ble_eq_true rfl) dX0_pass_86 (fun H locs hP hD hS => ?_)
          have hP : va_P (dC, dI) vwCl (lmW cA a0 a1 a2 ((zu (zu Z 3 (lf T (Z 2) a + 1)) 4 (li + ((lf T (Z 2) a - a) / 2) + 0)), T, K)) H := hP
          have hD : va_D A (lmW cA a0 a1 a2 ((zu (zu Z 3 (lf T (Z 2) a + 1)) 4 (li + ((lf T (Z 2) a - a) / 2) + 0)), T, K)) := hD
          refine lv_goto (tgt := 2) hx hb dX0_pass_89 (by decide) ?_
          exact ih (lf T (Z 2) a + 1) (li + ((lf T (Z 2) a - a) / 2) + 0) (n + 1) (by omega) (by omega) (by rw [pss, if_pos (by omega), if_pos (by omega), if_neg (by omega)] at hQ; exact hQ) _ _ hP hD hS _ (lv_sub hl [2, 3, 0] rfl)
        · have c_13 := (bI_eqN (by omega)).mp c_13
          refine lv_iconst (v := nI 1) hx hb dX0_pass_67 (by decide) ?_
          refine lv_goto (tgt := 72) hx hb dX0_pass_68 (by decide) ?_
          refine lv_iadd hx hb dX0_pass_72 ?_
          refine lv_topi (fun x_18 e_19 => ?_)
          obtain rfl : x_18 = nI (li + ((lf T (Z 2) a - a) / 2) + 1) := e_19.trans (nI_add (li + ((lf T (Z 2) a - a) / 2)) 1)
          refine va_put (D := (dC, dI)) (ci := 0) (v := .int (nI (li + ((lf T (Z 2) a - a) / 2) + 1))) (ty := .int) (C := RX0) (T := TX0) (N := 16) hx hb hts inX0 tyX0 okX0 nmX0 hown hK hP hD hS 0 rfl rfl 4 (by decide) (hts _ fl_X0_68) (fun _ h9 => h9) rfl (by decide +kernel) rfl rfl (Nat.le_of_ble_eq_true rfl) dX0_pass_73 (fun H locs hP hD hS => ?_)
          have hP : va_P (dC, dI) vwCl (lmW cA a0 a1 a2 ((zu (zu Z 3 (lf T (Z 2) a)) 4 (li + ((lf T (Z 2) a - a) / 2) + 1)), T, K)) H := hP
          have hD : va_D A (lmW cA a0 a1 a2 ((zu (zu Z 3 (lf T (Z 2) a)) 4 (li + ((lf T (Z 2) a - a) / 2) + 1)), T, K)) := hD
          refine lv_iinc (v := nI (n + 1)) (lv' := [(2, .int (nI (n + 1))), (3, .int (nI (lf T (Z 2) a))), (0, .ref a0), (1, .int (nI stop))]) hx hb dX0_pass_76 hl (k := 3) rfl (by exact nI_add n 1) (by decide) rfl (fun ls hl => ?_)
          refine lv_aload_n hx hb dX0_pass_79 rfl (lv_at hl 2 rfl) ?_
          refine lv_dup hx hb dX0_pass_80 rfl ?_
          refine va_get (D := (dC, dI)) (ci := 0) (v := .int (nI (lf T (Z 2) a))) (C := RX0) (T := TX0) (N := 16) hx hb hts inX0 hown hK hP 0 rfl rfl 3 (by decide) (hts _ fl_X0_39) (fun _ h9 => h9) rfl dX0_pass_81 ?_
          refine lv_iconst (v := nI 1) hx hb dX0_pass_84 (by decide) ?_
          refine lv_iadd hx hb dX0_pass_85 ?_
          refine lv_topi (fun x_20 e_21 => ?_)
          obtain rfl : x_20 = nI (lf T (Z 2) a + 1) := e_21.trans (nI_add (lf T (Z 2) a) 1)
          refine va_put (D := (dC, dI)) (ci := 0) (v := .int (nI (lf T (Z 2) a + 1))) (ty := .int) (C := RX0) (T := TX0) (N := 16) hx hb hts inX0 tyX0 okX0 nmX0 hown hK hP hD hS 0 rfl rfl 3 (by decide) (hts _ fl_X0_39) (fun _ h9 => h9) rfl (by decide +kernel) rfl rfl (Nat.le_of_ble_eq_true rfl) dX0_pass_86 (fun H locs hP hD hS => ?_)
          have hP : va_P (dC, dI) vwCl (lmW cA a0 a1 a2 ((zu (zu Z 3 (lf T (Z 2) a + 1)) 4 (li + ((lf T (Z 2) a - a) / 2) + 1)), T, K)) H := hP
          have hD : va_D A (lmW cA a0 a1 a2 ((zu (zu Z 3 (lf T (Z 2) a + 1)) 4 (li + ((lf T (Z 2) a - a) / 2) + 1)), T, K)) := hD
          refine lv_goto (tgt := 2) hx hb dX0_pass_89 (by decide) ?_
          exact ih (lf T (Z 2) a + 1) (li + ((lf T (Z 2) a - a) / 2) + 1) (n + 1) (by omega) (by omega) (by rw [pss, if_pos (by omega), if_pos (by omega), if_pos (by omega)] at hQ; exact hQ) _ _ hP hD hS _ (lv_sub hl [2, 3, 0] rfl)
set_option maxHeartbeats 4000000 in
set_option maxRecDepth 100000 in
theorem c_pass (l : Launch) (dC : Nat → ClassId) (dI : Nat → Nat → Nat) (cA : ClassId) (a0 a1 a2 : Nat) (sz : Nat) (Z : Nat → Nat) (T K : Nat → Int64) (stop : Nat) (hn : Z 2 ≤ 32768) (hst : stop < 2 ^ 29) (ha : Z 3 < 2 ^ 29) : Met l yX0_pass wX0_pass ({ frames := 2, cells := 0, slots := 0, locals := 44 }) (va_Pc [.ref a0, .int (nI stop)] (lmP dC dI cA a0 a1 a2 sz (Z, T, K))) (va_Qi (fun (r : Int32) (u : lmU) => ∃ x y z, pss T (Z 2) stop (Z 3) (Z 4) 0 = (x, y, z) ∧ r = nI z ∧ u = (zu (zu Z 3 x) 4 y, T, K)) (lmB dC dI cA a0 a1 a2 (va_A (lmW cA a0 a1 a2 (Z, T, K)) sz)) (va_A (lmW cA a0 a1 a2 (Z, T, K)) sz)) 0 0 (va_A (lmW cA a0 a1 a2 (Z, T, K)) sz) := by
  refine Met.ofW (cc := cX0_pass) (maxL := 4) (ret := (some .int)) (by decide) rfl ?_
  intro p e s m args below meth c s₁ B hml hv
  obtain ⟨rfl, hsz, hP, hK, hD0⟩ := hv
  have hx := B.exec
  have hb := B.bytes
  have hr := B.returns
  have hts : ∀ w ∈ bw, w.before _ s = true := fun w h => atoms_spec (ws := wX0_pass) B.pre w (bc w h)
  have hown : s.vm.findClass RX0 = some m.cls := findClass_of_methodNamed B.named
  have hlocks := B.notSynchronized
  subst hsz
  have hD := hD0.self (sz := s.heap.size)
  generalize hAe : va_A (lmW cA a0 a1 a2 (Z, T, K)) s.heap.size = A at hD ⊢
  have hA : ∀ q : Nat, s.heap.size ≤ q → A q := fun q h => by rw [← hAe]; exact Or.inr h
  have hS : va_S A s.heap s.heap [] := va_S.rf
  have hl := lv_entry ([.ref a0, .int (nI stop)]) (n := 4) (Nat.le_of_ble_eq_true rfl)
  rw [lg_entry_eq]
  generalize (lg_sl ([.ref a0, .int (nI stop)]) ++ List.replicate (4 - (lg_sl ([.ref a0, .int (nI stop)])).length) Slot.unset).toArray = ls at hl ⊢
  have hl : lv_has ls 4 [(0, .ref a0), (1, .int (nI stop))] := hl
  refine lv_iconst (v := nI 0) hx hb dX0_pass_0 (by decide) ?_
  refine lv_istore_n (lv' := [(2, .int (nI 0)), (0, .ref a0), (1, .int (nI stop))]) hx hb dX0_pass_1 rfl hl (by decide) rfl (fun ls hl => ?_)
  exact k_pass_2 hx hb hr hml hown hts hlocks hK hA stop hn hst (fun r u => ∃ x y z, pss T (Z 2) stop (Z 3) (Z 4) 0 = (x, y, z) ∧ r = nI z ∧ u = (zu (zu Z 3 x) 4 y, T, K)) (stop - Z 3 + 1) (Z 3) (Z 4) 0 (by omega) ha ⟨_, _, _, rfl, rfl, rfl⟩ _ _ hP hD hS _ (lv_sub hl [1, 2, 0] rfl)
