theorem i2b_x : True := trivial
/-- h 0 .. h (n - 1) written from place sp on -/
def cpG (h : Nat → Nat) (sp n : Nat) (f : Nat → Nat) : Nat → Nat := fun j => if sp ≤ j ∧ j < sp + n then h (j - sp) else f j
theorem cpG_0 (h : Nat → Nat) (sp : Nat) (f : Nat → Nat) : cpG h sp 0 f = f := by
  funext j
  unfold cpG
  rw [if_neg (by omega)]
theorem cpG_s (h : Nat → Nat) (sp i : Nat) (f : Nat → Nat) : nu (cpG h sp i f) (sp + i) (h i) = cpG h sp (i + 1) f := by
  funext j
  unfold nu cpG
  exact fd_step (g := h)
theorem cpG_lt {h : Nat → Nat} {sp n : Nat} {f : Nat → Nat} (hh : ∀ j, h j < 256) (hf : ∀ j, f j < 256) : ∀ j, cpG h sp n f j < 256 := by
  intro j
  unfold cpG
  split
  · exact hh _
  · exact hf _
set_option maxHeartbeats 4000000 in
set_option maxRecDepth 100000 in
theorem r_begin (l : Launch) (dC : Nat → ClassId) (dI : Nat → Nat → Nat) (ct : Nat → ClassId) (ad : Nat → Nat) (sz : Nat) (Y x1 x2 x3 x4 x5 x6 x7 x8 x9 : Nat → Nat)  : Met l yX1_begin wX1_begin ({ frames := 0, cells := 0, slots := 0, locals := 0 }) (va_Pc [.ref (ad 0)] (rmP dC dI ct ad sz (Y, x1, x2, x3, x4, x5, x6, x7, x8, x9))) (va_Qv (fun (u : rmU) => u = ((zu (zu (zu (zu (zu (zu (zu Y 2 0) 3 1) 4 0) 5 0) 6 0) 7 0) 13 0), x1, x2, x3, x4, x5, x6, x7, x8, x9)) (rmB dC dI ct ad (va_A (rmW ct ad (Y, x1, x2, x3, x4, x5, x6, x7, x8, x9)) sz)) (va_A (rmW ct ad (Y, x1, x2, x3, x4, x5, x6, x7, x8, x9)) sz)) 0 0 (va_A (rmW ct ad (Y, x1, x2, x3, x4, x5, x6, x7, x8, x9)) sz) := by
  refine Met.ofW (cc := cX1_begin) (maxL := 1) (ret := none) (by decide) rfl ?_
  intro p e s m args below meth c s₁ B hml hv
  obtain ⟨rfl, hsz, hP, hK, hD0⟩ := hv
  have hx := B.exec
  have hb := B.bytes
  have hr := B.returns
  have hts : ∀ w ∈ bw, w.before _ s = true := fun w h => atoms_spec (ws := wX1_begin) B.pre w (bc w h)
  have hown : s.vm.findClass RX1 = some m.cls := findClass_of_methodNamed B.named
  have hlocks := B.notSynchronized
  subst hsz
  have hD := hD0.self (sz := s.heap.size)
  generalize hAe : va_A (rmW ct ad (Y, x1, x2, x3, x4, x5, x6, x7, x8, x9)) s.heap.size = A at hD ⊢
  have hA : ∀ q : Nat, s.heap.size ≤ q → A q := fun q h => by rw [← hAe]; exact Or.inr h
  have hS : va_S A s.heap s.heap [] := va_S.rf
  have hl := lv_entry ([.ref (ad 0)]) (n := 1) (Nat.le_of_ble_eq_true rfl)
  rw [lg_entry_eq]
  generalize (lg_sl ([.ref (ad 0)]) ++ List.replicate (1 - (lg_sl ([.ref (ad 0)])).length) Slot.unset).toArray = ls at hl ⊢
  have hl : lv_has ls 1 [(0, .ref (ad 0))] := hl
  refine lv_aload_n hx hb dX1_begin_0 rfl (lv_at hl 0 rfl) ?_
  refine lv_iconst (v := nI 0) hx hb dX1_begin_1 (by decide) ?_
  refine va_put (D := (dC, dI)) (ci := 1) (v := .int (nI 0)) (ty := .int) (C := RX1) (T := TX1) (N := 20) hx hb hts inX1 tyX1 okX1 nmX1 hown hK hP hD hS 0 rfl rfl 2 (by decide) (hts _ fl_X1_47) (fun _ h9 => h9) rfl (by decide +kernel) rfl rfl (Nat.le_of_ble_eq_true rfl) dX1_begin_2 (fun H locs hP hD hS => ?_)
  have hP : va_P (dC, dI) vwCl (rmW ct ad ((zu Y 2 0), x1, x2, x3, x4, x5, x6, x7, x8, x9)) H := hP
  have hD : va_D A (rmW ct ad ((zu Y 2 0), x1, x2, x3, x4, x5, x6, x7, x8, x9)) := hD
  refine lv_aload_n hx hb dX1_begin_5 rfl (lv_at hl 0 rfl) ?_
  refine lv_iconst (v := nI 1) hx hb dX1_begin_6 (by decide) ?_
  refine va_put (D := (dC, dI)) (ci := 1) (v := .int (nI 1)) (ty := .int) (C := RX1) (T := TX1) (N := 20) hx hb hts inX1 tyX1 okX1 nmX1 hown hK hP hD hS 0 rfl rfl 3 (by decide) (hts _ fl_X1_50) (fun _ h9 => h9) rfl (by decide +kernel) rfl rfl (Nat.le_of_ble_eq_true rfl) dX1_begin_7 (fun H locs hP hD hS => ?_)
  have hP : va_P (dC, dI) vwCl (rmW ct ad ((zu (zu Y 2 0) 3 1), x1, x2, x3, x4, x5, x6, x7, x8, x9)) H := hP
  have hD : va_D A (rmW ct ad ((zu (zu Y 2 0) 3 1), x1, x2, x3, x4, x5, x6, x7, x8, x9)) := hD
  refine lv_aload_n hx hb dX1_begin_10 rfl (lv_at hl 0 rfl) ?_
  refine lv_iconst (v := nI 0) hx hb dX1_begin_11 (by decide) ?_
  refine va_put (D := (dC, dI)) (ci := 1) (v := .int (nI 0)) (ty := .boolean) (C := RX1) (T := TX1) (N := 20) hx hb hts inX1 tyX1 okX1 nmX1 hown hK hP hD hS 0 rfl rfl 4 (by decide) (hts _ fl_X1_53) (fun _ h9 => h9) rfl (by decide +kernel) rfl rfl (Nat.le_of_ble_eq_true rfl) dX1_begin_12 (fun H locs hP hD hS => ?_)
  have hP : va_P (dC, dI) vwCl (rmW ct ad ((zu (zu (zu Y 2 0) 3 1) 4 0), x1, x2, x3, x4, x5, x6, x7, x8, x9)) H := hP
  have hD : va_D A (rmW ct ad ((zu (zu (zu Y 2 0) 3 1) 4 0), x1, x2, x3, x4, x5, x6, x7, x8, x9)) := hD
  refine lv_aload_n hx hb dX1_begin_15 rfl (lv_at hl 0 rfl) ?_
  refine lv_iconst (v := nI 0) hx hb dX1_begin_16 (by decide) ?_
  refine va_put (D := (dC, dI)) (ci := 1) (v := .int (nI 0)) (ty := .int) (C := RX1) (T := TX1) (N := 20) hx hb hts inX1 tyX1 okX1 nmX1 hown hK hP hD hS 0 rfl rfl 5 (by decide) (hts _ fl_X1_57) (fun _ h9 => h9) rfl (by decide +kernel) rfl rfl (Nat.le_of_ble_eq_true rfl) dX1_begin_17 (fun H locs hP hD hS => ?_)
  have hP : va_P (dC, dI) vwCl (rmW ct ad ((zu (zu (zu (zu Y 2 0) 3 1) 4 0) 5 0), x1, x2, x3, x4, x5, x6, x7, x8, x9)) H := hP
  have hD : va_D A (rmW ct ad ((zu (zu (zu (zu Y 2 0) 3 1) 4 0) 5 0), x1, x2, x3, x4, x5, x6, x7, x8, x9)) := hD
  refine lv_aload_n hx hb dX1_begin_20 rfl (lv_at hl 0 rfl) ?_
  refine lv_iconst (v := nI 0) hx hb dX1_begin_21 (by decide) ?_
  refine va_put (D := (dC, dI)) (ci := 1) (v := .int (nI 0)) (ty := .int) (C := RX1) (T := TX1) (N := 20) hx hb hts inX1 tyX1 okX1 nmX1 hown hK hP hD hS 0 rfl rfl 6 (by decide) (hts _ fl_X1_60) (fun _ h9 => h9) rfl (by decide +kernel) rfl rfl (Nat.le_of_ble_eq_true rfl) dX1_begin_22 (fun H locs hP hD hS => ?_)
  have hP : va_P (dC, dI) vwCl (rmW ct ad ((zu (zu (zu (zu (zu Y 2 0) 3 1) 4 0) 5 0) 6 0), x1, x2, x3, x4, x5, x6, x7, x8, x9)) H := hP
  have hD : va_D A (rmW ct ad ((zu (zu (zu (zu (zu Y 2 0) 3 1) 4 0) 5 0) 6 0), x1, x2, x3, x4, x5, x6, x7, x8, x9)) := hD
  refine lv_aload_n hx hb dX1_begin_25 rfl (lv_at hl 0 rfl) ?_
  refine lv_iconst (v := nI 0) hx hb dX1_begin_26 (by decide) ?_
  refine va_put (D := (dC, dI)) (ci := 1) (v := .int (nI 0)) (ty := .int) (C := RX1) (T := TX1) (N := 20) hx hb hts inX1 tyX1 okX1 nmX1 hown hK hP hD hS 0 rfl rfl 7 (by decide) (hts _ fl_X1_63) (fun _ h9 => h9) rfl (by decide +kernel) rfl rfl (Nat.le_of_ble_eq_true rfl) dX1_begin_27 (fun H locs hP hD hS => ?_)
  have hP : va_P (dC, dI) vwCl (rmW ct ad ((zu (zu (zu (zu (zu (zu Y 2 0) 3 1) 4 0) 5 0) 6 0) 7 0), x1, x2, x3, x4, x5, x6, x7, x8, x9)) H := hP
  have hD : va_D A (rmW ct ad ((zu (zu (zu (zu (zu (zu Y 2 0) 3 1) 4 0) 5 0) 6 0) 7 0), x1, x2, x3, x4, x5, x6, x7, x8, x9)) := hD
  refine lv_aload_n hx hb dX1_begin_30 rfl (lv_at hl 0 rfl) ?_
  refine lv_iconst (v := nI 0) hx hb dX1_begin_31 (by decide) ?_
  refine va_put (D := (dC, dI)) (ci := 1) (v := .int (nI 0)) (ty := .int) (C := RX1) (T := TX1) (N := 20) hx hb hts inX1 tyX1 okX1 nmX1 hown hK hP hD hS 0 rfl rfl 13 (by decide) (hts _ fl_X1_66) (fun _ h9 => h9) rfl (by decide +kernel) rfl rfl (Nat.le_of_ble_eq_true rfl) dX1_begin_32 (fun H locs hP hD hS => ?_)
  have hP : va_P (dC, dI) vwCl (rmW ct ad ((zu (zu (zu (zu (zu (zu (zu Y 2 0) 3 1) 4 0) 5 0) 6 0) 7 0) 13 0), x1, x2, x3, x4, x5, x6, x7, x8, x9)) H := hP
  have hD : va_D A (rmW ct ad ((zu (zu (zu (zu (zu (zu (zu Y 2 0) 3 1) 4 0) 5 0) 6 0) 7 0) 13 0), x1, x2, x3, x4, x5, x6, x7, x8, x9)) := hD
  exact W.vret hx hb hr (fun t ht hW => ⟨⟨((zu (zu (zu (zu (zu (zu (zu Y 2 0) 3 1) 4 0) 5 0) 6 0) 7 0) 13 0), x1, x2, x3, x4, x5, x6, x7, x8, x9), rfl, rfl, by rw [ht]; exact hP, va_K.moved hW.alike hK, hD⟩, hS.F ht⟩) hS.2.2 dX1_begin_35
set_option maxHeartbeats 4000000 in
set_option maxRecDepth 100000 in
theorem r_clear (l : Launch) (dC : Nat → ClassId) (dI : Nat → Nat → Nat) (ct : Nat → ClassId) (ad : Nat → Nat) (sz : Nat) (Y x1 x2 x3 x4 x5 x6 x7 x8 x9 : Nat → Nat)  : Met l yX1_clear wX1_clear ({ frames := 1, cells := 0, slots := 0, locals := 20 }) (va_Pc [.ref (ad 0)] (rmP dC dI ct ad sz (Y, x1, x2, x3, x4, x5, x6, x7, x8, x9))) (va_Qi (fun (r : Int32) (u : rmU) => r = nI (Y 0) ∧ u = ((zu (zu (zu (zu (zu (zu (zu (zu Y 0 0) 2 0) 3 1) 4 0) 5 0) 6 0) 7 0) 13 0), x1, x2, x3, x4, x5, x6, x7, x8, x9)) (rmB dC dI ct ad (va_A (rmW ct ad (Y, x1, x2, x3, x4, x5, x6, x7, x8, x9)) sz)) (va_A (rmW ct ad (Y, x1, x2, x3, x4, x5, x6, x7, x8, x9)) sz)) 0 0 (va_A (rmW ct ad (Y, x1, x2, x3, x4, x5, x6, x7, x8, x9)) sz) := by
  refine Met.ofW (cc := cX1_clear) (maxL := 2) (ret := (some .int)) (by decide) rfl ?_
  intro p e s m args below meth c s₁ B hml hv
  obtain ⟨rfl, hsz, hP, hK, hD0⟩ := hv
  have hx := B.exec
  have hb := B.bytes
  have hr := B.returns
  have hts : ∀ w ∈ bw, w.before _ s = true := fun w h => atoms_spec (ws := wX1_clear) B.pre w (bc w h)
  have hown : s.vm.findClass RX1 = some m.cls := findClass_of_methodNamed B.named
  have hlocks := B.notSynchronized
  subst hsz
  have hD := hD0.self (sz := s.heap.size)
  generalize hAe : va_A (rmW ct ad (Y, x1, x2, x3, x4, x5, x6, x7, x8, x9)) s.heap.size = A at hD ⊢
  have hA : ∀ q : Nat, s.heap.size ≤ q → A q := fun q h => by rw [← hAe]; exact Or.inr h
  have hS : va_S A s.heap s.heap [] := va_S.rf
  have hl := lv_entry ([.ref (ad 0)]) (n := 2) (Nat.le_of_ble_eq_true rfl)
  rw [lg_entry_eq]
  generalize (lg_sl ([.ref (ad 0)]) ++ List.replicate (2 - (lg_sl ([.ref (ad 0)])).length) Slot.unset).toArray = ls at hl ⊢
  have hl : lv_has ls 2 [(0, .ref (ad 0))] := hl
  refine lv_aload_n hx hb dX1_clear_0 rfl (lv_at hl 0 rfl) ?_
  refine va_get (D := (dC, dI)) (ci := 1) (v := .int (nI (Y 0))) (C := RX1) (T := TX1) (N := 20) hx hb hts inX1 hown hK hP 0 rfl rfl 0 (by decide) (hts _ fl_X1_43) (fun _ h9 => h9) rfl dX1_clear_1 ?_
  refine lv_istore_n (lv' := [(1, .int (nI (Y 0))), (0, .ref (ad 0))]) hx hb dX1_clear_4 rfl hl (by decide) rfl (fun ls hl => ?_)
  refine lv_aload_n hx hb dX1_clear_5 rfl (lv_at hl 1 rfl) ?_
  refine lv_iconst (v := nI 0) hx hb dX1_clear_6 (by decide) ?_
  refine va_put (D := (dC, dI)) (ci := 1) (v := .int (nI 0)) (ty := .int) (C := RX1) (T := TX1) (N := 20) hx hb hts inX1 tyX1 okX1 nmX1 hown hK hP hD hS 0 rfl rfl 0 (by decide) (hts _ fl_X1_43) (fun _ h9 => h9) rfl (by decide +kernel) rfl rfl (Nat.le_of_ble_eq_true rfl) dX1_clear_7 (fun H locs hP hD hS => ?_)
  have hP : va_P (dC, dI) vwCl (rmW ct ad ((zu Y 0 0), x1, x2, x3, x4, x5, x6, x7, x8, x9)) H := hP
  have hD : va_D A (rmW ct ad ((zu Y 0 0), x1, x2, x3, x4, x5, x6, x7, x8, x9)) := hD
  refine lv_aload_n hx hb dX1_clear_10 rfl (lv_at hl 1 rfl) ?_
  refine rm_callv (va_runV (As := []) (rest := []) ⟨hx, hb, hml, hown, hts⟩ (r_begin l dC dI ct ad H.size (zu Y 0 0) x1 x2 x3 x4 x5 x6 x7 x8 x9 ) (cwV 0 hts (gV (fun _ h => h) ml_X1_40 im_X1_begin se_X1_begin ini_X1 co_X1_begin) rfl rfl rfl pd_X1_begin ⟨Nat.le_of_ble_eq_true rfl, Nat.le_of_ble_eq_true rfl⟩) (rm_preS hK hP hD) rfl rfl hl.1 rfl (lv_room (Nat.le_of_ble_eq_true rfl)) dX1_clear_11 ⟨Nat.zero_le _, Nat.zero_le _⟩) hD hS hA (fun u_2 H locs q_1 hP hD hS => ?_)
  subst q_1
  have hP : va_P (dC, dI) vwCl (rmW ct ad ((zu (zu (zu (zu (zu (zu (zu (zu Y 0 0) 2 0) 3 1) 4 0) 5 0) 6 0) 7 0) 13 0), x1, x2, x3, x4, x5, x6, x7, x8, x9)) H := hP
  have hD : va_D A (rmW ct ad ((zu (zu (zu (zu (zu (zu (zu (zu Y 0 0) 2 0) 3 1) 4 0) 5 0) 6 0) 7 0) 13 0), x1, x2, x3, x4, x5, x6, x7, x8, x9)) := hD
  refine lv_iload_n hx hb dX1_clear_14 rfl (lv_at hl 0 rfl) ?_
  exact W.iret (v := nI (Y 0)) hx hb hr (fun t ht hW => ⟨⟨_, ((zu (zu (zu (zu (zu (zu (zu (zu Y 0 0) 2 0) 3 1) 4 0) 5 0) 6 0) 7 0) 13 0), x1, x2, x3, x4, x5, x6, x7, x8, x9), rfl, ⟨rfl, rfl⟩, by rw [ht]; exact hP, va_K.moved hW.alike hK, hD⟩, hS.F ht⟩) hS.2.2 dX1_clear_15
set_option maxHeartbeats 4000000 in
set_option maxRecDepth 100000 in
theorem r_stop (l : Launch) (dC : Nat → ClassId) (dI : Nat → Nat → Nat) (ct : Nat → ClassId) (ad : Nat → Nat) (sz : Nat) (Y x1 x2 x3 x4 x5 x6 x7 x8 x9 : Nat → Nat) (f : Nat) (b : Nat) : Met l yX1_stop wX1_stop ({ frames := 0, cells := 0, slots := 0, locals := 0 }) (va_Pc [.ref (ad 0), .int (nI f), .int (nI b)] (rmP dC dI ct ad sz (Y, x1, x2, x3, x4, x5, x6, x7, x8, x9))) (va_Qi (fun (r : Int32) (u : rmU) => r = (-10) - nI f ∧ u = ((zu (zu (zu Y 4 1) 5 b) 13 0), x1, x2, x3, x4, x5, x6, x7, x8, x9)) (rmB dC dI ct ad (va_A (rmW ct ad (Y, x1, x2, x3, x4, x5, x6, x7, x8, x9)) sz)) (va_A (rmW ct ad (Y, x1, x2, x3, x4, x5, x6, x7, x8, x9)) sz)) 0 0 (va_A (rmW ct ad (Y, x1, x2, x3, x4, x5, x6, x7, x8, x9)) sz) := by
  refine Met.ofW (cc := cX1_stop) (maxL := 3) (ret := (some .int)) (by decide) rfl ?_
  intro p e s m args below meth c s₁ B hml hv
  obtain ⟨rfl, hsz, hP, hK, hD0⟩ := hv
  have hx := B.exec
  have hb := B.bytes
  have hr := B.returns
  have hts : ∀ w ∈ bw, w.before _ s = true := fun w h => atoms_spec (ws := wX1_stop) B.pre w (bc w h)
  have hown : s.vm.findClass RX1 = some m.cls := findClass_of_methodNamed B.named
  have hlocks := B.notSynchronized
  subst hsz
  have hD := hD0.self (sz := s.heap.size)
  generalize hAe : va_A (rmW ct ad (Y, x1, x2, x3, x4, x5, x6, x7, x8, x9)) s.heap.size = A at hD ⊢
  have hA : ∀ q : Nat, s.heap.size ≤ q → A q := fun q h => by rw [← hAe]; exact Or.inr h
  have hS : va_S A s.heap s.heap [] := va_S.rf
  have hl := lv_entry ([.ref (ad 0), .int (nI f), .int (nI b)]) (n := 3) (Nat.le_of_ble_eq_true rfl)
  rw [lg_entry_eq]
  generalize (lg_sl ([.ref (ad 0), .int (nI f), .int (nI b)]) ++ List.replicate (3 - (lg_sl ([.ref (ad 0), .int (nI f), .int (nI b)])).length) Slot.unset).toArray = ls at hl ⊢
  have hl : lv_has ls 3 [(0, .ref (ad 0)), (1, .int (nI f)), (2, .int (nI b))] := hl
  refine lv_aload_n hx hb dX1_stop_0 rfl (lv_at hl 0 rfl) ?_
  refine lv_iconst (v := nI 1) hx hb dX1_stop_1 (by decide) ?_
  refine va_put (D := (dC, dI)) (ci := 1) (v := .int (nI 1)) (ty := .boolean) (C := RX1) (T := TX1) (N := 20) hx hb hts inX1 tyX1 okX1 nmX1 hown hK hP hD hS 0 rfl rfl 4 (by decide) (hts _ fl_X1_53) (fun _ h9 => h9) rfl (by decide +kernel) rfl rfl (Nat.le_of_ble_eq_true rfl) dX1_stop_2 (fun H locs hP hD hS => ?_)
  have hP : va_P (dC, dI) vwCl (rmW ct ad ((zu Y 4 1), x1, x2, x3, x4, x5, x6, x7, x8, x9)) H := hP
  have hD : va_D A (rmW ct ad ((zu Y 4 1), x1, x2, x3, x4, x5, x6, x7, x8, x9)) := hD
  refine lv_aload_n hx hb dX1_stop_5 rfl (lv_at hl 0 rfl) ?_
  refine lv_iload_n hx hb dX1_stop_6 rfl (lv_at hl 2 rfl) ?_
  refine va_put (D := (dC, dI)) (ci := 1) (v := .int (nI b)) (ty := .int) (C := RX1) (T := TX1) (N := 20) hx hb hts inX1 tyX1 okX1 nmX1 hown hK hP hD hS 0 rfl rfl 5 (by decide) (hts _ fl_X1_57) (fun _ h9 => h9) rfl (by decide +kernel) rfl rfl (Nat.le_of_ble_eq_true rfl) dX1_stop_7 (fun H locs hP hD hS => ?_)
  have hP : va_P (dC, dI) vwCl (rmW ct ad ((zu (zu Y 4 1) 5 b), x1, x2, x3, x4, x5, x6, x7, x8, x9)) H := hP
  have hD : va_D A (rmW ct ad ((zu (zu Y 4 1) 5 b), x1, x2, x3, x4, x5, x6, x7, x8, x9)) := hD
  refine lv_aload_n hx hb dX1_stop_10 rfl (lv_at hl 0 rfl) ?_
  refine lv_iconst (v := nI 0) hx hb dX1_stop_11 (by decide) ?_
  refine va_put (D := (dC, dI)) (ci := 1) (v := .int (nI 0)) (ty := .int) (C := RX1) (T := TX1) (N := 20) hx hb hts inX1 tyX1 okX1 nmX1 hown hK hP hD hS 0 rfl rfl 13 (by decide) (hts _ fl_X1_66) (fun _ h9 => h9) rfl (by decide +kernel) rfl rfl (Nat.le_of_ble_eq_true rfl) dX1_stop_12 (fun H locs hP hD hS => ?_)
  have hP : va_P (dC, dI) vwCl (rmW ct ad ((zu (zu (zu Y 4 1) 5 b) 13 0), x1, x2, x3, x4, x5, x6, x7, x8, x9)) H := hP
  have hD : va_D A (rmW ct ad ((zu (zu (zu Y 4 1) 5 b) 13 0), x1, x2, x3, x4, x5, x6, x7, x8, x9)) := hD
  refine lv_bipush (v := (-10)) hx hb dX1_stop_15 (by decide) ?_
  refine lv_iload_n hx hb dX1_stop_17 rfl (lv_at hl 1 rfl) ?_
  refine lv_isub hx hb dX1_stop_18 ?_
  exact W.iret (v := ((-10)) - (nI f)) hx hb hr (fun t ht hW => ⟨⟨_, ((zu (zu (zu Y 4 1) 5 b) 13 0), x1, x2, x3, x4, x5, x6, x7, x8, x9), rfl, ⟨rfl, rfl⟩, by rw [ht]; exact hP, va_K.moved hW.alike hK, hD⟩, hS.F ht⟩) hS.2.2 dX1_stop_19
/-- layDown's loop: line, how many are left, store, rawOf, lineOf -/
def ly (X : Nat → Nat) (n : Nat) : Nat → Nat → Nat → Nat → (Nat → Nat) → (Nat → Nat) → (Nat → Nat) → Nat × Nat × (Nat → Nat) × (Nat → Nat) × (Nat → Nat)
  | 0, _, li, q, S, R, L => (li, q, S, R, L)
  | k + 1, g, li, q, S, R, L => if g < n then (if X g = 92 ∧ g + 1 < n ∧ X (g + 1) = 10 then ly X n k (g + 2) (li + 1) q S R L else ly X n k (g + 1) (if X g = 10 then li + 1 else li) (q + 1) (nu S q (X g)) (nu R q g) (nu L q li)) else (li, q, S, R, L)
set_option maxHeartbeats 4000000 in
set_option maxRecDepth 100000 in
theorem q_layDown_15 {p : Program} {l : Launch} {e : Env} {s : State} {m : MethodId} {args : Array Value} {below : List Frame} {meth : Method} {c : Code} (hx : p.tables.exec = Jvm.exec) (hb : c.code = cX1_layDown) (hr : meth.sig.returnType = none) (hml : c.maxLocals = 3) (hown : s.vm.findClass RX1 = some m.cls) (hts : ∀ w ∈ bw, w.before args s = true) (hlocks : meth.locks = false) {A : Nat → Prop} {dC : Nat → ClassId} {dI : Nat → Nat → Nat} {ct : Nat → ClassId} {ad : Nat → Nat} {Y x1 x2 x3 x4 x5 x6 x7 x8 x9 : Nat → Nat} (hK : va_K (dC, dI) vwCl (rmT ct) s) (hA : ∀ q, s.heap.size ≤ q → A q)  (hn : Y 0 ≤ 32768) (h1 : ∀ j, x1 j < 256) (P : rmU → Prop) : ∀ (k : Nat) (g : Nat) (li : Nat) (q : Nat) (S : Nat → Nat) (R : Nat → Nat) (L : Nat → Nat), (Y 0 - g) < k → (q ≤ g) → g < 2 ^ 30 → P (zu (zu Y 8 (ly x1 (Y 0) k g li q S R L).2.1) 12 (ly x1 (Y 0) k g li q S R L).1, x1, (ly x1 (Y 0) k g li q S R L).2.2.1, (ly x1 (Y 0) k g li q S R L).2.2.2.1, (ly x1 (Y 0) k g li q S R L).2.2.2.2, x5, x6, x7, x8, x9) → ∀ (H : Heap) (locs : List Loc), va_P (dC, dI) vwCl (rmW ct ad ((zu Y 8 q), x1, S, R, L, x5, x6, x7, x8, x9)) H → va_D A (rmW ct ad ((zu Y 8 q), x1, S, R, L, x5, x6, x7, x8, x9)) → va_S A s.heap H locs → ∀ ls, lv_has ls 3 [(0, .ref (ad 0)), (1, .int (nI li)), (2, .int (nI g))] → W p l e (headSpec wX1_layDown ({ frames := 0, cells := 0, slots := 0, locals := 0 })).room s m args below meth c H locs 0 0 (MQ below (va_Qv P (rmB dC dI ct ad A) A) args s 0 0 A) (F0 m 15 ls []) := by
  intro k
  induction k with
  | zero => intro g li q S R L hk; exact absurd hk (by omega)
  | succ k ih =>
    intro g li q S R L hk hq hg30 hQ H locs hP hD hS ls hl
    refine lv_iload_n hx hb dX1_layDown_15 rfl (lv_at hl 2 rfl) ?_
    refine lv_aload_n hx hb dX1_layDown_16 rfl (lv_at hl 0 rfl) ?_
    refine va_get (D := (dC, dI)) (ci := 1) (v := .int (nI (Y 0))) (C := RX1) (T := TX1) (N := 20) hx hb hts inX1 hown hK hP 0 rfl rfl 0 (by decide) (hts _ fl_X1_43) (fun _ h9 => h9) rfl dX1_layDown_17 ?_
    refine lv_icmp_ge (tgt := 137) hx hb dX1_layDown_20 (by decide) (fun c_1 => ?_) (fun c_1 => ?_)
    · have c_1 := (nI_leI (a := Y 0) (b := g) (by omega) (by omega)).mp c_1
      refine lv_aload_n hx hb dX1_layDown_137 rfl (lv_at hl 0 rfl) ?_
      refine lv_iload_n hx hb dX1_layDown_138 rfl (lv_at hl 1 rfl) ?_
      refine va_put (D := (dC, dI)) (ci := 1) (v := .int (nI li)) (ty := .int) (C := RX1) (T := TX1) (N := 20) hx hb hts inX1 tyX1 okX1 nmX1 hown hK hP hD hS 0 rfl rfl 12 (by decide) (hts _ fl_X1_110) (fun _ h9 => h9) rfl (by decide +kernel) rfl rfl (Nat.le_of_ble_eq_true rfl) dX1_layDown_139 (fun H locs hP hD hS => ?_)
      have hP : va_P (dC, dI) vwCl (rmW ct ad ((zu (zu Y 8 q) 12 li), x1, S, R, L, x5, x6, x7, x8, x9)) H := hP
      have hD : va_D A (rmW ct ad ((zu (zu Y 8 q) 12 li), x1, S, R, L, x5, x6, x7, x8, x9)) := hD
      exact W.vret hx hb hr (fun t ht hW => ⟨⟨((zu (zu Y 8 q) 12 li), x1, S, R, L, x5, x6, x7, x8, x9), rfl, (by rw [ly, if_neg (by omega)] at hQ; exact hQ), by rw [ht]; exact hP, va_K.moved hW.alike hK, hD⟩, hS.F ht⟩) hS.2.2 dX1_layDown_142
    · have c_1 := mt (nI_leI (a := Y 0) (b := g) (by omega) (by omega)).mpr c_1
      refine lv_aload_n hx hb dX1_layDown_23 rfl (lv_at hl 0 rfl) ?_
      refine va_get (D := (dC, dI)) (ci := 1) (v := .ref (ad 1)) (C := RX1) (T := TX1) (N := 20) hx hb hts inX1 hown hK hP 0 rfl rfl 1 (by decide) (hts _ fl_X1_10) (fun _ h9 => h9) rfl dX1_layDown_24 ?_
      refine lv_iload_n hx hb dX1_layDown_27 rfl (lv_at hl 2 rfl) ?_
      refine va_bald hx hb hK hP 1 0 rfl rfl (vp_in_nI (by omega) (by decide)) dX1_layDown_28 ?_
      refine lv_topi (fun x_2 e_3 => ?_)
      obtain rfl : x_2 = sb_b (x1 g) := e_3.trans (by rw [nI_clamp (by omega)])
      have := h1 g
      refine lv_bipush (v := nI 92) hx hb dX1_layDown_29 (by decide) ?_
      refine lv_icmp_ne (tgt := 67) hx hb dX1_layDown_31 (by decide) (fun c_4 => ?_) (fun c_4 => ?_)
      · have c_4 := mt (sb_eqN (by omega) (by omega)).mpr c_4
        refine lv_aload_n hx hb dX1_layDown_67 rfl (lv_at hl 0 rfl) ?_
        refine va_get (D := (dC, dI)) (ci := 1) (v := .ref (ad 2)) (C := RX1) (T := TX1) (N := 20) hx hb hts inX1 hown hK hP 0 rfl rfl 9 (by decide) (hts _ fl_X1_14) (fun _ h9 => h9) rfl dX1_layDown_68 ?_
        refine lv_aload_n hx hb dX1_layDown_71 rfl (lv_at hl 0 rfl) ?_
        refine va_get (D := (dC, dI)) (ci := 1) (v := .int (nI q)) (C := RX1) (T := TX1) (N := 20) hx hb hts inX1 hown hK hP 0 rfl rfl 8 (by decide) (hts _ fl_X1_107) (fun _ h9 => h9) rfl dX1_layDown_72 ?_
        refine lv_aload_n hx hb dX1_layDown_75 rfl (lv_at hl 0 rfl) ?_
        refine va_get (D := (dC, dI)) (ci := 1) (v := .ref (ad 1)) (C := RX1) (T := TX1) (N := 20) hx hb hts inX1 hown hK hP 0 rfl rfl 1 (by decide) (hts _ fl_X1_10) (fun _ h9 => h9) rfl dX1_layDown_76 ?_
        refine lv_iload_n hx hb dX1_layDown_79 rfl (lv_at hl 2 rfl) ?_
        refine va_bald hx hb hK hP 1 0 rfl rfl (vp_in_nI (by omega) (by decide)) dX1_layDown_80 ?_
        refine lv_topi (fun x_5 e_6 => ?_)
        obtain rfl : x_5 = sb_b (x1 g) := e_6.trans (by rw [nI_clamp (by omega)])
        have := h1 g
        refine va_bast hx hb hK hP hD hS 2 0 rfl rfl (vp_in_nI (by omega) (by decide)) dX1_layDown_81 (fun H locs hP hD hS => ?_)
        rw [nI_clamp (by omega), nu_b] at hP hD
        have hP : va_P (dC, dI) vwCl (rmW ct ad ((zu Y 8 q), x1, (nu S q (x1 g)), R, L, x5, x6, x7, x8, x9)) H := hP
        have hD : va_D A (rmW ct ad ((zu Y 8 q), x1, (nu S q (x1 g)), R, L, x5, x6, x7, x8, x9)) := hD
        refine lv_aload_n hx hb dX1_layDown_82 rfl (lv_at hl 0 rfl) ?_
        refine va_get (D := (dC, dI)) (ci := 1) (v := .ref (ad 3)) (C := RX1) (T := TX1) (N := 20) hx hb hts inX1 hown hK hP 0 rfl rfl 10 (by decide) (hts _ fl_X1_17) (fun _ h9 => h9) rfl dX1_layDown_83 ?_
        refine lv_aload_n hx hb dX1_layDown_86 rfl (lv_at hl 0 rfl) ?_
        refine va_get (D := (dC, dI)) (ci := 1) (v := .int (nI q)) (C := RX1) (T := TX1) (N := 20) hx hb hts inX1 hown hK hP 0 rfl rfl 8 (by decide) (hts _ fl_X1_107) (fun _ h9 => h9) rfl dX1_layDown_87 ?_
        refine lv_iload_n hx hb dX1_layDown_90 rfl (lv_at hl 2 rfl) ?_
        refine va_iast hx hb hK hP hD hS 3 1 rfl rfl (vp_in_nI (by omega) (by decide)) dX1_layDown_91 (fun H locs hP hD hS => ?_)
        rw [nI_clamp (by omega), nu_i] at hP hD
        have hP : va_P (dC, dI) vwCl (rmW ct ad ((zu Y 8 q), x1, (nu S q (x1 g)), (nu R q g), L, x5, x6, x7, x8, x9)) H := hP
        have hD : va_D A (rmW ct ad ((zu Y 8 q), x1, (nu S q (x1 g)), (nu R q g), L, x5, x6, x7, x8, x9)) := hD
        refine lv_aload_n hx hb dX1_layDown_92 rfl (lv_at hl 0 rfl) ?_
        refine va_get (D := (dC, dI)) (ci := 1) (v := .ref (ad 4)) (C := RX1) (T := TX1) (N := 20) hx hb hts inX1 hown hK hP 0 rfl rfl 11 (by decide) (hts _ fl_X1_21) (fun _ h9 => h9) rfl dX1_layDown_93 ?_
        refine lv_aload_n hx hb dX1_layDown_96 rfl (lv_at hl 0 rfl) ?_
        refine va_get (D := (dC, dI)) (ci := 1) (v := .int (nI q)) (C := RX1) (T := TX1) (N := 20) hx hb hts inX1 hown hK hP 0 rfl rfl 8 (by decide) (hts _ fl_X1_107) (fun _ h9 => h9) rfl dX1_layDown_97 ?_
        refine lv_iload_n hx hb dX1_layDown_100 rfl (lv_at hl 1 rfl) ?_
        refine va_iast hx hb hK hP hD hS 4 1 rfl rfl (vp_in_nI (by omega) (by decide)) dX1_layDown_101 (fun H locs hP hD hS => ?_)
        rw [nI_clamp (by omega), nu_i] at hP hD
        have hP : va_P (dC, dI) vwCl (rmW ct ad ((zu Y 8 q), x1, (nu S q (x1 g)), (nu R q g), (nu L q li), x5, x6, x7, x8, x9)) H := hP
        have hD : va_D A (rmW ct ad ((zu Y 8 q), x1, (nu S q (x1 g)), (nu R q g), (nu L q li), x5, x6, x7, x8, x9)) := hD
        refine lv_aload_n hx hb dX1_layDown_102 rfl (lv_at hl 0 rfl) ?_
        refine lv_dup hx hb dX1_layDown_103 rfl ?_
        refine va_get (D := (dC, dI)) (ci := 1) (v := .int (nI q)) (C := RX1) (T := TX1) (N := 20) hx hb hts inX1 hown hK hP 0 rfl rfl 8 (by decide) (hts _ fl_X1_107) (fun _ h9 => h9) rfl dX1_layDown_104 ?_
        refine lv_iconst (v := nI 1) hx hb dX1_layDown_107 (by decide) ?_
        refine lv_iadd hx hb dX1_layDown_108 ?_
        refine lv_topi (fun x_7 e_8 => ?_)
        obtain rfl : x_7 = nI (q + 1) := e_8.trans (nI_add q 1)
        refine va_put (D := (dC, dI)) (ci := 1) (v := .int (nI (q + 1))) (ty := .int) (C := RX1) (T := TX1) (N := 20) hx hb hts inX1 tyX1 okX1 nmX1 hown hK hP hD hS 0 rfl rfl 8 (by decide) (hts _ fl_X1_107) (fun _ h9 => h9) rfl (by decide +kernel) rfl rfl (Nat.le_of_ble_eq_true rfl) dX1_layDown_109 (fun H locs hP hD hS => ?_)
        have hP : va_P (dC, dI) vwCl (rmW ct ad ((zu Y 8 (q + 1)), x1, (nu S q (x1 g)), (nu R q g), (nu L q li), x5, x6, x7, x8, x9)) H := hP
        have hD : va_D A (rmW ct ad ((zu Y 8 (q + 1)), x1, (nu S q (x1 g)), (nu R q g), (nu L q li), x5, x6, x7, x8, x9)) := hD
        refine lv_aload_n hx hb dX1_layDown_112 rfl (lv_at hl 0 rfl) ?_
        refine va_get (D := (dC, dI)) (ci := 1) (v := .ref (ad 1)) (C := RX1) (T := TX1) (N := 20) hx hb hts inX1 hown hK hP 0 rfl rfl 1 (by decide) (hts _ fl_X1_10) (fun _ h9 => h9) rfl dX1_layDown_113 ?_
        refine lv_iload_n hx hb dX1_layDown_116 rfl (lv_at hl 2 rfl) ?_
        refine va_bald hx hb hK hP 1 0 rfl rfl (vp_in_nI (by omega) (by decide)) dX1_layDown_117 ?_
        refine lv_topi (fun x_9 e_10 => ?_)
        obtain rfl : x_9 = sb_b (x1 g) := e_10.trans (by rw [nI_clamp (by omega)])
        have := h1 g
        refine lv_bipush (v := nI 10) hx hb dX1_layDown_118 (by decide) ?_
        refine lv_icmp_ne (tgt := 129) hx hb dX1_layDown_120 (by decide) (fun c_11 => ?_) (fun c_11 => ?_)
        · have c_11 := mt (sb_eqN (by omega) (by omega)).mpr c_11
          refine lv_iload_n hx hb dX1_layDown_129 rfl (lv_at hl 1 rfl) ?_
          refine lv_istore_n (lv' := [(1, .int (nI li)), (0, .ref (ad 0)), (2, .int (nI g))]) hx hb dX1_layDown_130 rfl hl (by decide) rfl (fun ls hl => ?_)
          refine lv_iinc (v := nI (g + 1)) (lv' := [(2, .int (nI (g + 1))), (1, .int (nI li)), (0, .ref (ad 0))]) hx hb dX1_layDown_131 hl (k := 2) rfl (by exact nI_add g 1) (by decide) rfl (fun ls hl => ?_)
          refine lv_goto (tgt := 15) hx hb dX1_layDown_134 (by decide) ?_
          exact ih (g + 1) li (q + 1) ((nu S q (x1 g))) ((nu R q g)) ((nu L q li)) (by omega) (by omega) (by omega) (by rw [ly, if_pos (by omega), if_neg (by omega), if_neg (by omega)] at hQ; exact hQ) _ _ hP hD hS _ (lv_sub hl [2, 1, 0] rfl)
        · have c_11 := (sb_eqN (by omega) (by omega)).mp c_11
          refine lv_iload_n hx hb dX1_layDown_123 rfl (lv_at hl 1 rfl) ?_
          refine lv_iconst (v := nI 1) hx hb dX1_layDown_124 (by decide) ?_
          refine lv_iadd hx hb dX1_layDown_125 ?_
          refine lv_topi (fun x_12 e_13 => ?_)
          obtain rfl : x_12 = nI (li + 1) := e_13.trans (nI_add li 1)
          refine lv_goto (tgt := 130) hx hb dX1_layDown_126 (by decide) ?_
          refine lv_istore_n (lv' := [(1, .int (nI (li + 1))), (0, .ref (ad 0)), (2, .int (nI g))]) hx hb dX1_layDown_130 rfl hl (by decide) rfl (fun ls hl => ?_)
          refine lv_iinc (v := nI (g + 1)) (lv' := [(2, .int (nI (g + 1))), (1, .int (nI (li + 1))), (0, .ref (ad 0))]) hx hb dX1_layDown_131 hl (k := 2) rfl (by exact nI_add g 1) (by decide) rfl (fun ls hl => ?_)
          refine lv_goto (tgt := 15) hx hb dX1_layDown_134 (by decide) ?_
          exact ih (g + 1) (li + 1) (q + 1) ((nu S q (x1 g))) ((nu R q g)) ((nu L q li)) (by omega) (by omega) (by omega) (by rw [ly, if_pos (by omega), if_neg (by omega), if_pos (by omega)] at hQ; exact hQ) _ _ hP hD hS _ (lv_sub hl [2, 1, 0] rfl)
      · have c_4 := (sb_eqN (by omega) (by omega)).mp c_4
        refine lv_iload_n hx hb dX1_layDown_34 rfl (lv_at hl 2 rfl) ?_
        refine lv_iconst (v := nI 1) hx hb dX1_layDown_35 (by decide) ?_
        refine lv_iadd hx hb dX1_layDown_36 ?_
        refine lv_topi (fun x_14 e_15 => ?_)
        obtain rfl : x_14 = nI (g + 1) := e_15.trans (nI_add g 1)
        refine lv_aload_n hx hb dX1_layDown_37 rfl (lv_at hl 0 rfl) ?_
        refine va_get (D := (dC, dI)) (ci := 1) (v := .int (nI (Y 0))) (C := RX1) (T := TX1) (N := 20) hx hb hts inX1 hown hK hP 0 rfl rfl 0 (by decide) (hts _ fl_X1_43) (fun _ h9 => h9) rfl dX1_layDown_38 ?_
        refine lv_icmp_ge (tgt := 67) hx hb dX1_layDown_41 (by decide) (fun c_16 => ?_) (fun c_16 => ?_)
        · have c_16 := (nI_leI (a := Y 0) (b := g + 1) (by omega) (by omega)).mp c_16
          refine lv_aload_n hx hb dX1_layDown_67 rfl (lv_at hl 0 rfl) ?_
          refine va_get (D := (dC, dI)) (ci := 1) (v := .ref (ad 2)) (C := RX1) (T := TX1) (N := 20) hx hb hts inX1 hown hK hP 0 rfl rfl 9 (by decide) (hts _ fl_X1_14) (fun _ h9 => h9) rfl dX1_layDown_68 ?_
          refine lv_aload_n hx hb dX1_layDown_71 rfl (lv_at hl 0 rfl) ?_
          refine va_get (D := (dC, dI)) (ci := 1) (v := .int (nI q)) (C := RX1) (T := TX1) (N := 20) hx hb hts inX1 hown hK hP 0 rfl rfl 8 (by decide) (hts _ fl_X1_107) (fun _ h9 => h9) rfl dX1_layDown_72 ?_
          refine lv_aload_n hx hb dX1_layDown_75 rfl (lv_at hl 0 rfl) ?_
          refine va_get (D := (dC, dI)) (ci := 1) (v := .ref (ad 1)) (C := RX1) (T := TX1) (N := 20) hx hb hts inX1 hown hK hP 0 rfl rfl 1 (by decide) (hts _ fl_X1_10) (fun _ h9 => h9) rfl dX1_layDown_76 ?_
          refine lv_iload_n hx hb dX1_layDown_79 rfl (lv_at hl 2 rfl) ?_
          refine va_bald hx hb hK hP 1 0 rfl rfl (vp_in_nI (by omega) (by decide)) dX1_layDown_80 ?_
          refine lv_topi (fun x_17 e_18 => ?_)
          obtain rfl : x_17 = sb_b (x1 g) := e_18.trans (by rw [nI_clamp (by omega)])
          have := h1 g
          refine va_bast hx hb hK hP hD hS 2 0 rfl rfl (vp_in_nI (by omega) (by decide)) dX1_layDown_81 (fun H locs hP hD hS => ?_)
          rw [nI_clamp (by omega), nu_b] at hP hD
          have hP : va_P (dC, dI) vwCl (rmW ct ad ((zu Y 8 q), x1, (nu S q (x1 g)), R, L, x5, x6, x7, x8, x9)) H := hP
          have hD : va_D A (rmW ct ad ((zu Y 8 q), x1, (nu S q (x1 g)), R, L, x5, x6, x7, x8, x9)) := hD
          refine lv_aload_n hx hb dX1_layDown_82 rfl (lv_at hl 0 rfl) ?_
          refine va_get (D := (dC, dI)) (ci := 1) (v := .ref (ad 3)) (C := RX1) (T := TX1) (N := 20) hx hb hts inX1 hown hK hP 0 rfl rfl 10 (by decide) (hts _ fl_X1_17) (fun _ h9 => h9) rfl dX1_layDown_83 ?_
          refine lv_aload_n hx hb dX1_layDown_86 rfl (lv_at hl 0 rfl) ?_
          refine va_get (D := (dC, dI)) (ci := 1) (v := .int (nI q)) (C := RX1) (T := TX1) (N := 20) hx hb hts inX1 hown hK hP 0 rfl rfl 8 (by decide) (hts _ fl_X1_107) (fun _ h9 => h9) rfl dX1_layDown_87 ?_
          refine lv_iload_n hx hb dX1_layDown_90 rfl (lv_at hl 2 rfl) ?_
          refine va_iast hx hb hK hP hD hS 3 1 rfl rfl (vp_in_nI (by omega) (by decide)) dX1_layDown_91 (fun H locs hP hD hS => ?_)
          rw [nI_clamp (by omega), nu_i] at hP hD
          have hP : va_P (dC, dI) vwCl (rmW ct ad ((zu Y 8 q), x1, (nu S q (x1 g)), (nu R q g), L, x5, x6, x7, x8, x9)) H := hP
          have hD : va_D A (rmW ct ad ((zu Y 8 q), x1, (nu S q (x1 g)), (nu R q g), L, x5, x6, x7, x8, x9)) := hD
          refine lv_aload_n hx hb dX1_layDown_92 rfl (lv_at hl 0 rfl) ?_
          refine va_get (D := (dC, dI)) (ci := 1) (v := .ref (ad 4)) (C := RX1) (T := TX1) (N := 20) hx hb hts inX1 hown hK hP 0 rfl rfl 11 (by decide) (hts _ fl_X1_21) (fun _ h9 => h9) rfl dX1_layDown_93 ?_
          refine lv_aload_n hx hb dX1_layDown_96 rfl (lv_at hl 0 rfl) ?_
          refine va_get (D := (dC, dI)) (ci := 1) (v := .int (nI q)) (C := RX1) (T := TX1) (N := 20) hx hb hts inX1 hown hK hP 0 rfl rfl 8 (by decide) (hts _ fl_X1_107) (fun _ h9 => h9) rfl dX1_layDown_97 ?_
          refine lv_iload_n hx hb dX1_layDown_100 rfl (lv_at hl 1 rfl) ?_
          refine va_iast hx hb hK hP hD hS 4 1 rfl rfl (vp_in_nI (by omega) (by decide)) dX1_layDown_101 (fun H locs hP hD hS => ?_)
          rw [nI_clamp (by omega), nu_i] at hP hD
          have hP : va_P (dC, dI) vwCl (rmW ct ad ((zu Y 8 q), x1, (nu S q (x1 g)), (nu R q g), (nu L q li), x5, x6, x7, x8, x9)) H := hP
          have hD : va_D A (rmW ct ad ((zu Y 8 q), x1, (nu S q (x1 g)), (nu R q g), (nu L q li), x5, x6, x7, x8, x9)) := hD
          refine lv_aload_n hx hb dX1_layDown_102 rfl (lv_at hl 0 rfl) ?_
          refine lv_dup hx hb dX1_layDown_103 rfl ?_
          refine va_get (D := (dC, dI)) (ci := 1) (v := .int (nI q)) (C := RX1) (T := TX1) (N := 20) hx hb hts inX1 hown hK hP 0 rfl rfl 8 (by decide) (hts _ fl_X1_107) (fun _ h9 => h9) rfl dX1_layDown_104 ?_
          refine lv_iconst (v := nI 1) hx hb dX1_layDown_107 (by decide) ?_
          refine lv_iadd hx hb dX1_layDown_108 ?_
          refine lv_topi (fun x_19 e_20 => ?_)
          obtain rfl : x_19 = nI (q + 1) := e_20.trans (nI_add q 1)
          refine va_put (D := (dC, dI)) (ci := 1) (v := .int (nI (q + 1))) (ty := .int) (C := RX1) (T := TX1) (N := 20) hx hb hts inX1 tyX1 okX1 nmX1 hown hK hP hD hS 0 rfl rfl 8 (by decide) (hts _ fl_X1_107) (fun _ h9 => h9) rfl (by decide +kernel) rfl rfl (Nat.le_of_ble_eq_true rfl) dX1_layDown_109 (fun H locs hP hD hS => ?_)
          have hP : va_P (dC, dI) vwCl (rmW ct ad ((zu Y 8 (q + 1)), x1, (nu S q (x1 g)), (nu R q g), (nu L q li), x5, x6, x7, x8, x9)) H := hP
          have hD : va_D A (rmW ct ad ((zu Y 8 (q + 1)), x1, (nu S q (x1 g)), (nu R q g), (nu L q li), x5, x6, x7, x8, x9)) := hD
          refine lv_aload_n hx hb dX1_layDown_112 rfl (lv_at hl 0 rfl) ?_
          refine va_get (D := (dC, dI)) (ci := 1) (v := .ref (ad 1)) (C := RX1) (T := TX1) (N := 20) hx hb hts inX1 hown hK hP 0 rfl rfl 1 (by decide) (hts _ fl_X1_10) (fun _ h9 => h9) rfl dX1_layDown_113 ?_
          refine lv_iload_n hx hb dX1_layDown_116 rfl (lv_at hl 2 rfl) ?_
          refine va_bald hx hb hK hP 1 0 rfl rfl (vp_in_nI (by omega) (by decide)) dX1_layDown_117 ?_
          refine lv_topi (fun x_21 e_22 => ?_)
          obtain rfl : x_21 = sb_b (x1 g) := e_22.trans (by rw [nI_clamp (by omega)])
          have := h1 g
          refine lv_bipush (v := nI 10) hx hb dX1_layDown_118 (by decide) ?_
          refine lv_icmp_ne (tgt := 129) hx hb dX1_layDown_120 (by decide) (fun c_23 => ?_) (fun c_23 => ?_)
          · have c_23 := mt (sb_eqN (by omega) (by omega)).mpr c_23
            refine lv_iload_n hx hb dX1_layDown_129 rfl (lv_at hl 1 rfl) ?_
            refine lv_istore_n (lv' := [(1, .int (nI li)), (0, .ref (ad 0)), (2, .int (nI g))]) hx hb dX1_layDown_130 rfl hl (by decide) rfl (fun ls hl => ?_)
            refine lv_iinc (v := nI (g + 1)) (lv' := [(2, .int (nI (g + 1))), (1, .int (nI li)), (0, .ref (ad 0))]) hx hb dX1_layDown_131 hl (k := 2) rfl (by exact nI_add g 1) (by decide) rfl (fun ls hl => ?_)
            refine lv_goto (tgt := 15) hx hb dX1_layDown_134 (by decide) ?_
            exact ih (g + 1) li (q + 1) ((nu S q (x1 g))) ((nu R q g)) ((nu L q li)) (by omega) (by omega) (by omega) (by rw [ly, if_pos (by omega), if_neg (by omega), if_neg (by omega)] at hQ; exact hQ) _ _ hP hD hS _ (lv_sub hl [2, 1, 0] rfl)
          · have c_23 := (sb_eqN (by omega) (by omega)).mp c_23
            refine lv_iload_n hx hb dX1_layDown_123 rfl (lv_at hl 1 rfl) ?_
            refine lv_iconst (v := nI 1) hx hb dX1_layDown_124 (by decide) ?_
            refine lv_iadd hx hb dX1_layDown_125 ?_
            refine lv_topi (fun x_24 e_25 => ?_)
            obtain rfl : x_24 = nI (li + 1) := e_25.trans (nI_add li 1)
            refine lv_goto (tgt := 130) hx hb dX1_layDown_126 (by decide) ?_
            refine lv_istore_n (lv' := [(1, .int (nI (li + 1))), (0, .ref (ad 0)), (2, .int (nI g))]) hx hb dX1_layDown_130 rfl hl (by decide) rfl (fun ls hl => ?_)
            refine lv_iinc (v := nI (g + 1)) (lv' := [(2, .int (nI (g + 1))), (1, .int (nI (li + 1))), (0, .ref (ad 0))]) hx hb dX1_layDown_131 hl (k := 2) rfl (by exact nI_add g 1) (by decide) rfl (fun ls hl => ?_)
            refine lv_goto (tgt := 15) hx hb dX1_layDown_134 (by decide) ?_
            exact ih (g + 1) (li + 1) (q + 1) ((nu S q (x1 g))) ((nu R q g)) ((nu L q li)) (by omega) (by omega) (by omega) (by rw [ly, if_pos (by omega), if_neg (by omega), if_pos (by omega)] at hQ; exact hQ) _ _ hP hD hS _ (lv_sub hl [2, 1, 0] rfl)
        · have c_16 := mt (nI_leI (a := Y 0) (b := g + 1) (by omega) (by omega)).mpr c_16
          refine lv_aload_n hx hb dX1_layDown_44 rfl (lv_at hl 0 rfl) ?_
          refine va_get (D := (dC, dI)) (ci := 1) (v := .ref (ad 1)) (C := RX1) (T := TX1) (N := 20) hx hb hts inX1 hown hK hP 0 rfl rfl 1 (by decide) (hts _ fl_X1_10) (fun _ h9 => h9) rfl dX1_layDown_45 ?_
          refine lv_iload_n hx hb dX1_layDown_48 rfl (lv_at hl 2 rfl) ?_
          refine lv_iconst (v := nI 1) hx hb dX1_layDown_49 (by decide) ?_
          refine lv_iadd hx hb dX1_layDown_50 ?_
          refine lv_topi (fun x_26 e_27 => ?_)
          obtain rfl : x_26 = nI (g + 1) := e_27.trans (nI_add g 1)
          refine va_bald hx hb hK hP 1 0 rfl rfl (vp_in_nI (by omega) (by decide)) dX1_layDown_51 ?_
          refine lv_topi (fun x_28 e_29 => ?_)
          obtain rfl : x_28 = sb_b (x1 (g + 1)) := e_29.trans (by rw [nI_clamp (by omega)])
          have := h1 (g + 1)
          refine lv_bipush (v := nI 10) hx hb dX1_layDown_52 (by decide) ?_
          refine lv_icmp_ne (tgt := 67) hx hb dX1_layDown_54 (by decide) (fun c_30 => ?_) (fun c_30 => ?_)
          · have c_30 := mt (sb_eqN (by omega) (by omega)).mpr c_30
            refine lv_aload_n hx hb dX1_layDown_67 rfl (lv_at hl 0 rfl) ?_
            refine va_get (D := (dC, dI)) (ci := 1) (v := .ref (ad 2)) (C := RX1) (T := TX1) (N := 20) hx hb hts inX1 hown hK hP 0 rfl rfl 9 (by decide) (hts _ fl_X1_14) (fun _ h9 => h9) rfl dX1_layDown_68 ?_
            refine lv_aload_n hx hb dX1_layDown_71 rfl (lv_at hl 0 rfl) ?_
            refine va_get (D := (dC, dI)) (ci := 1) (v := .int (nI q)) (C := RX1) (T := TX1) (N := 20) hx hb hts inX1 hown hK hP 0 rfl rfl 8 (by decide) (hts _ fl_X1_107) (fun _ h9 => h9) rfl dX1_layDown_72 ?_
            refine lv_aload_n hx hb dX1_layDown_75 rfl (lv_at hl 0 rfl) ?_
            refine va_get (D := (dC, dI)) (ci := 1) (v := .ref (ad 1)) (C := RX1) (T := TX1) (N := 20) hx hb hts inX1 hown hK hP 0 rfl rfl 1 (by decide) (hts _ fl_X1_10) (fun _ h9 => h9) rfl dX1_layDown_76 ?_
            refine lv_iload_n hx hb dX1_layDown_79 rfl (lv_at hl 2 rfl) ?_
            refine va_bald hx hb hK hP 1 0 rfl rfl (vp_in_nI (by omega) (by decide)) dX1_layDown_80 ?_
            refine lv_topi (fun x_31 e_32 => ?_)
            obtain rfl : x_31 = sb_b (x1 g) := e_32.trans (by rw [nI_clamp (by omega)])
            have := h1 g
            refine va_bast hx hb hK hP hD hS 2 0 rfl rfl (vp_in_nI (by omega) (by decide)) dX1_layDown_81 (fun H locs hP hD hS => ?_)
            rw [nI_clamp (by omega), nu_b] at hP hD
            have hP : va_P (dC, dI) vwCl (rmW ct ad ((zu Y 8 q), x1, (nu S q (x1 g)), R, L, x5, x6, x7, x8, x9)) H := hP
            have hD : va_D A (rmW ct ad ((zu Y 8 q), x1, (nu S q (x1 g)), R, L, x5, x6, x7, x8, x9)) := hD
            refine lv_aload_n hx hb dX1_layDown_82 rfl (lv_at hl 0 rfl) ?_
            refine va_get (D := (dC, dI)) (ci := 1) (v := .ref (ad 3)) (C := RX1) (T := TX1) (N := 20) hx hb hts inX1 hown hK hP 0 rfl rfl 10 (by decide) (hts _ fl_X1_17) (fun _ h9 => h9) rfl dX1_layDown_83 ?_
            refine lv_aload_n hx hb dX1_layDown_86 rfl (lv_at hl 0 rfl) ?_
            refine va_get (D := (dC, dI)) (ci := 1) (v := .int (nI q)) (C := RX1) (T := TX1) (N := 20) hx hb hts inX1 hown hK hP 0 rfl rfl 8 (by decide) (hts _ fl_X1_107) (fun _ h9 => h9) rfl dX1_layDown_87 ?_
            refine lv_iload_n hx hb dX1_layDown_90 rfl (lv_at hl 2 rfl) ?_
            refine va_iast hx hb hK hP hD hS 3 1 rfl rfl (vp_in_nI (by omega) (by decide)) dX1_layDown_91 (fun H locs hP hD hS => ?_)
            rw [nI_clamp (by omega), nu_i] at hP hD
            have hP : va_P (dC, dI) vwCl (rmW ct ad ((zu Y 8 q), x1, (nu S q (x1 g)), (nu R q g), L, x5, x6, x7, x8, x9)) H := hP
            have hD : va_D A (rmW ct ad ((zu Y 8 q), x1, (nu S q (x1 g)), (nu R q g), L, x5, x6, x7, x8, x9)) := hD
            refine lv_aload_n hx hb dX1_layDown_92 rfl (lv_at hl 0 rfl) ?_
            refine va_get (D := (dC, dI)) (ci := 1) (v := .ref (ad 4)) (C := RX1) (T := TX1) (N := 20) hx hb hts inX1 hown hK hP 0 rfl rfl 11 (by decide) (hts _ fl_X1_21) (fun _ h9 => h9) rfl dX1_layDown_93 ?_
            refine lv_aload_n hx hb dX1_layDown_96 rfl (lv_at hl 0 rfl) ?_
            refine va_get (D := (dC, dI)) (ci := 1) (v := .int (nI q)) (C := RX1) (T := TX1) (N := 20) hx hb hts inX1 hown hK hP 0 rfl rfl 8 (by decide) (hts _ fl_X1_107) (fun _ h9 => h9) rfl dX1_layDown_97 ?_
            refine lv_iload_n hx hb dX1_layDown_100 rfl (lv_at hl 1 rfl) ?_
            refine va_iast hx hb hK hP hD hS 4 1 rfl rfl (vp_in_nI (by omega) (by decide)) dX1_layDown_101 (fun H locs hP hD hS => ?_)
            rw [nI_clamp (by omega), nu_i] at hP hD
            have hP : va_P (dC, dI) vwCl (rmW ct ad ((zu Y 8 q), x1, (nu S q (x1 g)), (nu R q g), (nu L q li), x5, x6, x7, x8, x9)) H := hP
            have hD : va_D A (rmW ct ad ((zu Y 8 q), x1, (nu S q (x1 g)), (nu R q g), (nu L q li), x5, x6, x7, x8, x9)) := hD
            refine lv_aload_n hx hb dX1_layDown_102 rfl (lv_at hl 0 rfl) ?_
            refine lv_dup hx hb dX1_layDown_103 rfl ?_
            refine va_get (D := (dC, dI)) (ci := 1) (v := .int (nI q)) (C := RX1) (T := TX1) (N := 20) hx hb hts inX1 hown hK hP 0 rfl rfl 8 (by decide) (hts _ fl_X1_107) (fun _ h9 => h9) rfl dX1_layDown_104 ?_
            refine lv_iconst (v := nI 1) hx hb dX1_layDown_107 (by decide) ?_
            refine lv_iadd hx hb dX1_layDown_108 ?_
            refine lv_topi (fun x_33 e_34 => ?_)
            obtain rfl : x_33 = nI (q + 1) := e_34.trans (nI_add q 1)
            refine va_put (D := (dC, dI)) (ci := 1) (v := .int (nI (q + 1))) (ty := .int) (C := RX1) (T := TX1) (N := 20) hx hb hts inX1 tyX1 okX1 nmX1 hown hK hP hD hS 0 rfl rfl 8 (by decide) (hts _ fl_X1_107) (fun _ h9 => h9) rfl (by decide +kernel) rfl rfl (Nat.le_of_ble_eq_true rfl) dX1_layDown_109 (fun H locs hP hD hS => ?_)
            have hP : va_P (dC, dI) vwCl (rmW ct ad ((zu Y 8 (q + 1)), x1, (nu S q (x1 g)), (nu R q g), (nu L q li), x5, x6, x7, x8, x9)) H := hP
            have hD : va_D A (rmW ct ad ((zu Y 8 (q + 1)), x1, (nu S q (x1 g)), (nu R q g), (nu L q li), x5, x6, x7, x8, x9)) := hD
            refine lv_aload_n hx hb dX1_layDown_112 rfl (lv_at hl 0 rfl) ?_
            refine va_get (D := (dC, dI)) (ci := 1) (v := .ref (ad 1)) (C := RX1) (T := TX1) (N := 20) hx hb hts inX1 hown hK hP 0 rfl rfl 1 (by decide) (hts _ fl_X1_10) (fun _ h9 => h9) rfl dX1_layDown_113 ?_
            refine lv_iload_n hx hb dX1_layDown_116 rfl (lv_at hl 2 rfl) ?_
            refine va_bald hx hb hK hP 1 0 rfl rfl (vp_in_nI (by omega) (by decide)) dX1_layDown_117 ?_
            refine lv_topi (fun x_35 e_36 => ?_)
            obtain rfl : x_35 = sb_b (x1 g) := e_36.trans (by rw [nI_clamp (by omega)])
            have := h1 g
            refine lv_bipush (v := nI 10) hx hb dX1_layDown_118 (by decide) ?_
            refine lv_icmp_ne (tgt := 129) hx hb dX1_layDown_120 (by decide) (fun c_37 => ?_) (fun c_37 => ?_)
            · have c_37 := mt (sb_eqN (by omega) (by omega)).mpr c_37
              refine lv_iload_n hx hb dX1_layDown_129 rfl (lv_at hl 1 rfl) ?_
              refine lv_istore_n (lv' := [(1, .int (nI li)), (0, .ref (ad 0)), (2, .int (nI g))]) hx hb dX1_layDown_130 rfl hl (by decide) rfl (fun ls hl => ?_)
              refine lv_iinc (v := nI (g + 1)) (lv' := [(2, .int (nI (g + 1))), (1, .int (nI li)), (0, .ref (ad 0))]) hx hb dX1_layDown_131 hl (k := 2) rfl (by exact nI_add g 1) (by decide) rfl (fun ls hl => ?_)
              refine lv_goto (tgt := 15) hx hb dX1_layDown_134 (by decide) ?_
              exact ih (g + 1) li (q + 1) ((nu S q (x1 g))) ((nu R q g)) ((nu L q li)) (by omega) (by omega) (by omega) (by rw [ly, if_pos (by omega), if_neg (by omega), if_neg (by omega)] at hQ; exact hQ) _ _ hP hD hS _ (lv_sub hl [2, 1, 0] rfl)
            · have c_37 := (sb_eqN (by omega) (by omega)).mp c_37
              refine lv_iload_n hx hb dX1_layDown_123 rfl (lv_at hl 1 rfl) ?_
              refine lv_iconst (v := nI 1) hx hb dX1_layDown_124 (by decide) ?_
              refine lv_iadd hx hb dX1_layDown_125 ?_
              refine lv_topi (fun x_38 e_39 => ?_)
              obtain rfl : x_38 = nI (li + 1) := e_39.trans (nI_add li 1)
              refine lv_goto (tgt := 130) hx hb dX1_layDown_126 (by decide) ?_
              refine lv_istore_n (lv' := [(1, .int (nI (li + 1))), (0, .ref (ad 0)), (2, .int (nI g))]) hx hb dX1_layDown_130 rfl hl (by decide) rfl (fun ls hl => ?_)
              refine lv_iinc (v := nI (g + 1)) (lv' := [(2, .int (nI (g + 1))), (1, .int (nI (li + 1))), (0, .ref (ad 0))]) hx hb dX1_layDown_131 hl (k := 2) rfl (by exact nI_add g 1) (by decide) rfl (fun ls hl => ?_)
              refine lv_goto (tgt := 15) hx hb dX1_layDown_134 (by decide) ?_
              exact ih (g + 1) (li + 1) (q + 1) ((nu S q (x1 g))) ((nu R q g)) ((nu L q li)) (by omega) (by omega) (by omega) (by rw [ly, if_pos (by omega), if_neg (by omega), if_pos (by omega)] at hQ; exact hQ) _ _ hP hD hS _ (lv_sub hl [2, 1, 0] rfl)
          · have c_30 := (sb_eqN (by omega) (by omega)).mp c_30
            refine lv_iinc (v := nI (li + 1)) (lv' := [(1, .int (nI (li + 1))), (0, .ref (ad 0)), (2, .int (nI g))]) hx hb dX1_layDown_57 hl (k := 1) rfl (by exact nI_add li 1) (by decide) rfl (fun ls hl => ?_)
            refine lv_iload_n hx hb dX1_layDown_60 rfl (lv_at hl 2 rfl) ?_
            refine lv_iconst (v := nI 2) hx hb dX1_layDown_61 (by decide) ?_
            refine lv_iadd hx hb dX1_layDown_62 ?_
            refine lv_topi (fun x_40 e_41 => ?_)
            obtain rfl : x_40 = nI (g + 2) := e_41.trans (nI_add g 2)
            refine lv_istore_n (lv' := [(2, .int (nI (g + 2))), (1, .int (nI (li + 1))), (0, .ref (ad 0))]) hx hb dX1_layDown_63 rfl hl (by decide) rfl (fun ls hl => ?_)
            refine lv_goto (tgt := 15) hx hb dX1_layDown_64 (by decide) ?_
            exact ih (g + 2) (li + 1) q S R L (by omega) (by omega) (by omega) (by rw [ly, if_pos (by omega), if_pos (by omega)] at hQ; exact hQ) _ _ hP hD hS _ (lv_sub hl [2, 1, 0] rfl)
set_option maxHeartbeats 4000000 in
set_option maxRecDepth 100000 in
theorem r_layDown (l : Launch) (dC : Nat → ClassId) (dI : Nat → Nat → Nat) (ct : Nat → ClassId) (ad : Nat → Nat) (sz : Nat) (Y x1 x2 x3 x4 x5 x6 x7 x8 x9 : Nat → Nat)  (hn : Y 0 ≤ 32768) (h1 : ∀ j, x1 j < 256) (h3 : Y 2 ≤ Y 0) : Met l yX1_layDown wX1_layDown ({ frames := 0, cells := 0, slots := 0, locals := 0 }) (va_Pc [.ref (ad 0)] (rmP dC dI ct ad sz (Y, x1, x2, x3, x4, x5, x6, x7, x8, x9))) (va_Qv (fun (u : rmU) => u = (zu (zu Y 8 (ly x1 (Y 0) 32769 (Y 2) (Y 3) 0 x2 x3 x4).2.1) 12 (ly x1 (Y 0) 32769 (Y 2) (Y 3) 0 x2 x3 x4).1, x1, (ly x1 (Y 0) 32769 (Y 2) (Y 3) 0 x2 x3 x4).2.2.1, (ly x1 (Y 0) 32769 (Y 2) (Y 3) 0 x2 x3 x4).2.2.2.1, (ly x1 (Y 0) 32769 (Y 2) (Y 3) 0 x2 x3 x4).2.2.2.2, x5, x6, x7, x8, x9)) (rmB dC dI ct ad (va_A (rmW ct ad (Y, x1, x2, x3, x4, x5, x6, x7, x8, x9)) sz)) (va_A (rmW ct ad (Y, x1, x2, x3, x4, x5, x6, x7, x8, x9)) sz)) 0 0 (va_A (rmW ct ad (Y, x1, x2, x3, x4, x5, x6, x7, x8, x9)) sz) := by
  refine Met.ofW (cc := cX1_layDown) (maxL := 3) (ret := none) (by decide) rfl ?_
  intro p e s m args below meth c s₁ B hml hv
  obtain ⟨rfl, hsz, hP, hK, hD0⟩ := hv
  have hx := B.exec
  have hb := B.bytes
  have hr := B.returns
  have hts : ∀ w ∈ bw, w.before _ s = true := fun w h => atoms_spec (ws := wX1_layDown) B.pre w (bc w h)
  have hown : s.vm.findClass RX1 = some m.cls := findClass_of_methodNamed B.named
  have hlocks := B.notSynchronized
  subst hsz
  have hD := hD0.self (sz := s.heap.size)
  generalize hAe : va_A (rmW ct ad (Y, x1, x2, x3, x4, x5, x6, x7, x8, x9)) s.heap.size = A at hD ⊢
  have hA : ∀ q : Nat, s.heap.size ≤ q → A q := fun q h => by rw [← hAe]; exact Or.inr h
  have hS : va_S A s.heap s.heap [] := va_S.rf
  have hl := lv_entry ([.ref (ad 0)]) (n := 3) (Nat.le_of_ble_eq_true rfl)
  rw [lg_entry_eq]
  generalize (lg_sl ([.ref (ad 0)]) ++ List.replicate (3 - (lg_sl ([.ref (ad 0)])).length) Slot.unset).toArray = ls at hl ⊢
  have hl : lv_has ls 3 [(0, .ref (ad 0))] := hl
  refine lv_aload_n hx hb dX1_layDown_0 rfl (lv_at hl 0 rfl) ?_
  refine lv_iconst (v := nI 0) hx hb dX1_layDown_1 (by decide) ?_
  refine va_put (D := (dC, dI)) (ci := 1) (v := .int (nI 0)) (ty := .int) (C := RX1) (T := TX1) (N := 20) hx hb hts inX1 tyX1 okX1 nmX1 hown hK hP hD hS 0 rfl rfl 8 (by decide) (hts _ fl_X1_107) (fun _ h9 => h9) rfl (by decide +kernel) rfl rfl (Nat.le_of_ble_eq_true rfl) dX1_layDown_2 (fun H locs hP hD hS => ?_)
  have hP : va_P (dC, dI) vwCl (rmW ct ad ((zu Y 8 0), x1, x2, x3, x4, x5, x6, x7, x8, x9)) H := hP
  have hD : va_D A (rmW ct ad ((zu Y 8 0), x1, x2, x3, x4, x5, x6, x7, x8, x9)) := hD
  refine lv_aload_n hx hb dX1_layDown_5 rfl (lv_at hl 0 rfl) ?_
  refine va_get (D := (dC, dI)) (ci := 1) (v := .int (nI (Y 3))) (C := RX1) (T := TX1) (N := 20) hx hb hts inX1 hown hK hP 0 rfl rfl 3 (by decide) (hts _ fl_X1_50) (fun _ h9 => h9) rfl dX1_layDown_6 ?_
  refine lv_istore_n (lv' := [(1, .int (nI (Y 3))), (0, .ref (ad 0))]) hx hb dX1_layDown_9 rfl hl (by decide) rfl (fun ls hl => ?_)
  refine lv_aload_n hx hb dX1_layDown_10 rfl (lv_at hl 1 rfl) ?_
  refine va_get (D := (dC, dI)) (ci := 1) (v := .int (nI (Y 2))) (C := RX1) (T := TX1) (N := 20) hx hb hts inX1 hown hK hP 0 rfl rfl 2 (by decide) (hts _ fl_X1_47) (fun _ h9 => h9) rfl dX1_layDown_11 ?_
  refine lv_istore_n (lv' := [(2, .int (nI (Y 2))), (1, .int (nI (Y 3))), (0, .ref (ad 0))]) hx hb dX1_layDown_14 rfl hl (by decide) rfl (fun ls hl => ?_)
  exact q_layDown_15 (x2 := x2) (x3 := x3) (x4 := x4) hx hb hr hml hown hts hlocks hK hA hn h1 (fun u => u = (zu (zu Y 8 (ly x1 (Y 0) 32769 (Y 2) (Y 3) 0 x2 x3 x4).2.1) 12 (ly x1 (Y 0) 32769 (Y 2) (Y 3) 0 x2 x3 x4).1, x1, (ly x1 (Y 0) 32769 (Y 2) (Y 3) 0 x2 x3 x4).2.2.1, (ly x1 (Y 0) 32769 (Y 2) (Y 3) 0 x2 x3 x4).2.2.2.1, (ly x1 (Y 0) 32769 (Y 2) (Y 3) 0 x2 x3 x4).2.2.2.2, x5, x6, x7, x8, x9)) 32769 (Y 2) (Y 3) 0 x2 x3 x4 (by omega) (by omega) (by omega) rfl _ _ hP hD hS _ (lv_sub hl [2, 1, 0] rfl)
set_option maxHeartbeats 4000000 in
set_option maxRecDepth 100000 in
theorem q_keep_51 {p : Program} {l : Launch} {e : Env} {s : State} {m : MethodId} {args : Array Value} {below : List Frame} {meth : Method} {c : Code} (hx : p.tables.exec = Jvm.exec) (hb : c.code = cX1_keep) (hr : meth.sig.returnType = none) (hml : c.maxLocals = 5) (hown : s.vm.findClass RX1 = some m.cls) (hts : ∀ w ∈ bw, w.before args s = true) (hlocks : meth.locks = false) {A : Nat → Prop} {dC : Nat → ClassId} {dI : Nat → Nat → Nat} {ct : Nat → ClassId} {ad : Nat → Nat} {Y x1 x2 x3 x4 x5 x6 x7 x8 x9 : Nat → Nat} (hK : va_K (dC, dI) vwCl (rmT ct) s) (hA : ∀ q, s.heap.size ≤ q → A q) (g n : Nat) (hsp : Y 18 + n ≤ 32768) (hgn : g + n ≤ 32768) (h2 : ∀ j, x2 j < 256) (hc : Y 13 < 8000) (P : rmU → Prop) : ∀ (k : Nat) (i : Nat), (n - i) < k → (i ≤ n) → P (zu (zu Y 13 (Y 13 + 1)) 18 (Y 18 + n), x1, x2, x3, x4, x5, x6, x7, x8, cpG (fun i => x2 (g + i)) (Y 18) n x9) → ∀ (H : Heap) (locs : List Loc), va_P (dC, dI) vwCl (rmW ct ad ((zu Y 18 (Y 18 + i)), x1, x2, x3, x4, x5, x6, x7, x8, (cpG (fun i => x2 (g + i)) (Y 18) i x9))) H → va_D A (rmW ct ad ((zu Y 18 (Y 18 + i)), x1, x2, x3, x4, x5, x6, x7, x8, (cpG (fun i => x2 (g + i)) (Y 18) i x9))) → va_S A s.heap H locs → ∀ ls, lv_has ls 5 [(0, .ref (ad 0)), (1, .int (nI g)), (2, .int (nI n)), (4, .int (nI i))] → W p l e (headSpec wX1_keep ({ frames := 0, cells := 0, slots := 0, locals := 0 })).room s m args below meth c H locs 0 0 (MQ below (va_Qv P (rmB dC dI ct ad A) A) args s 0 0 A) (F0 m 51 ls []) := by
  intro k
  induction k with
  | zero => intro i hk; exact absurd hk (by omega)
  | succ k ih =>
    intro i hk hi hQ H locs hP hD hS ls hl
    refine lv_iload hx hb dX1_keep_51 (lv_at hl 3 rfl) ?_
    refine lv_iload_n hx hb dX1_keep_53 rfl (lv_at hl 2 rfl) ?_
    refine lv_icmp_ge (tgt := 91) hx hb dX1_keep_54 (by decide) (fun c_1 => ?_) (fun c_1 => ?_)
    · have c_1 := (nI_leI (a := n) (b := i) (by omega) (by omega)).mp c_1
      refine lv_aload_n hx hb dX1_keep_91 rfl (lv_at hl 0 rfl) ?_
      refine lv_dup hx hb dX1_keep_92 rfl ?_
      refine va_get (D := (dC, dI)) (ci := 1) (v := .int (nI (Y 13))) (C := RX1) (T := TX1) (N := 20) hx hb hts inX1 hown hK hP 0 rfl rfl 13 (by decide) (hts _ fl_X1_66) (fun _ h9 => h9) rfl dX1_keep_93 ?_
      refine lv_iconst (v := nI 1) hx hb dX1_keep_96 (by decide) ?_
      refine lv_iadd hx hb dX1_keep_97 ?_
      refine lv_topi (fun x_2 e_3 => ?_)
      obtain rfl : x_2 = nI (Y 13 + 1) := e_3.trans (nI_add (Y 13) 1)
      refine va_put (D := (dC, dI)) (ci := 1) (v := .int (nI (Y 13 + 1))) (ty := .int) (C := RX1) (T := TX1) (N := 20) hx hb hts inX1 tyX1 okX1 nmX1 hown hK hP hD hS 0 rfl rfl 13 (by decide) (hts _ fl_X1_66) (fun _ h9 => h9) rfl (by decide +kernel) rfl rfl (Nat.le_of_ble_eq_true rfl) dX1_keep_98 (fun H locs hP hD hS => ?_)
      have hP : va_P (dC, dI) vwCl (rmW ct ad ((zu (zu Y 13 (Y 13 + 1)) 18 (Y 18 + i)), x1, x2, x3, x4, x5, x6, x7, x8, (cpG (fun i => x2 (g + i)) (Y 18) i x9))) H := hP
      have hD : va_D A (rmW ct ad ((zu (zu Y 13 (Y 13 + 1)) 18 (Y 18 + i)), x1, x2, x3, x4, x5, x6, x7, x8, (cpG (fun i => x2 (g + i)) (Y 18) i x9))) := hD
      exact W.vret hx hb hr (fun t ht hW => ⟨⟨((zu (zu Y 13 (Y 13 + 1)) 18 (Y 18 + i)), x1, x2, x3, x4, x5, x6, x7, x8, (cpG (fun i => x2 (g + i)) (Y 18) i x9)), rfl, (by rw [show n = i by omega] at hQ; exact hQ), by rw [ht]; exact hP, va_K.moved hW.alike hK, hD⟩, hS.F ht⟩) hS.2.2 dX1_keep_101
    · have c_1 := mt (nI_leI (a := n) (b := i) (by omega) (by omega)).mpr c_1
      refine lv_aload_n hx hb dX1_keep_57 rfl (lv_at hl 0 rfl) ?_
      refine va_get (D := (dC, dI)) (ci := 1) (v := .ref (ad 9)) (C := RX1) (T := TX1) (N := 20) hx hb hts inX1 hown hK hP 0 rfl rfl 19 (by decide) (hts _ fl_X1_37) (fun _ h9 => h9) rfl dX1_keep_58 ?_
      refine lv_aload_n hx hb dX1_keep_61 rfl (lv_at hl 0 rfl) ?_
      refine va_get (D := (dC, dI)) (ci := 1) (v := .int (nI (Y 18 + i))) (C := RX1) (T := TX1) (N := 20) hx hb hts inX1 hown hK hP 0 rfl rfl 18 (by decide) (hts _ fl_X1_113) (fun _ h9 => h9) rfl dX1_keep_62 ?_
      refine lv_aload_n hx hb dX1_keep_65 rfl (lv_at hl 0 rfl) ?_
      refine va_get (D := (dC, dI)) (ci := 1) (v := .ref (ad 2)) (C := RX1) (T := TX1) (N := 20) hx hb hts inX1 hown hK hP 0 rfl rfl 9 (by decide) (hts _ fl_X1_14) (fun _ h9 => h9) rfl dX1_keep_66 ?_
      refine lv_iload_n hx hb dX1_keep_69 rfl (lv_at hl 1 rfl) ?_
      refine lv_iload hx hb dX1_keep_70 (lv_at hl 3 rfl) ?_
      refine lv_iadd hx hb dX1_keep_72 ?_
      refine lv_topi (fun x_4 e_5 => ?_)
      obtain rfl : x_4 = nI (g + i) := e_5.trans (nI_add g i)
      refine va_bald hx hb hK hP 2 0 rfl rfl (vp_in_nI (by omega) (by decide)) dX1_keep_73 ?_
      refine lv_topi (fun x_6 e_7 => ?_)
      obtain rfl : x_6 = sb_b (x2 (g + i)) := e_7.trans (by rw [nI_clamp (by omega)])
      have := h2 (g + i)
      refine va_bast hx hb hK hP hD hS 9 0 rfl rfl (vp_in_nI (by omega) (by decide)) dX1_keep_74 (fun H locs hP hD hS => ?_)
      rw [nI_clamp (by omega), nu_b] at hP hD
      have hP : va_P (dC, dI) vwCl (rmW ct ad ((zu Y 18 (Y 18 + i)), x1, x2, x3, x4, x5, x6, x7, x8, (nu ((cpG (fun i => x2 (g + i)) (Y 18) i x9)) (Y 18 + i) (x2 (g + i))))) H := hP
      have hD : va_D A (rmW ct ad ((zu Y 18 (Y 18 + i)), x1, x2, x3, x4, x5, x6, x7, x8, (nu ((cpG (fun i => x2 (g + i)) (Y 18) i x9)) (Y 18 + i) (x2 (g + i))))) := hD
      refine lv_aload_n hx hb dX1_keep_75 rfl (lv_at hl 0 rfl) ?_
      refine lv_dup hx hb dX1_keep_76 rfl ?_
      refine va_get (D := (dC, dI)) (ci := 1) (v := .int (nI (Y 18 + i))) (C := RX1) (T := TX1) (N := 20) hx hb hts inX1 hown hK hP 0 rfl rfl 18 (by decide) (hts _ fl_X1_113) (fun _ h9 => h9) rfl dX1_keep_77 ?_
      refine lv_iconst (v := nI 1) hx hb dX1_keep_80 (by decide) ?_
      refine lv_iadd hx hb dX1_keep_81 ?_
      refine lv_topi (fun x_8 e_9 => ?_)
      obtain rfl : x_8 = nI (Y 18 + i + 1) := e_9.trans (nI_add (Y 18 + i) 1)
      refine va_put (D := (dC, dI)) (ci := 1) (v := .int (nI (Y 18 + i + 1))) (ty := .int) (C := RX1) (T := TX1) (N := 20) hx hb hts inX1 tyX1 okX1 nmX1 hown hK hP hD hS 0 rfl rfl 18 (by decide) (hts _ fl_X1_113) (fun _ h9 => h9) rfl (by decide +kernel) rfl rfl (Nat.le_of_ble_eq_true rfl) dX1_keep_82 (fun H locs hP hD hS => ?_)
      have hP : va_P (dC, dI) vwCl (rmW ct ad ((zu Y 18 (Y 18 + i + 1)), x1, x2, x3, x4, x5, x6, x7, x8, (nu ((cpG (fun i => x2 (g + i)) (Y 18) i x9)) (Y 18 + i) (x2 (g + i))))) H := hP
      have hD : va_D A (rmW ct ad ((zu Y 18 (Y 18 + i + 1)), x1, x2, x3, x4, x5, x6, x7, x8, (nu ((cpG (fun i => x2 (g + i)) (Y 18) i x9)) (Y 18 + i) (x2 (g + i))))) := hD
      refine lv_iinc (v := nI (i + 1)) (lv' := [(4, .int (nI (i + 1))), (0, .ref (ad 0)), (1, .int (nI g)), (2, .int (nI n))]) hx hb dX1_keep_85 hl (k := 3) rfl (by exact nI_add i 1) (by decide) rfl (fun ls hl => ?_)
      refine lv_goto (tgt := 51) hx hb dX1_keep_88 (by decide) ?_
      rw [cpG_s (fun i => x2 (g + i))] at hP hD
      exact ih (i + 1) (by omega) (by omega) hQ _ _ hP hD hS _ (lv_sub hl [1, 2, 3, 0] rfl)
set_option maxHeartbeats 4000000 in
set_option maxRecDepth 100000 in
theorem r_keep (l : Launch) (dC : Nat → ClassId) (dI : Nat → Nat → Nat) (ct : Nat → ClassId) (ad : Nat → Nat) (sz : Nat) (Y x1 x2 x3 x4 x5 x6 x7 x8 x9 : Nat → Nat) (g : Nat) (n : Nat) (bf : Nat) (hg : g < 32768) (hsp : Y 18 + n ≤ 32768) (hgn : g + n ≤ 32768) (h2 : ∀ j, x2 j < 256) (hc : Y 13 < 8000) (hbf : bf ≤ 1) : Met l yX1_keep wX1_keep ({ frames := 0, cells := 0, slots := 0, locals := 0 }) (va_Pc [.ref (ad 0), .int (nI g), .int (nI n), .int (nI bf)] (rmP dC dI ct ad sz (Y, x1, x2, x3, x4, x5, x6, x7, x8, x9))) (va_Qv (fun (u : rmU) => u = (zu (zu Y 13 (Y 13 + 1)) 18 (Y 18 + n), x1, x2, x3, x4, nu x5 (Y 13) (Y 18), nu x6 (Y 13) n, nu x7 (Y 13) (x4 g), nu x8 (Y 13) bf, cpG (fun i => x2 (g + i)) (Y 18) n x9)) (rmB dC dI ct ad (va_A (rmW ct ad (Y, x1, x2, x3, x4, x5, x6, x7, x8, x9)) sz)) (va_A (rmW ct ad (Y, x1, x2, x3, x4, x5, x6, x7, x8, x9)) sz)) 0 0 (va_A (rmW ct ad (Y, x1, x2, x3, x4, x5, x6, x7, x8, x9)) sz) := by
  refine Met.ofW (cc := cX1_keep) (maxL := 5) (ret := none) (by decide) rfl ?_
  intro p e s m args below meth c s₁ B hml hv
  obtain ⟨rfl, hsz, hP, hK, hD0⟩ := hv
  have hx := B.exec
  have hb := B.bytes
  have hr := B.returns
  have hts : ∀ w ∈ bw, w.before _ s = true := fun w h => atoms_spec (ws := wX1_keep) B.pre w (bc w h)
  have hown : s.vm.findClass RX1 = some m.cls := findClass_of_methodNamed B.named
  have hlocks := B.notSynchronized
  subst hsz
  have hD := hD0.self (sz := s.heap.size)
  generalize hAe : va_A (rmW ct ad (Y, x1, x2, x3, x4, x5, x6, x7, x8, x9)) s.heap.size = A at hD ⊢
  have hA : ∀ q : Nat, s.heap.size ≤ q → A q := fun q h => by rw [← hAe]; exact Or.inr h
  have hS : va_S A s.heap s.heap [] := va_S.rf
  have hl := lv_entry ([.ref (ad 0), .int (nI g), .int (nI n), .int (nI bf)]) (n := 5) (Nat.le_of_ble_eq_true rfl)
  rw [lg_entry_eq]
  generalize (lg_sl ([.ref (ad 0), .int (nI g), .int (nI n), .int (nI bf)]) ++ List.replicate (5 - (lg_sl ([.ref (ad 0), .int (nI g), .int (nI n), .int (nI bf)])).length) Slot.unset).toArray = ls at hl ⊢
  have hl : lv_has ls 5 [(0, .ref (ad 0)), (1, .int (nI g)), (2, .int (nI n)), (3, .int (nI bf))] := hl
  refine lv_aload_n hx hb dX1_keep_0 rfl (lv_at hl 0 rfl) ?_
  refine va_get (D := (dC, dI)) (ci := 1) (v := .ref (ad 5)) (C := RX1) (T := TX1) (N := 20) hx hb hts inX1 hown hK hP 0 rfl rfl 14 (by decide) (hts _ fl_X1_24) (fun _ h9 => h9) rfl dX1_keep_1 ?_
  refine lv_aload_n hx hb dX1_keep_4 rfl (lv_at hl 0 rfl) ?_
  refine va_get (D := (dC, dI)) (ci := 1) (v := .int (nI (Y 13))) (C := RX1) (T := TX1) (N := 20) hx hb hts inX1 hown hK hP 0 rfl rfl 13 (by decide) (hts _ fl_X1_66) (fun _ h9 => h9) rfl dX1_keep_5 ?_
  refine lv_aload_n hx hb dX1_keep_8 rfl (lv_at hl 0 rfl) ?_
  refine va_get (D := (dC, dI)) (ci := 1) (v := .int (nI (Y 18))) (C := RX1) (T := TX1) (N := 20) hx hb hts inX1 hown hK hP 0 rfl rfl 18 (by decide) (hts _ fl_X1_113) (fun _ h9 => h9) rfl dX1_keep_9 ?_
  refine va_iast hx hb hK hP hD hS 5 1 rfl rfl (vp_in_nI (by omega) (by decide)) dX1_keep_12 (fun H locs hP hD hS => ?_)
  rw [nI_clamp (by omega), nu_i] at hP hD
  have hP : va_P (dC, dI) vwCl (rmW ct ad (Y, x1, x2, x3, x4, (nu x5 (Y 13) (Y 18)), x6, x7, x8, x9)) H := hP
  have hD : va_D A (rmW ct ad (Y, x1, x2, x3, x4, (nu x5 (Y 13) (Y 18)), x6, x7, x8, x9)) := hD
  refine lv_aload_n hx hb dX1_keep_13 rfl (lv_at hl 0 rfl) ?_
  refine va_get (D := (dC, dI)) (ci := 1) (v := .ref (ad 6)) (C := RX1) (T := TX1) (N := 20) hx hb hts inX1 hown hK hP 0 rfl rfl 15 (by decide) (hts _ fl_X1_27) (fun _ h9 => h9) rfl dX1_keep_14 ?_
  refine lv_aload_n hx hb dX1_keep_17 rfl (lv_at hl 0 rfl) ?_
  refine va_get (D := (dC, dI)) (ci := 1) (v := .int (nI (Y 13))) (C := RX1) (T := TX1) (N := 20) hx hb hts inX1 hown hK hP 0 rfl rfl 13 (by decide) (hts _ fl_X1_66) (fun _ h9 => h9) rfl dX1_keep_18 ?_
  refine lv_iload_n hx hb dX1_keep_21 rfl (lv_at hl 2 rfl) ?_
  refine va_iast hx hb hK hP hD hS 6 1 rfl rfl (vp_in_nI (by omega) (by decide)) dX1_keep_22 (fun H locs hP hD hS => ?_)
  rw [nI_clamp (by omega), nu_i] at hP hD
  have hP : va_P (dC, dI) vwCl (rmW ct ad (Y, x1, x2, x3, x4, (nu x5 (Y 13) (Y 18)), (nu x6 (Y 13) n), x7, x8, x9)) H := hP
  have hD : va_D A (rmW ct ad (Y, x1, x2, x3, x4, (nu x5 (Y 13) (Y 18)), (nu x6 (Y 13) n), x7, x8, x9)) := hD
  refine lv_aload_n hx hb dX1_keep_23 rfl (lv_at hl 0 rfl) ?_
  refine va_get (D := (dC, dI)) (ci := 1) (v := .ref (ad 7)) (C := RX1) (T := TX1) (N := 20) hx hb hts inX1 hown hK hP 0 rfl rfl 16 (by decide) (hts _ fl_X1_30) (fun _ h9 => h9) rfl dX1_keep_24 ?_
  refine lv_aload_n hx hb dX1_keep_27 rfl (lv_at hl 0 rfl) ?_
  refine va_get (D := (dC, dI)) (ci := 1) (v := .int (nI (Y 13))) (C := RX1) (T := TX1) (N := 20) hx hb hts inX1 hown hK hP 0 rfl rfl 13 (by decide) (hts _ fl_X1_66) (fun _ h9 => h9) rfl dX1_keep_28 ?_
  refine lv_aload_n hx hb dX1_keep_31 rfl (lv_at hl 0 rfl) ?_
  refine va_get (D := (dC, dI)) (ci := 1) (v := .ref (ad 4)) (C := RX1) (T := TX1) (N := 20) hx hb hts inX1 hown hK hP 0 rfl rfl 11 (by decide) (hts _ fl_X1_21) (fun _ h9 => h9) rfl dX1_keep_32 ?_
  refine lv_iload_n hx hb dX1_keep_35 rfl (lv_at hl 1 rfl) ?_
  refine va_iald hx hb hK hP 4 1 rfl rfl (vp_in_nI (by omega) (by decide)) dX1_keep_36 ?_
  refine lv_topi (fun x_1 e_2 => ?_)
  obtain rfl : x_1 = nI (x4 g) := e_2.trans (by rw [nI_clamp (by omega)])
  refine va_iast hx hb hK hP hD hS 7 1 rfl rfl (vp_in_nI (by omega) (by decide)) dX1_keep_37 (fun H locs hP hD hS => ?_)
  rw [nI_clamp (by omega), nu_i] at hP hD
  have hP : va_P (dC, dI) vwCl (rmW ct ad (Y, x1, x2, x3, x4, (nu x5 (Y 13) (Y 18)), (nu x6 (Y 13) n), (nu x7 (Y 13) (x4 g)), x8, x9)) H := hP
  have hD : va_D A (rmW ct ad (Y, x1, x2, x3, x4, (nu x5 (Y 13) (Y 18)), (nu x6 (Y 13) n), (nu x7 (Y 13) (x4 g)), x8, x9)) := hD
  refine lv_aload_n hx hb dX1_keep_38 rfl (lv_at hl 0 rfl) ?_
  refine va_get (D := (dC, dI)) (ci := 1) (v := .ref (ad 8)) (C := RX1) (T := TX1) (N := 20) hx hb hts inX1 hown hK hP 0 rfl rfl 17 (by decide) (hts _ fl_X1_33) (fun _ h9 => h9) rfl dX1_keep_39 ?_
  refine lv_aload_n hx hb dX1_keep_42 rfl (lv_at hl 0 rfl) ?_
  refine va_get (D := (dC, dI)) (ci := 1) (v := .int (nI (Y 13))) (C := RX1) (T := TX1) (N := 20) hx hb hts inX1 hown hK hP 0 rfl rfl 13 (by decide) (hts _ fl_X1_66) (fun _ h9 => h9) rfl dX1_keep_43 ?_
  refine lv_iload_n hx hb dX1_keep_46 rfl (lv_at hl 3 rfl) ?_
  refine va_zast hx hb hK hP hD hS 8 2 rfl rfl (vp_in_nI (by omega) (by decide)) dX1_keep_47 (fun H locs hP hD hS => ?_)
  rw [nI_clamp (by omega), nu_z (by omega)] at hP hD
  have hP : va_P (dC, dI) vwCl (rmW ct ad (Y, x1, x2, x3, x4, (nu x5 (Y 13) (Y 18)), (nu x6 (Y 13) n), (nu x7 (Y 13) (x4 g)), (nu x8 (Y 13) bf), x9)) H := hP
  have hD : va_D A (rmW ct ad (Y, x1, x2, x3, x4, (nu x5 (Y 13) (Y 18)), (nu x6 (Y 13) n), (nu x7 (Y 13) (x4 g)), (nu x8 (Y 13) bf), x9)) := hD
  refine lv_iconst (v := nI 0) hx hb dX1_keep_48 (by decide) ?_
  refine lv_istore (lv' := [(4, .int (nI 0)), (0, .ref (ad 0)), (1, .int (nI g)), (2, .int (nI n)), (3, .int (nI bf))]) hx hb dX1_keep_49 hl (by decide) rfl (fun ls hl => ?_)
  have hP : va_P (dC, dI) vwCl (rmW ct ad (zu Y 18 (Y 18 + 0), x1, x2, x3, x4, nu x5 (Y 13) (Y 18), nu x6 (Y 13) n, nu x7 (Y 13) (x4 g), nu x8 (Y 13) bf, cpG (fun i => x2 (g + i)) (Y 18) 0 x9)) H := by rw [cpG_0]; exact hP
  have hD : va_D A (rmW ct ad (zu Y 18 (Y 18 + 0), x1, x2, x3, x4, nu x5 (Y 13) (Y 18), nu x6 (Y 13) n, nu x7 (Y 13) (x4 g), nu x8 (Y 13) bf, cpG (fun i => x2 (g + i)) (Y 18) 0 x9)) := by rw [cpG_0]; exact hD
  exact q_keep_51 hx hb hr hml hown hts hlocks hK hA g n hsp hgn h2 hc (fun u => u = (zu (zu Y 13 (Y 13 + 1)) 18 (Y 18 + n), x1, x2, x3, x4, nu x5 (Y 13) (Y 18), nu x6 (Y 13) n, nu x7 (Y 13) (x4 g), nu x8 (Y 13) bf, cpG (fun i => x2 (g + i)) (Y 18) n x9)) (n + 1) 0 (by omega) (by omega) rfl _ _ hP hD hS _ (lv_sub hl [1, 2, 3, 0] rfl)
