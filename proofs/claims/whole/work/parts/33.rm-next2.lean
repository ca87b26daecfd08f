/-- next of the reference: answer, state -/
def rnA (Y x1 x2 x3 x4 x5 x6 x7 x8 x9 : Nat → Nat) : Int32 × rmU :=
  if ¬ Y 4 = 0 then (-2, (zu (zu Y 13 0) 18 0, x1, x2, x3, x4, x5, x6, x7, x8, x9))
  else if (ly x1 (Y 0) 32769 (Y 2) (Y 3) 0 x2 x3 x4).2.1 = 0 then (-2, (zu (zu (zu (zu (zu (zu Y 2 (Y 0)) 3 (ly x1 (Y 0) 32769 (Y 2) (Y 3) 0 x2 x3 x4).1) 8 (ly x1 (Y 0) 32769 (Y 2) (Y 3) 0 x2 x3 x4).2.1) 12 (ly x1 (Y 0) 32769 (Y 2) (Y 3) 0 x2 x3 x4).1) 13 0) 18 0, x1, (ly x1 (Y 0) 32769 (Y 2) (Y 3) 0 x2 x3 x4).2.2.1, (ly x1 (Y 0) 32769 (Y 2) (Y 3) 0 x2 x3 x4).2.2.2.1, (ly x1 (Y 0) 32769 (Y 2) (Y 3) 0 x2 x3 x4).2.2.2.2, x5, x6, x7, x8, x9))
  else rL x1 (ly x1 (Y 0) 32769 (Y 2) (Y 3) 0 x2 x3 x4).2.2.1 (ly x1 (Y 0) 32769 (Y 2) (Y 3) 0 x2 x3 x4).2.2.2.1 (ly x1 (Y 0) 32769 (Y 2) (Y 3) 0 x2 x3 x4).2.2.2.2 40000 (zu (zu (zu (zu Y 8 (ly x1 (Y 0) 32769 (Y 2) (Y 3) 0 x2 x3 x4).2.1) 12 (ly x1 (Y 0) 32769 (Y 2) (Y 3) 0 x2 x3 x4).1) 13 0) 18 0) x5 x6 x7 x8 x9 0 0 0 1 0 0
set_option maxHeartbeats 4000000 in
set_option maxRecDepth 100000 in
theorem r_next (l : Launch) (dC : Nat → ClassId) (dI : Nat → Nat → Nat) (ct : Nat → ClassId) (ad : Nat → Nat) (dK dV : Nat → Nat) (A0 : Nat → Prop) (sz : Nat) (Y x1 x2 x3 x4 x5 x6 x7 x8 x9 : Nat → Nat)  (hn : Y 0 ≤ 32768) (hpl : Y 2 ≤ Y 0) (h4 : Y 4 ≤ 1) (h6 : Y 6 ≤ 20000) (h7 : Y 4 = 0 → Y 7 ≤ 1000) (h1 : ∀ j, x1 j < 256) (h2 : ∀ j, x2 j < 256) (hAA : ∀ q, va_A (rmW ct ad (Y, x1, x2, x3, x4, x5, x6, x7, x8, x9)) sz q → A0 q) : Met l yX1_next wX1_next ({ frames := 7, cells := 0, slots := 0, locals := 163 }) (va_Pc [.ref (ad 0)] (fun U => rmP dC dI ct ad sz (Y, x1, x2, x3, x4, x5, x6, x7, x8, x9) U ∧ swd dK dV A0 U U.heap)) (va_Qi (fun (r : Int32) (u : rmU) => r = (rnA Y x1 x2 x3 x4 x5 x6 x7 x8 x9).1 ∧ u = (rnA Y x1 x2 x3 x4 x5 x6 x7 x8 x9).2) (rmB dC dI ct ad (va_A (rmW ct ad (Y, x1, x2, x3, x4, x5, x6, x7, x8, x9)) sz)) (va_A (rmW ct ad (Y, x1, x2, x3, x4, x5, x6, x7, x8, x9)) sz)) 0 0 (va_A (rmW ct ad (Y, x1, x2, x3, x4, x5, x6, x7, x8, x9)) sz) := by
  refine Met.ofW (cc := cX1_next) (maxL := 10) (ret := (some .int)) (by decide) rfl ?_
  intro p e s m args below meth c s₁ B hml hv
  obtain ⟨rfl, ⟨hsz, hP, hK, hD0⟩, hw⟩ := hv
  have hx := B.exec
  have hb := B.bytes
  have hr := B.returns
  have hts : ∀ w ∈ bw, w.before _ s = true := fun w h => atoms_spec (ws := wX1_next) B.pre w (bc w h)
  have hown : s.vm.findClass RX1 = some m.cls := findClass_of_methodNamed B.named
  have hlocks := B.notSynchronized
  subst hsz
  have hD := hD0.self (sz := s.heap.size)
  generalize hAe : va_A (rmW ct ad (Y, x1, x2, x3, x4, x5, x6, x7, x8, x9)) s.heap.size = A at hD ⊢
  have hA : ∀ q : Nat, s.heap.size ≤ q → A q := fun q h => by rw [← hAe]; exact Or.inr h
  have hS : va_S A s.heap s.heap [] := va_S.rf
  have hAA : ∀ q, A q → A0 q := fun q h => hAA q (by rw [hAe]; exact h)
  have hl := lv_entry ([.ref (ad 0)]) (n := 10) (Nat.le_of_ble_eq_true rfl)
  rw [lg_entry_eq]
  generalize (lg_sl ([.ref (ad 0)]) ++ List.replicate (10 - (lg_sl ([.ref (ad 0)])).length) Slot.unset).toArray = ls at hl ⊢
  have hl : lv_has ls 10 [(0, .ref (ad 0))] := hl
  refine lv_aload_n hx hb dX1_next_0 rfl (lv_at hl 0 rfl) ?_
  refine lv_iconst (v := nI 0) hx hb dX1_next_1 (by decide) ?_
  refine va_put (D := (dC, dI)) (ci := 1) (v := .int (nI 0)) (ty := .int) (C := RX1) (T := TX1) (N := 20) hx hb hts inX1 tyX1 okX1 nmX1 hown hK hP hD hS 0 rfl rfl 13 (by decide) (hts _ fl_X1_66) (fun _ h9 => h9) rfl (by decide +kernel) rfl rfl (Nat.le_of_ble_eq_true rfl) dX1_next_2 (fun H locs hP hD hS => ?_)
  have hP : va_P (dC, dI) vwCl (rmW ct ad ((zu Y 13 0), x1, x2, x3, x4, x5, x6, x7, x8, x9)) H := hP
  have hD : va_D A (rmW ct ad ((zu Y 13 0), x1, x2, x3, x4, x5, x6, x7, x8, x9)) := hD
  refine lv_aload_n hx hb dX1_next_5 rfl (lv_at hl 0 rfl) ?_
  refine lv_iconst (v := nI 0) hx hb dX1_next_6 (by decide) ?_
  refine va_put (D := (dC, dI)) (ci := 1) (v := .int (nI 0)) (ty := .int) (C := RX1) (T := TX1) (N := 20) hx hb hts inX1 tyX1 okX1 nmX1 hown hK hP hD hS 0 rfl rfl 18 (by decide) (hts _ fl_X1_113) (fun _ h9 => h9) rfl (by decide +kernel) rfl rfl (Nat.le_of_ble_eq_true rfl) dX1_next_7 (fun H locs hP hD hS => ?_)
  have hP : va_P (dC, dI) vwCl (rmW ct ad ((zu (zu Y 13 0) 18 0), x1, x2, x3, x4, x5, x6, x7, x8, x9)) H := hP
  have hD : va_D A (rmW ct ad ((zu (zu Y 13 0) 18 0), x1, x2, x3, x4, x5, x6, x7, x8, x9)) := hD
  refine lv_aload_n hx hb dX1_next_10 rfl (lv_at hl 0 rfl) ?_
  refine va_get (D := (dC, dI)) (ci := 1) (v := .int (nI (Y 4))) (C := RX1) (T := TX1) (N := 20) hx hb hts inX1 hown hK hP 0 rfl rfl 4 (by decide) (hts _ fl_X1_53) (fun _ h9 => h9) rfl dX1_next_11 ?_
  refine lv_if_eq (tgt := 20) hx hb dX1_next_14 (by decide) (fun c_1 => ?_) (fun c_1 => ?_)
  · have c_1 := (nI_eq (a := Y 4) (b := 0) (by omega) (by omega)).mp c_1
    refine lv_aload_n hx hb dX1_next_20 rfl (lv_at hl 0 rfl) ?_
    refine rm_callv (va_runV (As := []) (rest := []) ⟨hx, hb, hml, hown, hts⟩ (r_layDown l dC dI ct ad H.size (zu (zu Y 13 0) 18 0) x1 x2 x3 x4 x5 x6 x7 x8 x9 (show Y 0 ≤ 32768 by omega) h1 (show Y 2 ≤ Y 0 by omega)) (cwV 0 hts (gV (fun _ h => h) ml_X1_116 im_X1_layDown se_X1_layDown ini_X1 co_X1_layDown) rfl rfl rfl pd_X1_layDown ⟨Nat.le_of_ble_eq_true rfl, Nat.le_of_ble_eq_true rfl⟩) (rm_preS hK hP hD) rfl rfl hl.1 rfl (lv_room (Nat.le_of_ble_eq_true rfl)) dX1_next_21 ⟨Nat.zero_le _, Nat.zero_le _⟩) hD hS hA (fun u_3 H locs q_2 hP hD hS => ?_)
    subst q_2
    have hS1 := ly_S (n := Y 0) h1 32769 (Y 2) (Y 3) 0 x2 x3 x4 h2
    have hb1 := ly_b (X := x1) (n := Y 0) 32769 (Y 2) (Y 3) 0 x2 x3 x4 (Nat.zero_le _)
    have hP : va_P (dC, dI) vwCl (rmW ct ad (zu (zu (zu (zu Y 8 (ly x1 (Y 0) 32769 (Y 2) (Y 3) 0 x2 x3 x4).2.1) 12 (ly x1 (Y 0) 32769 (Y 2) (Y 3) 0 x2 x3 x4).1) 13 0) 18 0, x1, (ly x1 (Y 0) 32769 (Y 2) (Y 3) 0 x2 x3 x4).2.2.1, (ly x1 (Y 0) 32769 (Y 2) (Y 3) 0 x2 x3 x4).2.2.2.1, (ly x1 (Y 0) 32769 (Y 2) (Y 3) 0 x2 x3 x4).2.2.2.2, x5, x6, x7, x8, x9)) H := hP
    have hD : va_D A (rmW ct ad (zu (zu (zu (zu Y 8 (ly x1 (Y 0) 32769 (Y 2) (Y 3) 0 x2 x3 x4).2.1) 12 (ly x1 (Y 0) 32769 (Y 2) (Y 3) 0 x2 x3 x4).1) 13 0) 18 0, x1, (ly x1 (Y 0) 32769 (Y 2) (Y 3) 0 x2 x3 x4).2.2.1, (ly x1 (Y 0) 32769 (Y 2) (Y 3) 0 x2 x3 x4).2.2.2.1, (ly x1 (Y 0) 32769 (Y 2) (Y 3) 0 x2 x3 x4).2.2.2.2, x5, x6, x7, x8, x9)) := hD
    generalize hly : ly x1 (Y 0) 32769 (Y 2) (Y 3) 0 x2 x3 x4 = lw at hP hD hS1 hb1
    obtain ⟨li1, q1, S1, R1, L1⟩ := lw
    dsimp only at hS1 hb1
    have hP : va_P (dC, dI) vwCl (rmW ct ad ((zu (zu (zu (zu Y 8 q1) 12 li1) 13 0) 18 0), x1, S1, R1, L1, x5, x6, x7, x8, x9)) H := hP
    have hD : va_D A (rmW ct ad ((zu (zu (zu (zu Y 8 q1) 12 li1) 13 0) 18 0), x1, S1, R1, L1, x5, x6, x7, x8, x9)) := hD
    refine lv_aload_n hx hb dX1_next_24 rfl (lv_at hl 0 rfl) ?_
    refine va_get (D := (dC, dI)) (ci := 1) (v := .int (nI q1)) (C := RX1) (T := TX1) (N := 20) hx hb hts inX1 hown hK hP 0 rfl rfl 8 (by decide) (hts _ fl_X1_107) (fun _ h9 => h9) rfl dX1_next_25 ?_
    refine lv_if_ne (tgt := 50) hx hb dX1_next_28 (by decide) (fun c_5 => ?_) (fun c_5 => ?_)
    · have c_5 := mt (nI_eq (a := q1) (b := 0) (by omega) (by omega)).mpr c_5
      refine lv_iconst (v := nI 0) hx hb dX1_next_50 (by decide) ?_
      refine lv_istore_n (lv' := [(1, .int (nI 0)), (0, .ref (ad 0))]) hx hb dX1_next_51 rfl hl (by decide) rfl (fun ls hl => ?_)
      refine lv_iconst (v := nI 0) hx hb dX1_next_52 (by decide) ?_
      refine lv_istore_n (lv' := [(2, .int (nI 0)), (1, .int (nI 0)), (0, .ref (ad 0))]) hx hb dX1_next_53 rfl hl (by decide) rfl (fun ls hl => ?_)
      refine lv_iconst (v := nI 0) hx hb dX1_next_54 (by decide) ?_
      refine lv_istore_n (lv' := [(3, .int (nI 0)), (2, .int (nI 0)), (1, .int (nI 0)), (0, .ref (ad 0))]) hx hb dX1_next_55 rfl hl (by decide) rfl (fun ls hl => ?_)
      refine lv_iconst (v := nI 1) hx hb dX1_next_56 (by decide) ?_
      refine lv_istore (lv' := [(4, .int (nI 1)), (3, .int (nI 0)), (2, .int (nI 0)), (1, .int (nI 0)), (0, .ref (ad 0))]) hx hb dX1_next_57 hl (by decide) rfl (fun ls hl => ?_)
      refine lv_iconst (v := nI 0) hx hb dX1_next_59 (by decide) ?_
      refine lv_istore (lv' := [(5, .int (nI 0)), (4, .int (nI 1)), (3, .int (nI 0)), (2, .int (nI 0)), (1, .int (nI 0)), (0, .ref (ad 0))]) hx hb dX1_next_60 hl (by decide) rfl (fun ls hl => ?_)
      refine lv_iconst (v := nI 0) hx hb dX1_next_62 (by decide) ?_
      refine lv_istore (lv' := [(6, .int (nI 0)), (5, .int (nI 0)), (4, .int (nI 1)), (3, .int (nI 0)), (2, .int (nI 0)), (1, .int (nI 0)), (0, .ref (ad 0))]) hx hb dX1_next_63 hl (by decide) rfl (fun ls hl => ?_)
      exact q_next_65 (x1 := x1) (x2 := S1) (x3 := R1) (x4 := L1) hx hb hr hml hown hts hlocks hK hA hS1 hw hAA (fun r u => r = (rnA Y x1 x2 x3 x4 x5 x6 x7 x8 x9).1 ∧ u = (rnA Y x1 x2 x3 x4 x5 x6 x7 x8 x9).2) 40000 (zu (zu (zu (zu Y 8 q1) 12 li1) 13 0) 18 0) x5 x6 x7 x8 x9 0 0 0 1 0 0 (by show q1 - 0 + 1 - 0 < 40000; omega) (show q1 ≤ 32768 by omega) (show 0 ≤ q1 by omega) (show 0 ≤ 0 by omega) (by omega) (fun _ => rfl) (by omega) (by omega) (show Y 7 ≤ 1000 by omega) (show Y 6 ≤ 20000 by omega) (by omega) (by rw [rnA, if_neg (by omega), hly, if_neg (by show ¬ q1 = 0; omega)]; exact ⟨rfl, rfl⟩) _ _ hP hD hS _ (lv_sub hl [6, 5, 4, 3, 2, 1, 0] rfl)
    · have c_5 := (nI_eq (a := q1) (b := 0) (by omega) (by omega)).mp c_5
      refine lv_aload_n hx hb dX1_next_31 rfl (lv_at hl 0 rfl) ?_
      refine lv_aload_n hx hb dX1_next_32 rfl (lv_at hl 0 rfl) ?_
      refine va_get (D := (dC, dI)) (ci := 1) (v := .int (nI (Y 0))) (C := RX1) (T := TX1) (N := 20) hx hb hts inX1 hown hK hP 0 rfl rfl 0 (by decide) (hts _ fl_X1_43) (fun _ h9 => h9) rfl dX1_next_33 ?_
      refine va_put (D := (dC, dI)) (ci := 1) (v := .int (nI (Y 0))) (ty := .int) (C := RX1) (T := TX1) (N := 20) hx hb hts inX1 tyX1 okX1 nmX1 hown hK hP hD hS 0 rfl rfl 2 (by decide) (hts _ fl_X1_47) (fun _ h9 => h9) rfl (by decide +kernel) rfl rfl (Nat.le_of_ble_eq_true rfl) dX1_next_36 (fun H locs hP hD hS => ?_)
      have hP : va_P (dC, dI) vwCl (rmW ct ad ((zu (zu (zu (zu (zu Y 2 (Y 0)) 8 q1) 12 li1) 13 0) 18 0), x1, S1, R1, L1, x5, x6, x7, x8, x9)) H := hP
      have hD : va_D A (rmW ct ad ((zu (zu (zu (zu (zu Y 2 (Y 0)) 8 q1) 12 li1) 13 0) 18 0), x1, S1, R1, L1, x5, x6, x7, x8, x9)) := hD
      refine lv_aload_n hx hb dX1_next_39 rfl (lv_at hl 0 rfl) ?_
      refine lv_aload_n hx hb dX1_next_40 rfl (lv_at hl 0 rfl) ?_
      refine va_get (D := (dC, dI)) (ci := 1) (v := .int (nI li1)) (C := RX1) (T := TX1) (N := 20) hx hb hts inX1 hown hK hP 0 rfl rfl 12 (by decide) (hts _ fl_X1_110) (fun _ h9 => h9) rfl dX1_next_41 ?_
      refine va_put (D := (dC, dI)) (ci := 1) (v := .int (nI li1)) (ty := .int) (C := RX1) (T := TX1) (N := 20) hx hb hts inX1 tyX1 okX1 nmX1 hown hK hP hD hS 0 rfl rfl 3 (by decide) (hts _ fl_X1_50) (fun _ h9 => h9) rfl (by decide +kernel) rfl rfl (Nat.le_of_ble_eq_true rfl) dX1_next_44 (fun H locs hP hD hS => ?_)
      have hP : va_P (dC, dI) vwCl (rmW ct ad ((zu (zu (zu (zu (zu (zu Y 2 (Y 0)) 3 li1) 8 q1) 12 li1) 13 0) 18 0), x1, S1, R1, L1, x5, x6, x7, x8, x9)) H := hP
      have hD : va_D A (rmW ct ad ((zu (zu (zu (zu (zu (zu Y 2 (Y 0)) 3 li1) 8 q1) 12 li1) 13 0) 18 0), x1, S1, R1, L1, x5, x6, x7, x8, x9)) := hD
      refine lv_bipush (v := (-2)) hx hb dX1_next_47 (by decide) ?_
      have hP : va_P (dC, dI) vwCl (rmW ct ad (zu (zu (zu (zu (zu (zu Y 2 (Y 0)) 3 li1) 8 q1) 12 li1) 13 0) 18 0, x1, S1, R1, L1, x5, x6, x7, x8, x9)) H := by skip; exact hP
      have hD : va_D A (rmW ct ad (zu (zu (zu (zu (zu (zu Y 2 (Y 0)) 3 li1) 8 q1) 12 li1) 13 0) 18 0, x1, S1, R1, L1, x5, x6, x7, x8, x9)) := by skip; exact hD
      exact W.iret (v := (-2)) hx hb hr (fun t ht hW => ⟨⟨_, (zu (zu (zu (zu (zu (zu Y 2 (Y 0)) 3 li1) 8 q1) 12 li1) 13 0) 18 0, x1, S1, R1, L1, x5, x6, x7, x8, x9), rfl, (by rw [rnA, if_neg (by omega), hly, if_pos (by omega)]; exact ⟨rfl, rfl⟩), by rw [ht]; exact hP, va_K.moved hW.alike hK, hD⟩, hS.F ht⟩) hS.2.2 dX1_next_49
  · have c_1 := mt (nI_eq (a := Y 4) (b := 0) (by omega) (by omega)).mpr c_1
    refine lv_bipush (v := (-2)) hx hb dX1_next_17 (by decide) ?_
    exact W.iret (v := (-2)) hx hb hr (fun t ht hW => ⟨⟨_, ((zu (zu Y 13 0) 18 0), x1, x2, x3, x4, x5, x6, x7, x8, x9), rfl, (by rw [rnA, if_pos (by omega)]; exact ⟨rfl, rfl⟩), by rw [ht]; exact hP, va_K.moved hW.alike hK, hD⟩, hS.F ht⟩) hS.2.2 dX1_next_19
