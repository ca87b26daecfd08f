def rtA (Y x6 x9 : Nat → Nat) (w : Int32) : Int32 :=
  if w = nI 0 then nI (if 0 < Y 13 ∧ x6 0 = 1 ∧ x9 0 = 35 then 1 else 0) else if w = nI 1 then nI (Y 6) else if w = nI 2 then nI (Y 5) else if w = nI 3 then nI (if Y 4 = 0 then Y 3 else 0) else (-1)
set_option maxHeartbeats 4000000 in
set_option maxRecDepth 100000 in
theorem r_told (l : Launch) (dC : Nat → ClassId) (dI : Nat → Nat → Nat) (ct : Nat → ClassId) (ad : Nat → Nat) (Y x1 x2 x3 x4 x5 x6 x7 x8 x9 : Nat → Nat) (w : Int32) (h13 : Y 13 ≤ 8000) (h4 : Y 4 ≤ 1) (hx6 : ∀ j, x6 j < 65536) (h9 : ∀ j, x9 j < 256) : Met l yX1_told wX1_told ({ frames := 0, cells := 0, slots := 0, locals := 0 }) (va_Pc [.ref (ad 0), .int (w)] (rmR dC dI ct ad (Y, x1, x2, x3, x4, x5, x6, x7, x8, x9))) (vp_Si (fun r => r = rtA Y x6 x9 w)) 0 0 (fun _ => False) := by
  refine Met.ofW (cc := cX1_told) (maxL := 2) (ret := (some .int)) (by decide) rfl ?_
  intro p e s m args below meth c s₁ B hml hv
  obtain ⟨rfl, hP, hK⟩ := hv
  have hx := B.exec
  have hb := B.bytes
  have hr := B.returns
  have hts : ∀ w ∈ bw, w.before _ s = true := fun w h => atoms_spec (ws := wX1_told) B.pre w (bc w h)
  have hown : s.vm.findClass RX1 = some m.cls := findClass_of_methodNamed B.named
  have hlocks := B.notSynchronized
  have hl := lv_entry ([.ref (ad 0), .int (w)]) (n := 2) (Nat.le_of_ble_eq_true rfl)
  rw [lg_entry_eq]
  generalize (lg_sl ([.ref (ad 0), .int (w)]) ++ List.replicate (2 - (lg_sl ([.ref (ad 0), .int (w)])).length) Slot.unset).toArray = ls at hl ⊢
  have hl : lv_has ls 2 [(0, .ref (ad 0)), (1, .int (w))] := hl
  refine lv_iload_n hx hb dX1_told_0 rfl (lv_at hl 1 rfl) ?_
  rcases sw_3 w with rfl | rfl | rfl | rfl | hsw
  · refine lv_tableIn (tgt := 32) hx hb dX1_told_1 (by decide) (by decide) rfl (by decide) ?_
    refine lv_aload_n hx hb dX1_told_32 rfl (lv_at hl 0 rfl) ?_
    refine va_get (D := (dC, dI)) (ci := 1) (v := .int (nI (Y 13))) (C := RX1) (T := TX1) (N := 20) hx hb hts inX1 hown hK hP 0 rfl rfl 13 (by decide) (hts _ fl_X1_66) (fun _ h9 => h9) rfl dX1_told_33 ?_
    refine lv_if_le (tgt := 64) hx hb dX1_told_36 (by decide) (fun c_1 => ?_) (fun c_1 => ?_)
    · have c_1 := (nI_leI (a := Y 13) (b := 0) (by omega) (by omega)).mp c_1
      refine lv_iconst (v := nI 0) hx hb dX1_told_64 (by decide) ?_
      exact W.iret (v := nI 0) hx hb hr (fun t ht hW => ⟨_, rfl, (by rw [rtA, if_pos rfl, if_neg (by omega)]), ht⟩) (fun q h => by cases h) dX1_told_65
    · have c_1 := mt (nI_leI (a := Y 13) (b := 0) (by omega) (by omega)).mpr c_1
      refine lv_aload_n hx hb dX1_told_39 rfl (lv_at hl 0 rfl) ?_
      refine va_get (D := (dC, dI)) (ci := 1) (v := .ref (ad 6)) (C := RX1) (T := TX1) (N := 20) hx hb hts inX1 hown hK hP 0 rfl rfl 15 (by decide) (hts _ fl_X1_27) (fun _ h9 => h9) rfl dX1_told_40 ?_
      refine lv_iconst (v := nI 0) hx hb dX1_told_43 (by decide) ?_
      refine va_iald hx hb hK hP 6 1 rfl rfl (vp_in_nI (by omega) (by decide)) dX1_told_44 ?_
      refine lv_topi (fun x_2 e_3 => ?_)
      obtain rfl : x_2 = nI (x6 0) := e_3.trans (by rw [nI_clamp (by omega)])
      have := hx6 0
      refine lv_iconst (v := nI 1) hx hb dX1_told_45 (by decide) ?_
      refine lv_icmp_ne (tgt := 64) hx hb dX1_told_46 (by decide) (fun c_4 => ?_) (fun c_4 => ?_)
      · have c_4 := mt (nI_eq (a := x6 0) (b := 1) (by omega) (by omega)).mpr c_4
        refine lv_iconst (v := nI 0) hx hb dX1_told_64 (by decide) ?_
        exact W.iret (v := nI 0) hx hb hr (fun t ht hW => ⟨_, rfl, (by rw [rtA, if_pos rfl, if_neg (by omega)]), ht⟩) (fun q h => by cases h) dX1_told_65
      · have c_4 := (nI_eq (a := x6 0) (b := 1) (by omega) (by omega)).mp c_4
        refine lv_aload_n hx hb dX1_told_49 rfl (lv_at hl 0 rfl) ?_
        refine va_get (D := (dC, dI)) (ci := 1) (v := .ref (ad 9)) (C := RX1) (T := TX1) (N := 20) hx hb hts inX1 hown hK hP 0 rfl rfl 19 (by decide) (hts _ fl_X1_37) (fun _ h9 => h9) rfl dX1_told_50 ?_
        refine lv_iconst (v := nI 0) hx hb dX1_told_53 (by decide) ?_
        refine va_bald hx hb hK hP 9 0 rfl rfl (vp_in_nI (by omega) (by decide)) dX1_told_54 ?_
        refine lv_topi (fun x_5 e_6 => ?_)
        obtain rfl : x_5 = sb_b (x9 0) := e_6.trans (by rw [nI_clamp (by omega)])
        have := h9 0
        refine lv_bipush (v := nI 35) hx hb dX1_told_55 (by decide) ?_
        refine lv_icmp_ne (tgt := 64) hx hb dX1_told_57 (by decide) (fun c_7 => ?_) (fun c_7 => ?_)
        · have c_7 := mt (sb_eqN (by omega) (by omega)).mpr c_7
          refine lv_iconst (v := nI 0) hx hb dX1_told_64 (by decide) ?_
          exact W.iret (v := nI 0) hx hb hr (fun t ht hW => ⟨_, rfl, (by rw [rtA, if_pos rfl, if_neg (by omega)]), ht⟩) (fun q h => by cases h) dX1_told_65
        · have c_7 := (sb_eqN (by omega) (by omega)).mp c_7
          refine lv_iconst (v := nI 1) hx hb dX1_told_60 (by decide) ?_
          refine lv_goto (tgt := 65) hx hb dX1_told_61 (by decide) ?_
          exact W.iret (v := nI 1) hx hb hr (fun t ht hW => ⟨_, rfl, (by rw [rtA, if_pos rfl, if_pos (by omega)]), ht⟩) (fun q h => by cases h) dX1_told_65
  · refine lv_tableIn (tgt := 66) hx hb dX1_told_1 (by decide) (by decide) rfl (by decide) ?_
    refine lv_aload_n hx hb dX1_told_66 rfl (lv_at hl 0 rfl) ?_
    refine va_get (D := (dC, dI)) (ci := 1) (v := .int (nI (Y 6))) (C := RX1) (T := TX1) (N := 20) hx hb hts inX1 hown hK hP 0 rfl rfl 6 (by decide) (hts _ fl_X1_60) (fun _ h9 => h9) rfl dX1_told_67 ?_
    exact W.iret (v := nI (Y 6)) hx hb hr (fun t ht hW => ⟨_, rfl, (by rw [rtA, if_neg (by decide), if_pos rfl]), ht⟩) (fun q h => by cases h) dX1_told_70
  · refine lv_tableIn (tgt := 71) hx hb dX1_told_1 (by decide) (by decide) rfl (by decide) ?_
    refine lv_aload_n hx hb dX1_told_71 rfl (lv_at hl 0 rfl) ?_
    refine va_get (D := (dC, dI)) (ci := 1) (v := .int (nI (Y 5))) (C := RX1) (T := TX1) (N := 20) hx hb hts inX1 hown hK hP 0 rfl rfl 5 (by decide) (hts _ fl_X1_57) (fun _ h9 => h9) rfl dX1_told_72 ?_
    exact W.iret (v := nI (Y 5)) hx hb hr (fun t ht hW => ⟨_, rfl, (by rw [rtA, if_neg (by decide), if_neg (by decide), if_pos rfl]), ht⟩) (fun q h => by cases h) dX1_told_75
  · refine lv_tableIn (tgt := 76) hx hb dX1_told_1 (by decide) (by decide) rfl (by decide) ?_
    refine lv_aload_n hx hb dX1_told_76 rfl (lv_at hl 0 rfl) ?_
    refine va_get (D := (dC, dI)) (ci := 1) (v := .int (nI (Y 4))) (C := RX1) (T := TX1) (N := 20) hx hb hts inX1 hown hK hP 0 rfl rfl 4 (by decide) (hts _ fl_X1_53) (fun _ h9 => h9) rfl dX1_told_77 ?_
    refine lv_if_eq (tgt := 87) hx hb dX1_told_80 (by decide) (fun c_8 => ?_) (fun c_8 => ?_)
    · have c_8 := (nI_eq (a := Y 4) (b := 0) (by omega) (by omega)).mp c_8
      refine lv_aload_n hx hb dX1_told_87 rfl (lv_at hl 0 rfl) ?_
      refine va_get (D := (dC, dI)) (ci := 1) (v := .int (nI (Y 3))) (C := RX1) (T := TX1) (N := 20) hx hb hts inX1 hown hK hP 0 rfl rfl 3 (by decide) (hts _ fl_X1_50) (fun _ h9 => h9) rfl dX1_told_88 ?_
      exact W.iret (v := nI (Y 3)) hx hb hr (fun t ht hW => ⟨_, rfl, (by rw [rtA, if_neg (by decide), if_neg (by decide), if_neg (by decide), if_pos rfl, if_pos (by omega)]), ht⟩) (fun q h => by cases h) dX1_told_91
    · have c_8 := mt (nI_eq (a := Y 4) (b := 0) (by omega) (by omega)).mpr c_8
      refine lv_iconst (v := nI 0) hx hb dX1_told_83 (by decide) ?_
      refine lv_goto (tgt := 91) hx hb dX1_told_84 (by decide) ?_
      exact W.iret (v := nI 0) hx hb hr (fun t ht hW => ⟨_, rfl, (by rw [rtA, if_neg (by decide), if_neg (by decide), if_neg (by decide), if_pos rfl, if_neg (by omega)]), ht⟩) (fun q h => by cases h) dX1_told_91
  · refine lv_tableOut (tgt := 92) hx hb dX1_told_1 hsw (by decide) ?_
    refine lv_iconst (v := (-1)) hx hb dX1_told_92 (by decide) ?_
    exact W.iret (v := (-1)) hx hb hr (fun t ht hW => ⟨_, rfl, (by rw [rtA, if_neg (fun z => by rw [z] at hsw; revert hsw; decide), if_neg (fun z => by rw [z] at hsw; revert hsw; decide), if_neg (fun z => by rw [z] at hsw; revert hsw; decide), if_neg (fun z => by rw [z] at hsw; revert hsw; decide)]), ht⟩) (fun q h => by cases h) dX1_told_93
set_option maxHeartbeats 4000000 in
set_option maxRecDepth 100000 in
theorem r_byteOf (l : Launch) (dC : Nat → ClassId) (dI : Nat → Nat → Nat) (ct : Nat → ClassId) (ad : Nat → Nat) (Y x1 x2 x3 x4 x5 x6 x7 x8 x9 : Nat → Nat) (cc0 : Nat) (k0 : Nat) (hc : cc0 < 8000) (hk : x5 cc0 + k0 < 32768) (h9 : ∀ j, x9 j < 256) : Met l yX1_byteOf wX1_byteOf ({ frames := 0, cells := 0, slots := 0, locals := 0 }) (va_Pc [.ref (ad 0), .int (nI cc0), .int (nI k0)] (rmR dC dI ct ad (Y, x1, x2, x3, x4, x5, x6, x7, x8, x9))) (vp_Si (fun r => r = nI (x9 (x5 cc0 + k0)))) 0 0 (fun _ => False) := by
  refine Met.ofW (cc := cX1_byteOf) (maxL := 3) (ret := (some .int)) (by decide) rfl ?_
  intro p e s m args below meth c s₁ B hml hv
  obtain ⟨rfl, hP, hK⟩ := hv
  have hx := B.exec
  have hb := B.bytes
  have hr := B.returns
  have hts : ∀ w ∈ bw, w.before _ s = true := fun w h => atoms_spec (ws := wX1_byteOf) B.pre w (bc w h)
  have hown : s.vm.findClass RX1 = some m.cls := findClass_of_methodNamed B.named
  have hlocks := B.notSynchronized
  have hl := lv_entry ([.ref (ad 0), .int (nI cc0), .int (nI k0)]) (n := 3) (Nat.le_of_ble_eq_true rfl)
  rw [lg_entry_eq]
  generalize (lg_sl ([.ref (ad 0), .int (nI cc0), .int (nI k0)]) ++ List.replicate (3 - (lg_sl ([.ref (ad 0), .int (nI cc0), .int (nI k0)])).length) Slot.unset).toArray = ls at hl ⊢
  have hl : lv_has ls 3 [(0, .ref (ad 0)), (1, .int (nI cc0)), (2, .int (nI k0))] := hl
  refine lv_aload_n hx hb dX1_byteOf_0 rfl (lv_at hl 0 rfl) ?_
  refine va_get (D := (dC, dI)) (ci := 1) (v := .ref (ad 9)) (C := RX1) (T := TX1) (N := 20) hx hb hts inX1 hown hK hP 0 rfl rfl 19 (by decide) (hts _ fl_X1_37) (fun _ h9 => h9) rfl dX1_byteOf_1 ?_
  refine lv_aload_n hx hb dX1_byteOf_4 rfl (lv_at hl 0 rfl) ?_
  refine va_get (D := (dC, dI)) (ci := 1) (v := .ref (ad 5)) (C := RX1) (T := TX1) (N := 20) hx hb hts inX1 hown hK hP 0 rfl rfl 14 (by decide) (hts _ fl_X1_24) (fun _ h9 => h9) rfl dX1_byteOf_5 ?_
  refine lv_iload_n hx hb dX1_byteOf_8 rfl (lv_at hl 1 rfl) ?_
  refine va_iald hx hb hK hP 5 1 rfl rfl (vp_in_nI (by omega) (by decide)) dX1_byteOf_9 ?_
  refine lv_topi (fun x_1 e_2 => ?_)
  obtain rfl : x_1 = nI (x5 cc0) := e_2.trans (by rw [nI_clamp (by omega)])
  refine lv_iload_n hx hb dX1_byteOf_10 rfl (lv_at hl 2 rfl) ?_
  refine lv_iadd hx hb dX1_byteOf_11 ?_
  refine lv_topi (fun x_3 e_4 => ?_)
  obtain rfl : x_3 = nI (x5 cc0 + k0) := e_4.trans (nI_add (x5 cc0) k0)
  refine va_bald hx hb hK hP 9 0 rfl rfl (vp_in_nI (by omega) (by decide)) dX1_byteOf_12 ?_
  refine lv_topi (fun x_5 e_6 => ?_)
  obtain rfl : x_5 = sb_b (x9 (x5 cc0 + k0)) := e_6.trans (by rw [nI_clamp (by omega)])
  have := h9 (x5 cc0 + k0)
  refine lv_sipush (v := nI 255) hx hb dX1_byteOf_13 (by decide) ?_
  refine lv_iand hx hb dX1_byteOf_16 ?_
  refine lv_topi (fun x_7 e_8 => ?_)
  obtain rfl : x_7 = nI (x9 (x5 cc0 + k0)) := e_8.trans (sb_m (by omega))
  exact W.iret (v := nI (x9 (x5 cc0 + k0))) hx hb hr (fun t ht hW => ⟨_, rfl, rfl, ht⟩) (fun q h => by cases h) dX1_byteOf_17
/-- kindOf, of what it takes for the quote -/
def kq (q b nx : Nat) : Nat := if q = 34 ∨ q = 39 then (if q = 34 then 3 else 4) else if isL b = true then 1 else if isD b = true ∨ (b = 46 ∧ isD nx = true) then 2 else if nx < 256 ∨ io 6 b = true then 5 else 6
def kn (b nx : Nat) : Nat := kq (if b = 76 ∧ (nx = 34 ∨ nx = 39) then nx else if nx < 256 then b else 256) b nx
theorem kn_1 {b nx : Nat} (h : b = 76 ∧ (nx = 34 ∨ nx = 39)) : kn b nx = kq nx b nx := by rw [kn, if_pos h]
theorem kn_2 {b nx : Nat} (h : ¬ (b = 76 ∧ (nx = 34 ∨ nx = 39))) (h2 : nx < 256) : kn b nx = kq b b nx := by rw [kn, if_neg h, if_pos h2]
theorem kn_3 {b nx : Nat} (h : ¬ (b = 76 ∧ (nx = 34 ∨ nx = 39))) (h2 : ¬ nx < 256) : kn b nx = kq 256 b nx := by rw [kn, if_neg h, if_neg h2]
set_option maxHeartbeats 4000000 in
set_option maxRecDepth 100000 in
theorem t_kindOf_61 {p : Program} {l : Launch} {e : Env} {s : State} {m : MethodId} {args : Array Value} {below : List Frame} {meth : Method} {c : Code} (hx : p.tables.exec = Jvm.exec) (hb : c.code = cX1_kindOf) (hr : meth.sig.returnType = (some .int)) (hml : c.maxLocals = 5) (hown : s.vm.findClass RX1 = some m.cls) (hts : ∀ w ∈ bw, w.before args s = true) (hlocks : meth.locks = false) {dC : Nat → ClassId} {dI : Nat → Nat → Nat} {ct : Nat → ClassId} {ad : Nat → Nat} {Y x1 x2 x3 x4 x5 x6 x7 x8 x9 : Nat → Nat} (hK : va_K (dC, dI) vwCl (rmT ct) s) (hP : va_P (dC, dI) vwCl (rmW ct ad (Y, x1, x2, x3, x4, x5, x6, x7, x8, x9)) s.heap) {dK dV : Nat → Nat} {A0 : Nat → Prop} (hw : swd dK dV A0 s s.heap) (q b nx : Nat) (hb256 : b < 256) (P : Int32 → Prop) (hQ : P (nI (kq q b nx))) (ls : Array Slot) (hl : lv_has ls 5 [(0, .ref (ad 0)), (2, .int (bI b)), (3, .int (bI nx)), (4, .int (bI q))]) : W p l e (headSpec wX1_kindOf ({ frames := 5, cells := 0, slots := 0, locals := 108 })).room s m args below meth c s.heap [] 0 0 (MQ below (vp_Si P) args s 0 0 (fun _ => False)) (F0 m 61 ls []) := by
  refine lv_iload hx hb dX1_kindOf_61 (lv_at hl 3 rfl) ?_
  refine lv_bipush (v := nI 34) hx hb dX1_kindOf_63 (by decide) ?_
  refine lv_icmp_eq (tgt := 75) hx hb dX1_kindOf_65 (by decide) (fun c_1 => ?_) (fun c_1 => ?_)
  · have c_1 := (bI_eqN (k := 34) (by omega)).mp c_1
    refine lv_iload hx hb dX1_kindOf_75 (lv_at hl 3 rfl) ?_
    refine lv_bipush (v := nI 34) hx hb dX1_kindOf_77 (by decide) ?_
    refine lv_icmp_ne (tgt := 86) hx hb dX1_kindOf_79 (by decide) (fun c_2 => ?_) (fun c_2 => ?_)
    · have c_2 := mt (bI_eqN (k := 34) (by omega)).mpr c_2
      refine lv_iconst (v := nI 4) hx hb dX1_kindOf_86 (by decide) ?_
      exact W.iret (v := nI 4) hx hb hr (fun t ht hW => ⟨_, rfl, (by rw [kq, if_pos (by omega), if_neg (by omega)] at hQ; exact hQ), ht⟩) (fun q h => by cases h) dX1_kindOf_87
    · have c_2 := (bI_eqN (k := 34) (by omega)).mp c_2
      refine lv_iconst (v := nI 3) hx hb dX1_kindOf_82 (by decide) ?_
      refine lv_goto (tgt := 87) hx hb dX1_kindOf_83 (by decide) ?_
      exact W.iret (v := nI 3) hx hb hr (fun t ht hW => ⟨_, rfl, (by rw [kq, if_pos (by omega), if_pos (by omega)] at hQ; exact hQ), ht⟩) (fun q h => by cases h) dX1_kindOf_87
  · have c_1 := mt (bI_eqN (k := 34) (by omega)).mpr c_1
    refine lv_iload hx hb dX1_kindOf_68 (lv_at hl 3 rfl) ?_
    refine lv_bipush (v := nI 39) hx hb dX1_kindOf_70 (by decide) ?_
    refine lv_icmp_ne (tgt := 88) hx hb dX1_kindOf_72 (by decide) (fun c_3 => ?_) (fun c_3 => ?_)
    · have c_3 := mt (bI_eqN (k := 39) (by omega)).mpr c_3
      refine lv_iload_n hx hb dX1_kindOf_88 rfl (lv_at hl 1 rfl) ?_
      refine vp_callSi (va_Run.run (va_runS (As := [.int (bI b)]) (rest := []) ⟨hx, hb, hml, hown, hts⟩ (r_isLetter l b) (cwS 1 hts (gS (fun _ h => h) ml_X1_95 sm_X1_isLetter ini_X1 co_X1_isLetter) rfl rfl rfl pd_X1_isLetter ⟨Nat.le_of_ble_eq_true rfl, Nat.le_of_ble_eq_true rfl⟩) st_pre rfl rfl hl.1 rfl (lv_room (Nat.le_of_ble_eq_true rfl)) dX1_kindOf_89 ⟨Nat.zero_le _, Nat.zero_le _⟩)) (fun r_4 (e_5 : r_4 = b2i (isL b)) => ?_)
      subst e_5
      refine lv_if_eq (tgt := 97) hx hb dX1_kindOf_92 (by decide) (fun c_6 => ?_) (fun c_6 => ?_)
      · have c_6 := (b2i_z (isL b)).mp c_6
        refine lv_iload_n hx hb dX1_kindOf_97 rfl (lv_at hl 1 rfl) ?_
        refine vp_callSi (va_Run.run (va_runS (As := [.int (bI b)]) (rest := []) ⟨hx, hb, hml, hown, hts⟩ (r_isDigit l b) (cwS 1 hts (gS (fun _ h => h) ml_X1_99 sm_X1_isDigit ini_X1 co_X1_isDigit) rfl rfl rfl pd_X1_isDigit ⟨Nat.le_of_ble_eq_true rfl, Nat.le_of_ble_eq_true rfl⟩) st_pre rfl rfl hl.1 rfl (lv_room (Nat.le_of_ble_eq_true rfl)) dX1_kindOf_98 ⟨Nat.zero_le _, Nat.zero_le _⟩)) (fun r_7 (e_8 : r_7 = b2i (isD b)) => ?_)
        subst e_8
        refine lv_if_ne (tgt := 117) hx hb dX1_kindOf_101 (by decide) (fun c_9 => ?_) (fun c_9 => ?_)
        · have c_9 := mt (b2i_z (isD b)).mpr c_9
          refine lv_iconst (v := nI 2) hx hb dX1_kindOf_117 (by decide) ?_
          refine lv_goto (tgt := 140) hx hb dX1_kindOf_118 (by decide) ?_
          exact W.iret (v := nI 2) hx hb hr (fun t ht hW => ⟨_, rfl, (by rw [kq, if_neg (by omega), if_neg (by rw [c_6]; decide), if_pos (Or.inl (by simpa using c_9))] at hQ; exact hQ), ht⟩) (fun q h => by cases h) dX1_kindOf_140
        · have c_9 := (b2i_z (isD b)).mp c_9
          refine lv_iload_n hx hb dX1_kindOf_104 rfl (lv_at hl 1 rfl) ?_
          refine lv_bipush (v := nI 46) hx hb dX1_kindOf_105 (by decide) ?_
          refine lv_icmp_ne (tgt := 121) hx hb dX1_kindOf_107 (by decide) (fun c_10 => ?_) (fun c_10 => ?_)
          · have c_10 := mt (bI_eqN (k := 46) (by omega)).mpr c_10
            refine lv_iload_n hx hb dX1_kindOf_121 rfl (lv_at hl 2 rfl) ?_
            refine lv_if_ge (tgt := 134) hx hb dX1_kindOf_122 (by decide) (fun c_11 => ?_) (fun c_11 => ?_)
            · have c_11 := (bI_Nle (k := 0) (by omega)).mp c_11
              refine lv_iconst (v := nI 5) hx hb dX1_kindOf_134 (by decide) ?_
              refine lv_goto (tgt := 140) hx hb dX1_kindOf_135 (by decide) ?_
              exact W.iret (v := nI 5) hx hb hr (fun t ht hW => ⟨_, rfl, (by rw [kq, if_neg (by omega), if_neg (by rw [c_6]; decide), if_neg (fun z => by rcases z with z | z; exact absurd z (by rw [c_9]; decide); have := z.1; omega), if_pos (Or.inl (by omega))] at hQ; exact hQ), ht⟩) (fun q h => by cases h) dX1_kindOf_140
            · have c_11 := mt (bI_Nle (k := 0) (by omega)).mpr c_11
              refine lv_iload_n hx hb dX1_kindOf_125 rfl (lv_at hl 1 rfl) ?_
              refine va_ldcS hx hb hown hw.2.2.2.2.2.2.2.2.2 dX1_kindOf_126 ?_
              refine vp_callSi (va_Run.run (va_runS (As := [.int (bI b), .ref (dK 6)]) (rest := []) ⟨hx, hb, hml, hown, hts⟩ (r_isOneOf l dK dV A0 b 6 (by decide)) (cwS 2 hts (gS (fun _ h => h) ml_X1_85 sm_X1_isOneOf ini_X1 co_X1_isOneOf) rfl rfl rfl pd_X1_isOneOf ⟨Nat.le_of_ble_eq_true rfl, Nat.le_of_ble_eq_true rfl⟩) (sw_preS hw) rfl rfl hl.1 rfl (lv_room (Nat.le_of_ble_eq_true rfl)) dX1_kindOf_128 ⟨Nat.zero_le _, Nat.zero_le _⟩)) (fun r_12 (e_13 : r_12 = b2i (ioG 6 b 65 0 false)) => ?_)
              subst e_13
              refine lv_if_eq (tgt := 138) hx hb dX1_kindOf_131 (by decide) (fun c_14 => ?_) (fun c_14 => ?_)
              · have c_14 := (b2i_z (ioG 6 b 65 0 false)).mp c_14
                refine lv_bipush (v := nI 6) hx hb dX1_kindOf_138 (by decide) ?_
                exact W.iret (v := nI 6) hx hb hr (fun t ht hW => ⟨_, rfl, (by rw [kq, if_neg (by omega), if_neg (by rw [c_6]; decide), if_neg (fun z => by rcases z with z | z; exact absurd z (by rw [c_9]; decide); have := z.1; omega), if_neg (fun z => by rcases z with z | z; omega; exact absurd z (by unfold io; rw [c_14]; decide))] at hQ; exact hQ), ht⟩) (fun q h => by cases h) dX1_kindOf_140
              · have c_14 := mt (b2i_z (ioG 6 b 65 0 false)).mpr c_14
                refine lv_iconst (v := nI 5) hx hb dX1_kindOf_134 (by decide) ?_
                refine lv_goto (tgt := 140) hx hb dX1_kindOf_135 (by decide) ?_
                exact W.iret (v := nI 5) hx hb hr (fun t ht hW => ⟨_, rfl, (by rw [kq, if_neg (by omega), if_neg (by rw [c_6]; decide), if_neg (fun z => by rcases z with z | z; exact absurd z (by rw [c_9]; decide); have := z.1; omega), if_pos (Or.inr (by simpa [io] using c_14))] at hQ; exact hQ), ht⟩) (fun q h => by cases h) dX1_kindOf_140
          · have c_10 := (bI_eqN (k := 46) (by omega)).mp c_10
            refine lv_iload_n hx hb dX1_kindOf_110 rfl (lv_at hl 2 rfl) ?_
            refine vp_callSi (va_Run.run (va_runS (As := [.int (bI nx)]) (rest := []) ⟨hx, hb, hml, hown, hts⟩ (r_isDigit l nx) (cwS 1 hts (gS (fun _ h => h) ml_X1_99 sm_X1_isDigit ini_X1 co_X1_isDigit) rfl rfl rfl pd_X1_isDigit ⟨Nat.le_of_ble_eq_true rfl, Nat.le_of_ble_eq_true rfl⟩) st_pre rfl rfl hl.1 rfl (lv_room (Nat.le_of_ble_eq_true rfl)) dX1_kindOf_111 ⟨Nat.zero_le _, Nat.zero_le _⟩)) (fun r_15 (e_16 : r_15 = b2i (isD nx)) => ?_)
            subst e_16
            refine lv_if_eq (tgt := 121) hx hb dX1_kindOf_114 (by decide) (fun c_17 => ?_) (fun c_17 => ?_)
            · have c_17 := (b2i_z (isD nx)).mp c_17
              refine lv_iload_n hx hb dX1_kindOf_121 rfl (lv_at hl 2 rfl) ?_
              refine lv_if_ge (tgt := 134) hx hb dX1_kindOf_122 (by decide) (fun c_18 => ?_) (fun c_18 => ?_)
              · have c_18 := (bI_Nle (k := 0) (by omega)).mp c_18
                refine lv_iconst (v := nI 5) hx hb dX1_kindOf_134 (by decide) ?_
                refine lv_goto (tgt := 140) hx hb dX1_kindOf_135 (by decide) ?_
                exact W.iret (v := nI 5) hx hb hr (fun t ht hW => ⟨_, rfl, (by rw [kq, if_neg (by omega), if_neg (by rw [c_6]; decide), if_neg (fun z => by rcases z with z | z; exact absurd z (by rw [c_9]; decide); exact absurd z.2 (by rw [c_17]; decide)), if_pos (Or.inl (by omega))] at hQ; exact hQ), ht⟩) (fun q h => by cases h) dX1_kindOf_140
              · have c_18 := mt (bI_Nle (k := 0) (by omega)).mpr c_18
                refine lv_iload_n hx hb dX1_kindOf_125 rfl (lv_at hl 1 rfl) ?_
                refine va_ldcS hx hb hown hw.2.2.2.2.2.2.2.2.2 dX1_kindOf_126 ?_
                refine vp_callSi (va_Run.run (va_runS (As := [.int (bI b), .ref (dK 6)]) (rest := []) ⟨hx, hb, hml, hown, hts⟩ (r_isOneOf l dK dV A0 b 6 (by decide)) (cwS 2 hts (gS (fun _ h => h) ml_X1_85 sm_X1_isOneOf ini_X1 co_X1_isOneOf) rfl rfl rfl pd_X1_isOneOf ⟨Nat.le_of_ble_eq_true rfl, Nat.le_of_ble_eq_true rfl⟩) (sw_preS hw) rfl rfl hl.1 rfl (lv_room (Nat.le_of_ble_eq_true rfl)) dX1_kindOf_128 ⟨Nat.zero_le _, Nat.zero_le _⟩)) (fun r_19 (e_20 : r_19 = b2i (ioG 6 b 65 0 false)) => ?_)
                subst e_20
                refine lv_if_eq (tgt := 138) hx hb dX1_kindOf_131 (by decide) (fun c_21 => ?_) (fun c_21 => ?_)
                · have c_21 := (b2i_z (ioG 6 b 65 0 false)).mp c_21
                  refine lv_bipush (v := nI 6) hx hb dX1_kindOf_138 (by decide) ?_
                  exact W.iret (v := nI 6) hx hb hr (fun t ht hW => ⟨_, rfl, (by rw [kq, if_neg (by omega), if_neg (by rw [c_6]; decide), if_neg (fun z => by rcases z with z | z; exact absurd z (by rw [c_9]; decide); exact absurd z.2 (by rw [c_17]; decide)), if_neg (fun z => by rcases z with z | z; omega; exact absurd z (by unfold io; rw [c_21]; decide))] at hQ; exact hQ), ht⟩) (fun q h => by cases h) dX1_kindOf_140
                · have c_21 := mt (b2i_z (ioG 6 b 65 0 false)).mpr c_21
                  refine lv_iconst (v := nI 5) hx hb dX1_kindOf_134 (by decide) ?_
                  refine lv_goto (tgt := 140) hx hb dX1_kindOf_135 (by decide) ?_
                  exact W.iret (v := nI 5) hx hb hr (fun t ht hW => ⟨_, rfl, (by rw [kq, if_neg (by omega), if_neg (by rw [c_6]; decide), if_neg (fun z => by rcases z with z | z; exact absurd z (by rw [c_9]; decide); exact absurd z.2 (by rw [c_17]; decide)), if_pos (Or.inr (by simpa [io] using c_21))] at hQ; exact hQ), ht⟩) (fun q h => by cases h) dX1_kindOf_140
            · have c_17 := mt (b2i_z (isD nx)).mpr c_17
              refine lv_iconst (v := nI 2) hx hb dX1_kindOf_117 (by decide) ?_
              refine lv_goto (tgt := 140) hx hb dX1_kindOf_118 (by decide) ?_
              exact W.iret (v := nI 2) hx hb hr (fun t ht hW => ⟨_, rfl, (by rw [kq, if_neg (by omega), if_neg (by rw [c_6]; decide), if_pos (Or.inr ⟨by omega, by simpa using c_17⟩)] at hQ; exact hQ), ht⟩) (fun q h => by cases h) dX1_kindOf_140
      · have c_6 := mt (b2i_z (isL b)).mpr c_6
        refine lv_iconst (v := nI 1) hx hb dX1_kindOf_95 (by decide) ?_
        exact W.iret (v := nI 1) hx hb hr (fun t ht hW => ⟨_, rfl, (by rw [kq, if_neg (by omega), if_pos (by simpa using c_6)] at hQ; exact hQ), ht⟩) (fun q h => by cases h) dX1_kindOf_96
    · have c_3 := (bI_eqN (k := 39) (by omega)).mp c_3
      refine lv_iload hx hb dX1_kindOf_75 (lv_at hl 3 rfl) ?_
      refine lv_bipush (v := nI 34) hx hb dX1_kindOf_77 (by decide) ?_
      refine lv_icmp_ne (tgt := 86) hx hb dX1_kindOf_79 (by decide) (fun c_22 => ?_) (fun c_22 => ?_)
      · have c_22 := mt (bI_eqN (k := 34) (by omega)).mpr c_22
        refine lv_iconst (v := nI 4) hx hb dX1_kindOf_86 (by decide) ?_
        exact W.iret (v := nI 4) hx hb hr (fun t ht hW => ⟨_, rfl, (by rw [kq, if_pos (by omega), if_neg (by omega)] at hQ; exact hQ), ht⟩) (fun q h => by cases h) dX1_kindOf_87
      · have c_22 := (bI_eqN (k := 34) (by omega)).mp c_22
        refine lv_iconst (v := nI 3) hx hb dX1_kindOf_82 (by decide) ?_
        refine lv_goto (tgt := 87) hx hb dX1_kindOf_83 (by decide) ?_
        exact W.iret (v := nI 3) hx hb hr (fun t ht hW => ⟨_, rfl, (by rw [kq, if_pos (by omega), if_pos (by omega)] at hQ; exact hQ), ht⟩) (fun q h => by cases h) dX1_kindOf_87
set_option maxHeartbeats 4000000 in
set_option maxRecDepth 100000 in
theorem r_kindOf (l : Launch) (dC : Nat → ClassId) (dI : Nat → Nat → Nat) (ct : Nat → ClassId) (ad : Nat → Nat) (dK dV : Nat → Nat) (A0 : Nat → Prop) (Y x1 x2 x3 x4 x5 x6 x7 x8 x9 : Nat → Nat) (j : Nat) (hj : j < 8000) (hs1 : 1 ≤ x6 j) (hs2 : x5 j + x6 j ≤ 32768) (h9 : ∀ j, x9 j < 256) : Met l yX1_kindOf wX1_kindOf ({ frames := 5, cells := 0, slots := 0, locals := 108 }) (va_Pc [.ref (ad 0), .int (nI j)] (fun U => rmR dC dI ct ad (Y, x1, x2, x3, x4, x5, x6, x7, x8, x9) U ∧ swd dK dV A0 U U.heap)) (vp_Si (fun r => r = nI (kn (x9 (x5 j)) (if 1 < x6 j then x9 (x5 j + 1) else 256)))) 0 0 (fun _ => False) := by
  refine Met.ofW (cc := cX1_kindOf) (maxL := 5) (ret := (some .int)) (by decide) rfl ?_
  intro p e s m args below meth c s₁ B hml hv
  obtain ⟨rfl, ⟨hP, hK⟩, hw⟩ := hv
  have hx := B.exec
  have hb := B.bytes
  have hr := B.returns
  have hts : ∀ w ∈ bw, w.before _ s = true := fun w h => atoms_spec (ws := wX1_kindOf) B.pre w (bc w h)
  have hown : s.vm.findClass RX1 = some m.cls := findClass_of_methodNamed B.named
  have hlocks := B.notSynchronized
  have hl := lv_entry ([.ref (ad 0), .int (nI j)]) (n := 5) (Nat.le_of_ble_eq_true rfl)
  rw [lg_entry_eq]
  generalize (lg_sl ([.ref (ad 0), .int (nI j)]) ++ List.replicate (5 - (lg_sl ([.ref (ad 0), .int (nI j)])).length) Slot.unset).toArray = ls at hl ⊢
  have hl : lv_has ls 5 [(0, .ref (ad 0)), (1, .int (nI j))] := hl
  refine lv_aload_n hx hb dX1_kindOf_0 rfl (lv_at hl 0 rfl) ?_
  refine lv_iload_n hx hb dX1_kindOf_1 rfl (lv_at hl 1 rfl) ?_
  refine lv_iconst (v := nI 0) hx hb dX1_kindOf_2 (by decide) ?_
  refine vp_callSi (va_Run.run (va_runV (As := [.int (nI j), .int (nI 0)]) (rest := []) ⟨hx, hb, hml, hown, hts⟩ (r_byteOf l dC dI ct ad Y x1 x2 x3 x4 x5 x6 x7 x8 x9 j 0 (show j < 8000 by omega) (show x5 j + 0 < 32768 by omega) h9) (cwV 2 hts (gV (fun _ h => h) ml_X1_136 im_X1_byteOf se_X1_byteOf ini_X1 co_X1_byteOf) rfl rfl rfl pd_X1_byteOf ⟨Nat.le_of_ble_eq_true rfl, Nat.le_of_ble_eq_true rfl⟩) (rm_preR hK hP) rfl rfl hl.1 rfl (lv_room (Nat.le_of_ble_eq_true rfl)) dX1_kindOf_3 ⟨Nat.zero_le _, Nat.zero_le _⟩)) (fun r_1 (e_2 : r_1 = nI (x9 (x5 j + 0))) => ?_)
  subst e_2
  have := h9 (x5 j + 0)
  refine lv_topi (fun x_3 e_4 => ?_)
  obtain rfl : x_3 = bI (x9 (x5 j)) := e_4.trans (bI_lo (h9 _)).symm
  have := h9 (x5 j)
  refine lv_istore_n (lv' := [(2, .int (bI (x9 (x5 j)))), (0, .ref (ad 0)), (1, .int (nI j))]) hx hb dX1_kindOf_6 rfl hl (by decide) rfl (fun ls hl => ?_)
  refine lv_aload_n hx hb dX1_kindOf_7 rfl (lv_at hl 1 rfl) ?_
  refine va_get (D := (dC, dI)) (ci := 1) (v := .ref (ad 6)) (C := RX1) (T := TX1) (N := 20) hx hb hts inX1 hown hK hP 0 rfl rfl 15 (by decide) (hts _ fl_X1_27) (fun _ h9 => h9) rfl dX1_kindOf_8 ?_
  refine lv_iload_n hx hb dX1_kindOf_11 rfl (lv_at hl 2 rfl) ?_
  refine va_iald hx hb hK hP 6 1 rfl rfl (vp_in_nI (by omega) (by decide)) dX1_kindOf_12 ?_
  refine lv_topi (fun x_5 e_6 => ?_)
  obtain rfl : x_5 = nI (x6 j) := e_6.trans (by rw [nI_clamp (by omega)])
  refine lv_iconst (v := nI 1) hx hb dX1_kindOf_13 (by decide) ?_
  refine lv_icmp_le (tgt := 26) hx hb dX1_kindOf_14 (by decide) (fun c_7 => ?_) (fun c_7 => ?_)
  · have c_7 := (nI_leI (a := x6 j) (b := 1) (by omega) (by omega)).mp c_7
    refine lv_iconst (v := (-1)) hx hb dX1_kindOf_26 (by decide) ?_
    refine lv_topi (fun x_8 e_9 => ?_)
    obtain rfl : x_8 = bI 256 := e_9.trans rfl
    refine lv_istore_n (lv' := [(3, .int (bI 256)), (2, .int (bI (x9 (x5 j)))), (0, .ref (ad 0)), (1, .int (nI j))]) hx hb dX1_kindOf_27 rfl hl (by decide) rfl (fun ls hl => ?_)
    refine lv_iload_n hx hb dX1_kindOf_28 rfl (lv_at hl 1 rfl) ?_
    refine lv_bipush (v := nI 76) hx hb dX1_kindOf_29 (by decide) ?_
    refine lv_icmp_ne (tgt := 50) hx hb dX1_kindOf_31 (by decide) (fun c_10 => ?_) (fun c_10 => ?_)
    · have c_10 := mt (bI_eqN (k := 76) (by omega)).mpr c_10
      refine lv_iload_n hx hb dX1_kindOf_50 rfl (lv_at hl 0 rfl) ?_
      refine lv_if_lt (tgt := 58) hx hb dX1_kindOf_51 (by decide) (fun c_11 => ?_) (fun c_11 => ?_)
      · have c_11 := (bI_ltN (k := 0) (by omega)).mp c_11
        refine lv_iconst (v := (-1)) hx hb dX1_kindOf_58 (by decide) ?_
        refine lv_topi (fun x_12 e_13 => ?_)
        obtain rfl : x_12 = bI 256 := e_13.trans rfl
        refine lv_istore (lv' := [(4, .int (bI 256)), (3, .int (bI 256)), (2, .int (bI (x9 (x5 j)))), (0, .ref (ad 0)), (1, .int (nI j))]) hx hb dX1_kindOf_59 hl (by decide) rfl (fun ls hl => ?_)
        exact t_kindOf_61 hx hb hr hml hown hts hlocks hK hP hw _ _ _ (by omega) (fun r => r = nI (kn (x9 (x5 j)) (if 1 < x6 j then x9 (x5 j + 1) else 256))) (by rw [show (if 1 < x6 j then x9 (x5 j + 1) else 256) = 256 from if_neg (by omega), kn_3 (by omega) (by omega)]) _ (lv_sub hl [3, 2, 1, 0] rfl)
      · have c_11 := mt (bI_ltN (k := 0) (by omega)).mpr c_11
        refine lv_iload_n hx hb dX1_kindOf_54 rfl (lv_at hl 1 rfl) ?_
        refine lv_goto (tgt := 59) hx hb dX1_kindOf_55 (by decide) ?_
        refine lv_istore (lv' := [(4, .int (bI (x9 (x5 j)))), (3, .int (bI 256)), (2, .int (bI (x9 (x5 j)))), (0, .ref (ad 0)), (1, .int (nI j))]) hx hb dX1_kindOf_59 hl (by decide) rfl (fun ls hl => ?_)
        exact t_kindOf_61 hx hb hr hml hown hts hlocks hK hP hw _ _ _ (by omega) (fun r => r = nI (kn (x9 (x5 j)) (if 1 < x6 j then x9 (x5 j + 1) else 256))) (by rw [show (if 1 < x6 j then x9 (x5 j + 1) else 256) = 256 from if_neg (by omega), kn_2 (by omega) (by omega)]) _ (lv_sub hl [3, 2, 1, 0] rfl)
    · have c_10 := (bI_eqN (k := 76) (by omega)).mp c_10
      refine lv_iload_n hx hb dX1_kindOf_34 rfl (lv_at hl 0 rfl) ?_
      refine lv_bipush (v := nI 34) hx hb dX1_kindOf_35 (by decide) ?_
      refine lv_icmp_eq (tgt := 46) hx hb dX1_kindOf_37 (by decide) (fun c_14 => ?_) (fun c_14 => ?_)
      · have c_14 := (bI_eqN (k := 34) (by omega)).mp c_14
        refine lv_iload_n hx hb dX1_kindOf_46 rfl (lv_at hl 0 rfl) ?_
        refine lv_goto (tgt := 59) hx hb dX1_kindOf_47 (by decide) ?_
        refine lv_istore (lv' := [(4, .int (bI 256)), (3, .int (bI 256)), (2, .int (bI (x9 (x5 j)))), (0, .ref (ad 0)), (1, .int (nI j))]) hx hb dX1_kindOf_59 hl (by decide) rfl (fun ls hl => ?_)
        exact t_kindOf_61 hx hb hr hml hown hts hlocks hK hP hw _ _ _ (by omega) (fun r => r = nI (kn (x9 (x5 j)) (if 1 < x6 j then x9 (x5 j + 1) else 256))) (by rw [show (if 1 < x6 j then x9 (x5 j + 1) else 256) = 256 from if_neg (by omega), kn_1 (by omega)]) _ (lv_sub hl [3, 2, 1, 0] rfl)
      · have c_14 := mt (bI_eqN (k := 34) (by omega)).mpr c_14
        refine lv_iload_n hx hb dX1_kindOf_40 rfl (lv_at hl 0 rfl) ?_
        refine lv_bipush (v := nI 39) hx hb dX1_kindOf_41 (by decide) ?_
        refine lv_icmp_ne (tgt := 50) hx hb dX1_kindOf_43 (by decide) (fun c_15 => ?_) (fun c_15 => ?_)
        · have c_15 := mt (bI_eqN (k := 39) (by omega)).mpr c_15
          refine lv_iload_n hx hb dX1_kindOf_50 rfl (lv_at hl 0 rfl) ?_
          refine lv_if_lt (tgt := 58) hx hb dX1_kindOf_51 (by decide) (fun c_16 => ?_) (fun c_16 => ?_)
          · have c_16 := (bI_ltN (k := 0) (by omega)).mp c_16
            refine lv_iconst (v := (-1)) hx hb dX1_kindOf_58 (by decide) ?_
            refine lv_topi (fun x_17 e_18 => ?_)
            obtain rfl : x_17 = bI 256 := e_18.trans rfl
            refine lv_istore (lv' := [(4, .int (bI 256)), (3, .int (bI 256)), (2, .int (bI (x9 (x5 j)))), (0, .ref (ad 0)), (1, .int (nI j))]) hx hb dX1_kindOf_59 hl (by decide) rfl (fun ls hl => ?_)
            exact t_kindOf_61 hx hb hr hml hown hts hlocks hK hP hw _ _ _ (by omega) (fun r => r = nI (kn (x9 (x5 j)) (if 1 < x6 j then x9 (x5 j + 1) else 256))) (by rw [show (if 1 < x6 j then x9 (x5 j + 1) else 256) = 256 from if_neg (by omega), kn_3 (by omega) (by omega)]) _ (lv_sub hl [3, 2, 1, 0] rfl)
          · have c_16 := mt (bI_ltN (k := 0) (by omega)).mpr c_16
            refine lv_iload_n hx hb dX1_kindOf_54 rfl (lv_at hl 1 rfl) ?_
            refine lv_goto (tgt := 59) hx hb dX1_kindOf_55 (by decide) ?_
            refine lv_istore (lv' := [(4, .int (bI (x9 (x5 j)))), (3, .int (bI 256)), (2, .int (bI (x9 (x5 j)))), (0, .ref (ad 0)), (1, .int (nI j))]) hx hb dX1_kindOf_59 hl (by decide) rfl (fun ls hl => ?_)
            exact t_kindOf_61 hx hb hr hml hown hts hlocks hK hP hw _ _ _ (by omega) (fun r => r = nI (kn (x9 (x5 j)) (if 1 < x6 j then x9 (x5 j + 1) else 256))) (by rw [show (if 1 < x6 j then x9 (x5 j + 1) else 256) = 256 from if_neg (by omega), kn_2 (by omega) (by omega)]) _ (lv_sub hl [3, 2, 1, 0] rfl)
        · have c_15 := (bI_eqN (k := 39) (by omega)).mp c_15
          refine lv_iload_n hx hb dX1_kindOf_46 rfl (lv_at hl 0 rfl) ?_
          refine lv_goto (tgt := 59) hx hb dX1_kindOf_47 (by decide) ?_
          refine lv_istore (lv' := [(4, .int (bI 256)), (3, .int (bI 256)), (2, .int (bI (x9 (x5 j)))), (0, .ref (ad 0)), (1, .int (nI j))]) hx hb dX1_kindOf_59 hl (by decide) rfl (fun ls hl => ?_)
          exact t_kindOf_61 hx hb hr hml hown hts hlocks hK hP hw _ _ _ (by omega) (fun r => r = nI (kn (x9 (x5 j)) (if 1 < x6 j then x9 (x5 j + 1) else 256))) (by rw [show (if 1 < x6 j then x9 (x5 j + 1) else 256) = 256 from if_neg (by omega), kn_1 (by omega)]) _ (lv_sub hl [3, 2, 1, 0] rfl)
  · have c_7 := mt (nI_leI (a := x6 j) (b := 1) (by omega) (by omega)).mpr c_7
    refine lv_aload_n hx hb dX1_kindOf_17 rfl (lv_at hl 1 rfl) ?_
    refine lv_iload_n hx hb dX1_kindOf_18 rfl (lv_at hl 2 rfl) ?_
    refine lv_iconst (v := nI 1) hx hb dX1_kindOf_19 (by decide) ?_
    refine vp_callSi (va_Run.run (va_runV (As := [.int (nI j), .int (nI 1)]) (rest := []) ⟨hx, hb, hml, hown, hts⟩ (r_byteOf l dC dI ct ad Y x1 x2 x3 x4 x5 x6 x7 x8 x9 j 1 (show j < 8000 by omega) (show x5 j + 1 < 32768 by omega) h9) (cwV 2 hts (gV (fun _ h => h) ml_X1_136 im_X1_byteOf se_X1_byteOf ini_X1 co_X1_byteOf) rfl rfl rfl pd_X1_byteOf ⟨Nat.le_of_ble_eq_true rfl, Nat.le_of_ble_eq_true rfl⟩) (rm_preR hK hP) rfl rfl hl.1 rfl (lv_room (Nat.le_of_ble_eq_true rfl)) dX1_kindOf_20 ⟨Nat.zero_le _, Nat.zero_le _⟩)) (fun r_19 (e_20 : r_19 = nI (x9 (x5 j + 1))) => ?_)
    subst e_20
    have := h9 (x5 j + 1)
    refine lv_goto (tgt := 27) hx hb dX1_kindOf_23 (by decide) ?_
    refine lv_topi (fun x_21 e_22 => ?_)
    obtain rfl : x_21 = bI (x9 (x5 j + 1)) := e_22.trans (bI_lo (by omega)).symm
    refine lv_istore_n (lv' := [(3, .int (bI (x9 (x5 j + 1)))), (2, .int (bI (x9 (x5 j)))), (0, .ref (ad 0)), (1, .int (nI j))]) hx hb dX1_kindOf_27 rfl hl (by decide) rfl (fun ls hl => ?_)
    refine lv_iload_n hx hb dX1_kindOf_28 rfl (lv_at hl 1 rfl) ?_
    refine lv_bipush (v := nI 76) hx hb dX1_kindOf_29 (by decide) ?_
    refine lv_icmp_ne (tgt := 50) hx hb dX1_kindOf_31 (by decide) (fun c_23 => ?_) (fun c_23 => ?_)
    · have c_23 := mt (bI_eqN (k := 76) (by omega)).mpr c_23
      refine lv_iload_n hx hb dX1_kindOf_50 rfl (lv_at hl 0 rfl) ?_
      refine lv_if_lt (tgt := 58) hx hb dX1_kindOf_51 (by decide) (fun c_24 => ?_) (fun c_24 => ?_)
      · have c_24 := (bI_ltN (k := 0) (by omega)).mp c_24
        refine lv_iconst (v := (-1)) hx hb dX1_kindOf_58 (by decide) ?_
        refine lv_topi (fun x_25 e_26 => ?_)
        obtain rfl : x_25 = bI 256 := e_26.trans rfl
        refine lv_istore (lv' := [(4, .int (bI 256)), (3, .int (bI (x9 (x5 j + 1)))), (2, .int (bI (x9 (x5 j)))), (0, .ref (ad 0)), (1, .int (nI j))]) hx hb dX1_kindOf_59 hl (by decide) rfl (fun ls hl => ?_)
        exact t_kindOf_61 hx hb hr hml hown hts hlocks hK hP hw _ _ _ (by omega) (fun r => r = nI (kn (x9 (x5 j)) (if 1 < x6 j then x9 (x5 j + 1) else 256))) (by rw [show (if 1 < x6 j then x9 (x5 j + 1) else 256) = x9 (x5 j + 1) from if_pos (by omega), kn_3 (by omega) (by omega)]) _ (lv_sub hl [3, 2, 1, 0] rfl)
      · have c_24 := mt (bI_ltN (k := 0) (by omega)).mpr c_24
        refine lv_iload_n hx hb dX1_kindOf_54 rfl (lv_at hl 1 rfl) ?_
        refine lv_goto (tgt := 59) hx hb dX1_kindOf_55 (by decide) ?_
        refine lv_istore (lv' := [(4, .int (bI (x9 (x5 j)))), (3, .int (bI (x9 (x5 j + 1)))), (2, .int (bI (x9 (x5 j)))), (0, .ref (ad 0)), (1, .int (nI j))]) hx hb dX1_kindOf_59 hl (by decide) rfl (fun ls hl => ?_)
        exact t_kindOf_61 hx hb hr hml hown hts hlocks hK hP hw _ _ _ (by omega) (fun r => r = nI (kn (x9 (x5 j)) (if 1 < x6 j then x9 (x5 j + 1) else 256))) (by rw [show (if 1 < x6 j then x9 (x5 j + 1) else 256) = x9 (x5 j + 1) from if_pos (by omega), kn_2 (by omega) (by omega)]) _ (lv_sub hl [3, 2, 1, 0] rfl)
    · have c_23 := (bI_eqN (k := 76) (by omega)).mp c_23
      refine lv_iload_n hx hb dX1_kindOf_34 rfl (lv_at hl 0 rfl) ?_
      refine lv_bipush (v := nI 34) hx hb dX1_kindOf_35 (by decide) ?_
      refine lv_icmp_eq (tgt := 46) hx hb dX1_kindOf_37 (by decide) (fun c_27 => ?_) (fun c_27 => ?_)
      · have c_27 := (bI_eqN (k := 34) (by omega)).mp c_27
        refine lv_iload_n hx hb dX1_kindOf_46 rfl (lv_at hl 0 rfl) ?_
        refine lv_goto (tgt := 59) hx hb dX1_kindOf_47 (by decide) ?_
        refine lv_istore (lv' := [(4, .int (bI (x9 (x5 j + 1)))), (3, .int (bI (x9 (x5 j + 1)))), (2, .int (bI (x9 (x5 j)))), (0, .ref (ad 0)), (1, .int (nI j))]) hx hb dX1_kindOf_59 hl (by decide) rfl (fun ls hl => ?_)
        exact t_kindOf_61 hx hb hr hml hown hts hlocks hK hP hw _ _ _ (by omega) (fun r => r = nI (kn (x9 (x5 j)) (if 1 < x6 j then x9 (x5 j + 1) else 256))) (by rw [show (if 1 < x6 j then x9 (x5 j + 1) else 256) = x9 (x5 j + 1) from if_pos (by omega), kn_1 (by omega)]) _ (lv_sub hl [3, 2, 1, 0] rfl)
      · have c_27 := mt (bI_eqN (k := 34) (by omega)).mpr c_27
        refine lv_iload_n hx hb dX1_kindOf_40 rfl (lv_at hl 0 rfl) ?_
        refine lv_bipush (v := nI 39) hx hb dX1_kindOf_41 (by decide) ?_
        refine lv_icmp_ne (tgt := 50) hx hb dX1_kindOf_43 (by decide) (fun c_28 => ?_) (fun c_28 => ?_)
        · have c_28 := mt (bI_eqN (k := 39) (by omega)).mpr c_28
          refine lv_iload_n hx hb dX1_kindOf_50 rfl (lv_at hl 0 rfl) ?_
          refine lv_if_lt (tgt := 58) hx hb dX1_kindOf_51 (by decide) (fun c_29 => ?_) (fun c_29 => ?_)
          · have c_29 := (bI_ltN (k := 0) (by omega)).mp c_29
            refine lv_iconst (v := (-1)) hx hb dX1_kindOf_58 (by decide) ?_
            refine lv_topi (fun x_30 e_31 => ?_)
            obtain rfl : x_30 = bI 256 := e_31.trans rfl
            refine lv_istore (lv' := [(4, .int (bI 256)), (3, .int (bI (x9 (x5 j + 1)))), (2, .int (bI (x9 (x5 j)))), (0, .ref (ad 0)), (1, .int (nI j))]) hx hb dX1_kindOf_59 hl (by decide) rfl (fun ls hl => ?_)
            exact t_kindOf_61 hx hb hr hml hown hts hlocks hK hP hw _ _ _ (by omega) (fun r => r = nI (kn (x9 (x5 j)) (if 1 < x6 j then x9 (x5 j + 1) else 256))) (by rw [show (if 1 < x6 j then x9 (x5 j + 1) else 256) = x9 (x5 j + 1) from if_pos (by omega), kn_3 (by omega) (by omega)]) _ (lv_sub hl [3, 2, 1, 0] rfl)
          · have c_29 := mt (bI_ltN (k := 0) (by omega)).mpr c_29
            refine lv_iload_n hx hb dX1_kindOf_54 rfl (lv_at hl 1 rfl) ?_
            refine lv_goto (tgt := 59) hx hb dX1_kindOf_55 (by decide) ?_
            refine lv_istore (lv' := [(4, .int (bI (x9 (x5 j)))), (3, .int (bI (x9 (x5 j + 1)))), (2, .int (bI (x9 (x5 j)))), (0, .ref (ad 0)), (1, .int (nI j))]) hx hb dX1_kindOf_59 hl (by decide) rfl (fun ls hl => ?_)
            exact t_kindOf_61 hx hb hr hml hown hts hlocks hK hP hw _ _ _ (by omega) (fun r => r = nI (kn (x9 (x5 j)) (if 1 < x6 j then x9 (x5 j + 1) else 256))) (by rw [show (if 1 < x6 j then x9 (x5 j + 1) else 256) = x9 (x5 j + 1) from if_pos (by omega), kn_2 (by omega) (by omega)]) _ (lv_sub hl [3, 2, 1, 0] rfl)
        · have c_28 := (bI_eqN (k := 39) (by omega)).mp c_28
          refine lv_iload_n hx hb dX1_kindOf_46 rfl (lv_at hl 0 rfl) ?_
          refine lv_goto (tgt := 59) hx hb dX1_kindOf_47 (by decide) ?_
          refine lv_istore (lv' := [(4, .int (bI (x9 (x5 j + 1)))), (3, .int (bI (x9 (x5 j + 1)))), (2, .int (bI (x9 (x5 j)))), (0, .ref (ad 0)), (1, .int (nI j))]) hx hb dX1_kindOf_59 hl (by decide) rfl (fun ls hl => ?_)
          exact t_kindOf_61 hx hb hr hml hown hts hlocks hK hP hw _ _ _ (by omega) (fun r => r = nI (kn (x9 (x5 j)) (if 1 < x6 j then x9 (x5 j + 1) else 256))) (by rw [show (if 1 < x6 j then x9 (x5 j + 1) else 256) = x9 (x5 j + 1) from if_pos (by omega), kn_1 (by omega)]) _ (lv_sub hl [3, 2, 1, 0] rfl)
def rkA (x5 x6 x7 x8 x9 : Nat → Nat) (j : Nat) (w : Int32) : Int32 :=
  if w = nI 0 then nI (kn (x9 (x5 j)) (if 1 < x6 j then x9 (x5 j + 1) else 256)) else if w = nI 1 then nI (x7 j) else if w = nI 2 then nI (x6 j) else if w = nI 3 then nI (if x8 j = 0 then 0 else 1) else if w = nI 4 then nI (if j = 0 then 1 else 0) else (-1)
set_option maxHeartbeats 4000000 in
set_option maxRecDepth 100000 in
theorem r_token_out (l : Launch) (dC : Nat → ClassId) (dI : Nat → Nat → Nat) (ct : Nat → ClassId) (ad : Nat → Nat) (dK dV : Nat → Nat) (A0 : Nat → Prop) (Y x1 x2 x3 x4 x5 x6 x7 x8 x9 : Nat → Nat) (i : Int32) (w : Int32) (h : i < 0 ∨ nI (Y 13) ≤ i) : Met l yX1_token wX1_token ({ frames := 6, cells := 0, slots := 0, locals := 132 }) (va_Pc [.ref (ad 0), .int (i), .int (w)] (fun U => rmR dC dI ct ad (Y, x1, x2, x3, x4, x5, x6, x7, x8, x9) U ∧ swd dK dV A0 U U.heap)) (vp_Si (fun r => r = (-1))) 0 0 (fun _ => False) := by
  refine Met.ofW (cc := cX1_token) (maxL := 3) (ret := (some .int)) (by decide) rfl ?_
  intro p e s m args below meth c s₁ B hml hv
  obtain ⟨rfl, ⟨hP, hK⟩, hw⟩ := hv
  have hx := B.exec
  have hb := B.bytes
  have hr := B.returns
  have hts : ∀ w ∈ bw, w.before _ s = true := fun w h => atoms_spec (ws := wX1_token) B.pre w (bc w h)
  have hown : s.vm.findClass RX1 = some m.cls := findClass_of_methodNamed B.named
  have hlocks := B.notSynchronized
  have hl := lv_entry ([.ref (ad 0), .int (i), .int (w)]) (n := 3) (Nat.le_of_ble_eq_true rfl)
  rw [lg_entry_eq]
  generalize (lg_sl ([.ref (ad 0), .int (i), .int (w)]) ++ List.replicate (3 - (lg_sl ([.ref (ad 0), .int (i), .int (w)])).length) Slot.unset).toArray = ls at hl ⊢
  have hl : lv_has ls 3 [(0, .ref (ad 0)), (1, .int (i)), (2, .int (w))] := hl
  refine lv_iload_n hx hb dX1_token_0 rfl (lv_at hl 1 rfl) ?_
  refine lv_if_lt (tgt := 21) hx hb dX1_token_1 (by decide) (fun c_1 => ?_) (fun c_1 => ?_)
  · refine lv_iconst (v := (-1)) hx hb dX1_token_21 (by decide) ?_
    exact W.iret (v := (-1)) hx hb hr (fun t ht hW => ⟨_, rfl, rfl, ht⟩) (fun q h => by cases h) dX1_token_22
  · refine lv_iload_n hx hb dX1_token_4 rfl (lv_at hl 1 rfl) ?_
    refine lv_aload_n hx hb dX1_token_5 rfl (lv_at hl 0 rfl) ?_
    refine va_get (D := (dC, dI)) (ci := 1) (v := .int (nI (Y 13))) (C := RX1) (T := TX1) (N := 20) hx hb hts inX1 hown hK hP 0 rfl rfl 13 (by decide) (hts _ fl_X1_66) (fun _ h9 => h9) rfl dX1_token_6 ?_
    refine lv_icmp_ge (tgt := 21) hx hb dX1_token_9 (by decide) (fun c_2 => ?_) (fun c_2 => ?_)
    · refine lv_iconst (v := (-1)) hx hb dX1_token_21 (by decide) ?_
      exact W.iret (v := (-1)) hx hb hr (fun t ht hW => ⟨_, rfl, rfl, ht⟩) (fun q h => by cases h) dX1_token_22
    · exact (h.elim c_1 c_2).elim
set_option maxHeartbeats 4000000 in
set_option maxRecDepth 100000 in
theorem r_token_in (l : Launch) (dC : Nat → ClassId) (dI : Nat → Nat → Nat) (ct : Nat → ClassId) (ad : Nat → Nat) (dK dV : Nat → Nat) (A0 : Nat → Prop) (Y x1 x2 x3 x4 x5 x6 x7 x8 x9 : Nat → Nat) (j : Nat) (w : Int32) (hj13 : j < Y 13) (hj : j < 8000) (hs1 : 1 ≤ x6 j) (hs2 : x5 j + x6 j ≤ 32768) (hx8 : x8 j ≤ 1) (h13 : Y 13 ≤ 8000) (h9 : ∀ j, x9 j < 256) : Met l yX1_token wX1_token ({ frames := 6, cells := 0, slots := 0, locals := 132 }) (va_Pc [.ref (ad 0), .int (nI j), .int (w)] (fun U => rmR dC dI ct ad (Y, x1, x2, x3, x4, x5, x6, x7, x8, x9) U ∧ swd dK dV A0 U U.heap)) (vp_Si (fun r => r = rkA x5 x6 x7 x8 x9 j w)) 0 0 (fun _ => False) := by
  refine Met.ofW (cc := cX1_token) (maxL := 3) (ret := (some .int)) (by decide) rfl ?_
  intro p e s m args below meth c s₁ B hml hv
  obtain ⟨rfl, ⟨hP, hK⟩, hw⟩ := hv
  have hx := B.exec
  have hb := B.bytes
  have hr := B.returns
  have hts : ∀ w ∈ bw, w.before _ s = true := fun w h => atoms_spec (ws := wX1_token) B.pre w (bc w h)
  have hown : s.vm.findClass RX1 = some m.cls := findClass_of_methodNamed B.named
  have hlocks := B.notSynchronized
  have hl := lv_entry ([.ref (ad 0), .int (nI j), .int (w)]) (n := 3) (Nat.le_of_ble_eq_true rfl)
  rw [lg_entry_eq]
  generalize (lg_sl ([.ref (ad 0), .int (nI j), .int (w)]) ++ List.replicate (3 - (lg_sl ([.ref (ad 0), .int (nI j), .int (w)])).length) Slot.unset).toArray = ls at hl ⊢
  have hl : lv_has ls 3 [(0, .ref (ad 0)), (1, .int (nI j)), (2, .int (w))] := hl
  refine lv_iload_n hx hb dX1_token_0 rfl (lv_at hl 1 rfl) ?_
  refine lv_if_lt (tgt := 21) hx hb dX1_token_1 (by decide) (fun c_1 => ?_) (fun c_1 => ?_)
  · have c_1 := (nI_ltI (a := j) (b := 0) (by omega) (by omega)).mp c_1
    omega
  · have c_1 := mt (nI_ltI (a := j) (b := 0) (by omega) (by omega)).mpr c_1
    refine lv_iload_n hx hb dX1_token_4 rfl (lv_at hl 1 rfl) ?_
    refine lv_aload_n hx hb dX1_token_5 rfl (lv_at hl 0 rfl) ?_
    refine va_get (D := (dC, dI)) (ci := 1) (v := .int (nI (Y 13))) (C := RX1) (T := TX1) (N := 20) hx hb hts inX1 hown hK hP 0 rfl rfl 13 (by decide) (hts _ fl_X1_66) (fun _ h9 => h9) rfl dX1_token_6 ?_
    refine lv_icmp_ge (tgt := 21) hx hb dX1_token_9 (by decide) (fun c_2 => ?_) (fun c_2 => ?_)
    · have c_2 := (nI_leI (a := Y 13) (b := j) (by omega) (by omega)).mp c_2
      omega
    · have c_2 := mt (nI_leI (a := Y 13) (b := j) (by omega) (by omega)).mpr c_2
      rcases sw_4 w with rfl | rfl | rfl | rfl | rfl | hsw
      · refine lv_iload_n hx hb dX1_token_12 rfl (lv_at hl 2 rfl) ?_
        refine lv_if_lt (tgt := 21) hx hb dX1_token_13 (by decide) (fun c_3 => ?_) (fun c_3 => ?_)
        · have c_3 := (nI_ltI (a := 0) (b := 0) (by omega) (by omega)).mp c_3
          omega
        · have c_3 := mt (nI_ltI (a := 0) (b := 0) (by omega) (by omega)).mpr c_3
          refine lv_iload_n hx hb dX1_token_16 rfl (lv_at hl 2 rfl) ?_
          refine lv_iconst (v := nI 4) hx hb dX1_token_17 (by decide) ?_
          refine lv_icmp_le (tgt := 23) hx hb dX1_token_18 (by decide) (fun c_4 => ?_) (fun c_4 => ?_)
          · have c_4 := (nI_leI (a := 0) (b := 4) (by omega) (by omega)).mp c_4
            refine lv_iload_n hx hb dX1_token_23 rfl (lv_at hl 2 rfl) ?_
            refine lv_tableIn (tgt := 56) hx hb dX1_token_24 (by decide) (by decide) rfl (by decide) ?_
            refine lv_aload_n hx hb dX1_token_56 rfl (lv_at hl 0 rfl) ?_
            refine lv_iload_n hx hb dX1_token_57 rfl (lv_at hl 1 rfl) ?_
            have hwH := hw
            refine vp_callSi (va_Run.run (va_runV (As := [.int (nI j)]) (rest := []) ⟨hx, hb, hml, hown, hts⟩ (r_kindOf l dC dI ct ad dK dV A0 Y x1 x2 x3 x4 x5 x6 x7 x8 x9 j hj hs1 hs2 h9) (cwV 1 hts (gV (fun _ h => h) ml_X1_141 im_X1_kindOf se_X1_kindOf ini_X1 co_X1_kindOf) rfl rfl rfl pd_X1_kindOf ⟨Nat.le_of_ble_eq_true rfl, Nat.le_of_ble_eq_true rfl⟩) (rm_preRW hK hP hwH) rfl rfl hl.1 rfl (lv_room (Nat.le_of_ble_eq_true rfl)) dX1_token_58 ⟨Nat.zero_le _, Nat.zero_le _⟩)) (fun r_5 (e_6 : r_5 = nI (kn (x9 (x5 j)) (if 1 < x6 j then x9 (x5 j + 1) else 256))) => ?_)
            subst e_6
            exact W.iret (v := nI (kn (x9 (x5 j)) (if 1 < x6 j then x9 (x5 j + 1) else 256))) hx hb hr (fun t ht hW => ⟨_, rfl, (by rw [rkA, if_pos rfl]), ht⟩) (fun q h => by cases h) dX1_token_61
          · have c_4 := mt (nI_leI (a := 0) (b := 4) (by omega) (by omega)).mpr c_4
            omega
      · refine lv_iload_n hx hb dX1_token_12 rfl (lv_at hl 2 rfl) ?_
        refine lv_if_lt (tgt := 21) hx hb dX1_token_13 (by decide) (fun c_7 => ?_) (fun c_7 => ?_)
        · have c_7 := (nI_ltI (a := 1) (b := 0) (by omega) (by omega)).mp c_7
          omega
        · have c_7 := mt (nI_ltI (a := 1) (b := 0) (by omega) (by omega)).mpr c_7
          refine lv_iload_n hx hb dX1_token_16 rfl (lv_at hl 2 rfl) ?_
          refine lv_iconst (v := nI 4) hx hb dX1_token_17 (by decide) ?_
          refine lv_icmp_le (tgt := 23) hx hb dX1_token_18 (by decide) (fun c_8 => ?_) (fun c_8 => ?_)
          · have c_8 := (nI_leI (a := 1) (b := 4) (by omega) (by omega)).mp c_8
            refine lv_iload_n hx hb dX1_token_23 rfl (lv_at hl 2 rfl) ?_
            refine lv_tableIn (tgt := 62) hx hb dX1_token_24 (by decide) (by decide) rfl (by decide) ?_
            refine lv_aload_n hx hb dX1_token_62 rfl (lv_at hl 0 rfl) ?_
            refine va_get (D := (dC, dI)) (ci := 1) (v := .ref (ad 7)) (C := RX1) (T := TX1) (N := 20) hx hb hts inX1 hown hK hP 0 rfl rfl 16 (by decide) (hts _ fl_X1_30) (fun _ h9 => h9) rfl dX1_token_63 ?_
            refine lv_iload_n hx hb dX1_token_66 rfl (lv_at hl 1 rfl) ?_
            refine va_iald hx hb hK hP 7 1 rfl rfl (vp_in_nI (by omega) (by decide)) dX1_token_67 ?_
            refine lv_topi (fun x_9 e_10 => ?_)
            obtain rfl : x_9 = nI (x7 j) := e_10.trans (by rw [nI_clamp (by omega)])
            exact W.iret (v := nI (x7 j)) hx hb hr (fun t ht hW => ⟨_, rfl, (by rw [rkA, if_neg (by decide), if_pos rfl]), ht⟩) (fun q h => by cases h) dX1_token_68
          · have c_8 := mt (nI_leI (a := 1) (b := 4) (by omega) (by omega)).mpr c_8
            omega
      · refine lv_iload_n hx hb dX1_token_12 rfl (lv_at hl 2 rfl) ?_
        refine lv_if_lt (tgt := 21) hx hb dX1_token_13 (by decide) (fun c_11 => ?_) (fun c_11 => ?_)
        · have c_11 := (nI_ltI (a := 2) (b := 0) (by omega) (by omega)).mp c_11
          omega
        · have c_11 := mt (nI_ltI (a := 2) (b := 0) (by omega) (by omega)).mpr c_11
          refine lv_iload_n hx hb dX1_token_16 rfl (lv_at hl 2 rfl) ?_
          refine lv_iconst (v := nI 4) hx hb dX1_token_17 (by decide) ?_
          refine lv_icmp_le (tgt := 23) hx hb dX1_token_18 (by decide) (fun c_12 => ?_) (fun c_12 => ?_)
          · have c_12 := (nI_leI (a := 2) (b := 4) (by omega) (by omega)).mp c_12
            refine lv_iload_n hx hb dX1_token_23 rfl (lv_at hl 2 rfl) ?_
            refine lv_tableIn (tgt := 69) hx hb dX1_token_24 (by decide) (by decide) rfl (by decide) ?_
            refine lv_aload_n hx hb dX1_token_69 rfl (lv_at hl 0 rfl) ?_
            refine va_get (D := (dC, dI)) (ci := 1) (v := .ref (ad 6)) (C := RX1) (T := TX1) (N := 20) hx hb hts inX1 hown hK hP 0 rfl rfl 15 (by decide) (hts _ fl_X1_27) (fun _ h9 => h9) rfl dX1_token_70 ?_
            refine lv_iload_n hx hb dX1_token_73 rfl (lv_at hl 1 rfl) ?_
            refine va_iald hx hb hK hP 6 1 rfl rfl (vp_in_nI (by omega) (by decide)) dX1_token_74 ?_
            refine lv_topi (fun x_13 e_14 => ?_)
            obtain rfl : x_13 = nI (x6 j) := e_14.trans (by rw [nI_clamp (by omega)])
            exact W.iret (v := nI (x6 j)) hx hb hr (fun t ht hW => ⟨_, rfl, (by rw [rkA, if_neg (by decide), if_neg (by decide), if_pos rfl]), ht⟩) (fun q h => by cases h) dX1_token_75
          · have c_12 := mt (nI_leI (a := 2) (b := 4) (by omega) (by omega)).mpr c_12
            omega
      · refine lv_iload_n hx hb dX1_token_12 rfl (lv_at hl 2 rfl) ?_
        refine lv_if_lt (tgt := 21) hx hb dX1_token_13 (by decide) (fun c_15 => ?_) (fun c_15 => ?_)
        · have c_15 := (nI_ltI (a := 3) (b := 0) (by omega) (by omega)).mp c_15
          omega
        · have c_15 := mt (nI_ltI (a := 3) (b := 0) (by omega) (by omega)).mpr c_15
          refine lv_iload_n hx hb dX1_token_16 rfl (lv_at hl 2 rfl) ?_
          refine lv_iconst (v := nI 4) hx hb dX1_token_17 (by decide) ?_
          refine lv_icmp_le (tgt := 23) hx hb dX1_token_18 (by decide) (fun c_16 => ?_) (fun c_16 => ?_)
          · have c_16 := (nI_leI (a := 3) (b := 4) (by omega) (by omega)).mp c_16
            refine lv_iload_n hx hb dX1_token_23 rfl (lv_at hl 2 rfl) ?_
            refine lv_tableIn (tgt := 76) hx hb dX1_token_24 (by decide) (by decide) rfl (by decide) ?_
            refine lv_aload_n hx hb dX1_token_76 rfl (lv_at hl 0 rfl) ?_
            refine va_get (D := (dC, dI)) (ci := 1) (v := .ref (ad 8)) (C := RX1) (T := TX1) (N := 20) hx hb hts inX1 hown hK hP 0 rfl rfl 17 (by decide) (hts _ fl_X1_33) (fun _ h9 => h9) rfl dX1_token_77 ?_
            refine lv_iload_n hx hb dX1_token_80 rfl (lv_at hl 1 rfl) ?_
            refine va_zald hx hb hK hP 8 2 rfl rfl (vp_in_nI (by omega) (by decide)) dX1_token_81 ?_
            refine lv_topi (fun x_17 e_18 => ?_)
            obtain rfl : x_17 = nI (x8 j) := e_18.trans (by rw [nI_clamp (by omega)])
            refine lv_if_eq (tgt := 89) hx hb dX1_token_82 (by decide) (fun c_19 => ?_) (fun c_19 => ?_)
            · have c_19 := (nI_eq (a := x8 j) (b := 0) (by omega) (by omega)).mp c_19
              refine lv_iconst (v := nI 0) hx hb dX1_token_89 (by decide) ?_
              exact W.iret (v := nI 0) hx hb hr (fun t ht hW => ⟨_, rfl, (by rw [rkA, if_neg (by decide), if_neg (by decide), if_neg (by decide), if_pos rfl, if_pos (by omega)]), ht⟩) (fun q h => by cases h) dX1_token_90
            · have c_19 := mt (nI_eq (a := x8 j) (b := 0) (by omega) (by omega)).mpr c_19
              refine lv_iconst (v := nI 1) hx hb dX1_token_85 (by decide) ?_
              refine lv_goto (tgt := 90) hx hb dX1_token_86 (by decide) ?_
              exact W.iret (v := nI 1) hx hb hr (fun t ht hW => ⟨_, rfl, (by rw [rkA, if_neg (by decide), if_neg (by decide), if_neg (by decide), if_pos rfl, if_neg (by omega)]), ht⟩) (fun q h => by cases h) dX1_token_90
          · have c_16 := mt (nI_leI (a := 3) (b := 4) (by omega) (by omega)).mpr c_16
            omega
      · refine lv_iload_n hx hb dX1_token_12 rfl (lv_at hl 2 rfl) ?_
        refine lv_if_lt (tgt := 21) hx hb dX1_token_13 (by decide) (fun c_20 => ?_) (fun c_20 => ?_)
        · have c_20 := (nI_ltI (a := 4) (b := 0) (by omega) (by omega)).mp c_20
          omega
        · have c_20 := mt (nI_ltI (a := 4) (b := 0) (by omega) (by omega)).mpr c_20
          refine lv_iload_n hx hb dX1_token_16 rfl (lv_at hl 2 rfl) ?_
          refine lv_iconst (v := nI 4) hx hb dX1_token_17 (by decide) ?_
          refine lv_icmp_le (tgt := 23) hx hb dX1_token_18 (by decide) (fun c_21 => ?_) (fun c_21 => ?_)
          · have c_21 := (nI_leI (a := 4) (b := 4) (by omega) (by omega)).mp c_21
            refine lv_iload_n hx hb dX1_token_23 rfl (lv_at hl 2 rfl) ?_
            refine lv_tableOut (tgt := 91) hx hb dX1_token_24 (by decide) (by decide) ?_
            refine lv_iload_n hx hb dX1_token_91 rfl (lv_at hl 1 rfl) ?_
            refine lv_if_ne (tgt := 99) hx hb dX1_token_92 (by decide) (fun c_22 => ?_) (fun c_22 => ?_)
            · have c_22 := mt (nI_eq (a := j) (b := 0) (by omega) (by omega)).mpr c_22
              refine lv_iconst (v := nI 0) hx hb dX1_token_99 (by decide) ?_
              exact W.iret (v := nI 0) hx hb hr (fun t ht hW => ⟨_, rfl, (by rw [rkA, if_neg (by decide), if_neg (by decide), if_neg (by decide), if_neg (by decide), if_pos rfl, if_neg (by omega)]), ht⟩) (fun q h => by cases h) dX1_token_100
            · have c_22 := (nI_eq (a := j) (b := 0) (by omega) (by omega)).mp c_22
              refine lv_iconst (v := nI 1) hx hb dX1_token_95 (by decide) ?_
              refine lv_goto (tgt := 100) hx hb dX1_token_96 (by decide) ?_
              exact W.iret (v := nI 1) hx hb hr (fun t ht hW => ⟨_, rfl, (by rw [rkA, if_neg (by decide), if_neg (by decide), if_neg (by decide), if_neg (by decide), if_pos rfl, if_pos (by omega)]), ht⟩) (fun q h => by cases h) dX1_token_100
          · have c_21 := mt (nI_leI (a := 4) (b := 4) (by omega) (by omega)).mpr c_21
            omega
      · refine lv_iload_n hx hb dX1_token_12 rfl (lv_at hl 2 rfl) ?_
        refine lv_if_lt (tgt := 21) hx hb dX1_token_13 (by decide) (fun c_23 => ?_) (fun c_23 => ?_)
        · refine lv_iconst (v := (-1)) hx hb dX1_token_21 (by decide) ?_
          exact W.iret (v := (-1)) hx hb hr (fun t ht hW => ⟨_, rfl, (by rw [rkA, if_neg (fun z => by rw [z] at hsw; revert hsw; decide), if_neg (fun z => by rw [z] at hsw; revert hsw; decide), if_neg (fun z => by rw [z] at hsw; revert hsw; decide), if_neg (fun z => by rw [z] at hsw; revert hsw; decide), if_neg (fun z => by rw [z] at hsw; revert hsw; decide)]), ht⟩) (fun q h => by cases h) dX1_token_22
        · refine lv_iload_n hx hb dX1_token_16 rfl (lv_at hl 2 rfl) ?_
          refine lv_iconst (v := nI 4) hx hb dX1_token_17 (by decide) ?_
          refine lv_icmp_le (tgt := 23) hx hb dX1_token_18 (by decide) (fun c_24 => ?_) (fun c_24 => ?_)
          · (rw [Int32.lt_iff_toInt_lt] at c_23; rw [Int32.le_iff_toInt_le, nI_toInt (by decide)] at c_24; have h00 : (0 : Int32).toInt = 0 := by decide
             omega)
          · refine lv_iconst (v := (-1)) hx hb dX1_token_21 (by decide) ?_
            exact W.iret (v := (-1)) hx hb hr (fun t ht hW => ⟨_, rfl, (by rw [rkA, if_neg (fun z => by rw [z] at hsw; revert hsw; decide), if_neg (fun z => by rw [z] at hsw; revert hsw; decide), if_neg (fun z => by rw [z] at hsw; revert hsw; decide), if_neg (fun z => by rw [z] at hsw; revert hsw; decide), if_neg (fun z => by rw [z] at hsw; revert hsw; decide)]), ht⟩) (fun q h => by cases h) dX1_token_22
