def tkS (K : Nat → Int64) (i : Nat) : Nat := tn (K i) % 65536
def tkB (K : Nat → Int64) (i : Nat) : Nat := tn (K i) / 2 ^ 16 % 65536
def tkL (K : Nat → Int64) (i : Nat) : Nat := tn (K i) / 2 ^ 32 % 65536
def tkK (K : Nat → Int64) (i : Nat) : Nat := tn (K i) / 2 ^ 48 % 16
def tkF (K : Nat → Int64) (i : Nat) : Nat := tn (K i) / 2 ^ 52 % 2
def drB (T : Nat → Int64) (Z : Nat → Nat) (K : Nat → Int64) : Bool := if 0 < Z 9 ∧ tkB K 0 = 1 ∧ gb T (Z 2) (tkS K 0) = 35 then true else false
theorem drB_t {T : Nat → Int64} {Z : Nat → Nat} {K : Nat → Int64} (h : 0 < Z 9 ∧ tkB K 0 = 1 ∧ gb T (Z 2) (tkS K 0) = 35) : drB T Z K = true := by rw [drB, if_pos h]
theorem drB_f {T : Nat → Int64} {Z : Nat → Nat} {K : Nat → Int64} (h : ¬ (0 < Z 9 ∧ tkB K 0 = 1 ∧ gb T (Z 2) (tkS K 0) = 35)) : drB T Z K = false := by rw [drB, if_neg h]
/-- told -/
def tdA (T : Nat → Int64) (Z : Nat → Nat) (K : Nat → Int64) (w : Int32) : Int32 :=
  if w = nI 0 then b2i (drB T Z K) else if w = nI 1 then nI (Z 5) else if w = nI 2 then nI (Z 7) else if w = nI 3 then nI (if Z 8 = 0 then Z 4 else 0) else (-1)
/-- token, of a token that is there -/
def tkA (K : Nat → Int64) (j : Nat) (w : Int32) : Int32 :=
  if w = nI 0 then nI (tkK K j) else if w = nI 1 then nI (tkL K j) else if w = nI 2 then nI (tkB K j) else if w = nI 3 then nI (tkF K j) else if w = nI 4 then nI (if j = 0 then 1 else 0) else (-1)
theorem sw_3 (x : Int32) : x = nI 0 ∨ x = nI 1 ∨ x = nI 2 ∨ x = nI 3 ∨ (x.toInt < 0 ∨ 3 < x.toInt) := by
  rcases pk_ix x (n := 4) (by decide) with h | h | ⟨j, hj, rfl⟩
  · have : x.toInt < 0 := by rw [Int32.lt_iff_toInt_lt] at h; exact h
    omega
  · have : 3 < x.toInt := by
      rw [Int32.le_iff_toInt_le, nI_toInt (by decide)] at h
      omega
    omega
  · have : j = 0 ∨ j = 1 ∨ j = 2 ∨ j = 3 := by omega
    rcases this with rfl | rfl | rfl | rfl
    · exact Or.inl rfl
    · exact Or.inr (Or.inl rfl)
    · exact Or.inr (Or.inr (Or.inl rfl))
    · exact Or.inr (Or.inr (Or.inr (Or.inl rfl)))
theorem sw_4 (x : Int32) : x = nI 0 ∨ x = nI 1 ∨ x = nI 2 ∨ x = nI 3 ∨ x = nI 4 ∨ (x.toInt < 0 ∨ 4 < x.toInt) := by
  rcases pk_ix x (n := 5) (by decide) with h | h | ⟨j, hj, rfl⟩
  · have : x.toInt < 0 := by rw [Int32.lt_iff_toInt_lt] at h; exact h
    omega
  · have : 4 < x.toInt := by
      rw [Int32.le_iff_toInt_le, nI_toInt (by decide)] at h
      omega
    omega
  · have : j = 0 ∨ j = 1 ∨ j = 2 ∨ j = 3 ∨ j = 4 := by omega
    rcases this with rfl | rfl | rfl | rfl | rfl
    · exact Or.inl rfl
    · exact Or.inr (Or.inl rfl)
    · exact Or.inr (Or.inr (Or.inl rfl))
    · exact Or.inr (Or.inr (Or.inr (Or.inl rfl)))
    · exact Or.inr (Or.inr (Or.inr (Or.inr (Or.inl rfl))))
set_option maxHeartbeats 4000000 in
set_option maxRecDepth 100000 in
theorem c_isAtHand_in (l : Launch) (dC : Nat → ClassId) (dI : Nat → Nat → Nat) (cA : ClassId) (a0 a1 a2 : Nat) (Z : Nat → Nat) (T K : Nat → Int64) (j : Nat) (h9 : Z 9 ≤ 8000) (hj : j < Z 9) : Met l yX0_isAtHand wX0_isAtHand ({ frames := 0, cells := 0, slots := 0, locals := 0 }) (va_Pc [.ref a0, .int (nI j)] (lmR dC dI cA a0 a1 a2 (Z, T, K))) (vp_Si (fun r => r = nI 1)) 0 0 (fun _ => False) := by
  refine Met.ofW (cc := cX0_isAtHand) (maxL := 2) (ret := (some .boolean)) (by decide) rfl ?_
  intro p e s m args below meth c s₁ B hml hv
  obtain ⟨rfl, hP, hK⟩ := hv
  have hx := B.exec
  have hb := B.bytes
  have hr := B.returns
  have hts : ∀ w ∈ bw, w.before _ s = true := fun w h => atoms_spec (ws := wX0_isAtHand) B.pre w (bc w h)
  have hown : s.vm.findClass RX0 = some m.cls := findClass_of_methodNamed B.named
  have hlocks := B.notSynchronized
  have hl := lv_entry ([.ref a0, .int (nI j)]) (n := 2) (Nat.le_of_ble_eq_true rfl)
  rw [lg_entry_eq]
  generalize (lg_sl ([.ref a0, .int (nI j)]) ++ List.replicate (2 - (lg_sl ([.ref a0, .int (nI j)])).length) Slot.unset).toArray = ls at hl ⊢
  have hl : lv_has ls 2 [(0, .ref a0), (1, .int (nI j))] := hl
  refine lv_iload_n hx hb dX0_isAtHand_0 rfl (lv_at hl 1 rfl) ?_
  refine lv_if_lt (tgt := 25) hx hb dX0_isAtHand_1 (by decide) (fun c_1 => ?_) (fun c_1 => ?_)
  · have c_1 := (nI_ltI (a := j) (b := 0) (by omega) (by omega)).mp c_1
    omega
  · have c_1 := mt (nI_ltI (a := j) (b := 0) (by omega) (by omega)).mpr c_1
    refine lv_iload_n hx hb dX0_isAtHand_4 rfl (lv_at hl 1 rfl) ?_
    refine lv_aload_n hx hb dX0_isAtHand_5 rfl (lv_at hl 0 rfl) ?_
    refine va_get (D := (dC, dI)) (ci := 0) (v := .int (nI (Z 9))) (C := RX0) (T := TX0) (N := 16) hx hb hts inX0 hown hK hP 0 rfl rfl 9 (by decide) (hts _ fl_X0_32) (fun _ h9 => h9) rfl dX0_isAtHand_6 ?_
    refine lv_icmp_ge (tgt := 25) hx hb dX0_isAtHand_9 (by decide) (fun c_2 => ?_) (fun c_2 => ?_)
    · have c_2 := (nI_leI (a := Z 9) (b := j) (by omega) (by omega)).mp c_2
      omega
    · have c_2 := mt (nI_leI (a := Z 9) (b := j) (by omega) (by omega)).mpr c_2
      refine lv_iload_n hx hb dX0_isAtHand_12 rfl (lv_at hl 1 rfl) ?_
      refine lv_aload_n hx hb dX0_isAtHand_13 rfl (lv_at hl 0 rfl) ?_
      refine va_get (D := (dC, dI)) (ci := 0) (v := .ref a2) (C := RX0) (T := TX0) (N := 16) hx hb hts inX0 hown hK hP 0 rfl rfl 1 (by decide) (hts _ fl_X0_13) (fun _ h9 => h9) rfl dX0_isAtHand_14 ?_
      refine va_alen hx hb hK hP 2 0 rfl rfl (v := nI 8000) rfl dX0_isAtHand_17 ?_
      refine lv_icmp_ge (tgt := 25) hx hb dX0_isAtHand_18 (by decide) (fun c_3 => ?_) (fun c_3 => ?_)
      · have c_3 := (nI_leI (a := 8000) (b := j) (by omega) (by omega)).mp c_3
        omega
      · have c_3 := mt (nI_leI (a := 8000) (b := j) (by omega) (by omega)).mpr c_3
        refine lv_iconst (v := nI 1) hx hb dX0_isAtHand_21 (by decide) ?_
        refine lv_goto (tgt := 26) hx hb dX0_isAtHand_22 (by decide) ?_
        exact W.zret (v := nI 1) hx hb hr rfl (fun t ht hW => ⟨_, rfl, rfl, ht⟩) (fun q h => by cases h) dX0_isAtHand_26
set_option maxHeartbeats 4000000 in
set_option maxRecDepth 100000 in
theorem c_isAtHand_out (l : Launch) (dC : Nat → ClassId) (dI : Nat → Nat → Nat) (cA : ClassId) (a0 a1 a2 : Nat) (Z : Nat → Nat) (T K : Nat → Int64) (i : Int32) (h9 : Z 9 ≤ 8000) (h : i < 0 ∨ nI (Z 9) ≤ i) : Met l yX0_isAtHand wX0_isAtHand ({ frames := 0, cells := 0, slots := 0, locals := 0 }) (va_Pc [.ref a0, .int (i)] (lmR dC dI cA a0 a1 a2 (Z, T, K))) (vp_Si (fun r => r = nI 0)) 0 0 (fun _ => False) := by
  refine Met.ofW (cc := cX0_isAtHand) (maxL := 2) (ret := (some .boolean)) (by decide) rfl ?_
  intro p e s m args below meth c s₁ B hml hv
  obtain ⟨rfl, hP, hK⟩ := hv
  have hx := B.exec
  have hb := B.bytes
  have hr := B.returns
  have hts : ∀ w ∈ bw, w.before _ s = true := fun w h => atoms_spec (ws := wX0_isAtHand) B.pre w (bc w h)
  have hown : s.vm.findClass RX0 = some m.cls := findClass_of_methodNamed B.named
  have hlocks := B.notSynchronized
  have hl := lv_entry ([.ref a0, .int (i)]) (n := 2) (Nat.le_of_ble_eq_true rfl)
  rw [lg_entry_eq]
  generalize (lg_sl ([.ref a0, .int (i)]) ++ List.replicate (2 - (lg_sl ([.ref a0, .int (i)])).length) Slot.unset).toArray = ls at hl ⊢
  have hl : lv_has ls 2 [(0, .ref a0), (1, .int (i))] := hl
  refine lv_iload_n hx hb dX0_isAtHand_0 rfl (lv_at hl 1 rfl) ?_
  refine lv_if_lt (tgt := 25) hx hb dX0_isAtHand_1 (by decide) (fun c_1 => ?_) (fun c_1 => ?_)
  · refine lv_iconst (v := nI 0) hx hb dX0_isAtHand_25 (by decide) ?_
    exact W.zret (v := nI 0) hx hb hr rfl (fun t ht hW => ⟨_, rfl, rfl, ht⟩) (fun q h => by cases h) dX0_isAtHand_26
  · refine lv_iload_n hx hb dX0_isAtHand_4 rfl (lv_at hl 1 rfl) ?_
    refine lv_aload_n hx hb dX0_isAtHand_5 rfl (lv_at hl 0 rfl) ?_
    refine va_get (D := (dC, dI)) (ci := 0) (v := .int (nI (Z 9))) (C := RX0) (T := TX0) (N := 16) hx hb hts inX0 hown hK hP 0 rfl rfl 9 (by decide) (hts _ fl_X0_32) (fun _ h9 => h9) rfl dX0_isAtHand_6 ?_
    refine lv_icmp_ge (tgt := 25) hx hb dX0_isAtHand_9 (by decide) (fun c_2 => ?_) (fun c_2 => ?_)
    · refine lv_iconst (v := nI 0) hx hb dX0_isAtHand_25 (by decide) ?_
      exact W.zret (v := nI 0) hx hb hr rfl (fun t ht hW => ⟨_, rfl, rfl, ht⟩) (fun q h => by cases h) dX0_isAtHand_26
    · exact (h.elim c_1 c_2).elim
set_option maxHeartbeats 4000000 in
set_option maxRecDepth 100000 in
theorem c_isDirective (l : Launch) (dC : Nat → ClassId) (dI : Nat → Nat → Nat) (cA : ClassId) (a0 a1 a2 : Nat) (Z : Nat → Nat) (T K : Nat → Int64)  (hn : Z 2 ≤ 32768) (h9 : Z 9 ≤ 8000) : Met l yX0_isDirective wX0_isDirective ({ frames := 1, cells := 0, slots := 0, locals := 22 }) (va_Pc [.ref a0] (lmR dC dI cA a0 a1 a2 (Z, T, K))) (vp_Si (fun r => r = b2i (drB T Z K))) 0 0 (fun _ => False) := by
  refine Met.ofW (cc := cX0_isDirective) (maxL := 1) (ret := (some .boolean)) (by decide) rfl ?_
  intro p e s m args below meth c s₁ B hml hv
  obtain ⟨rfl, hP, hK⟩ := hv
  have hx := B.exec
  have hb := B.bytes
  have hr := B.returns
  have hts : ∀ w ∈ bw, w.before _ s = true := fun w h => atoms_spec (ws := wX0_isDirective) B.pre w (bc w h)
  have hown : s.vm.findClass RX0 = some m.cls := findClass_of_methodNamed B.named
  have hlocks := B.notSynchronized
  have hl := lv_entry ([.ref a0]) (n := 1) (Nat.le_of_ble_eq_true rfl)
  rw [lg_entry_eq]
  generalize (lg_sl ([.ref a0]) ++ List.replicate (1 - (lg_sl ([.ref a0])).length) Slot.unset).toArray = ls at hl ⊢
  have hl : lv_has ls 1 [(0, .ref a0)] := hl
  refine lv_aload_n hx hb dX0_isDirective_0 rfl (lv_at hl 0 rfl) ?_
  refine lv_iconst (v := nI 0) hx hb dX0_isDirective_1 (by decide) ?_
  by_cases h0 : 0 < Z 9
  · refine vp_callSi (va_Run.run (va_runV (As := [.int (nI 0)]) (rest := []) ⟨hx, hb, hml, hown, hts⟩ (c_isAtHand_in l dC dI cA a0 a1 a2 Z T K 0 h9 h0) (cwV 1 hts (gV (fun _ h => h) ml_X0_71 im_X0_isAtHand se_X0_isAtHand ini_X0 co_X0_isAtHand) rfl rfl rfl pd_X0_isAtHand ⟨Nat.le_of_ble_eq_true rfl, Nat.le_of_ble_eq_true rfl⟩) (lm_preR hK hP) rfl rfl hl.1 rfl (lv_room (Nat.le_of_ble_eq_true rfl)) dX0_isDirective_2 ⟨Nat.zero_le _, Nat.zero_le _⟩)) (fun r_1 (e_2 : r_1 = nI 1) => ?_)
    subst e_2
    refine lv_if_eq (tgt := 43) hx hb dX0_isDirective_5 (by decide) (fun c_3 => ?_) (fun c_3 => ?_)
    · have c_3 := (nI_eq (a := 1) (b := 0) (by omega) (by omega)).mp c_3
      omega
    · have c_3 := mt (nI_eq (a := 1) (b := 0) (by omega) (by omega)).mpr c_3
      refine lv_aload_n hx hb dX0_isDirective_8 rfl (lv_at hl 0 rfl) ?_
      refine va_get (D := (dC, dI)) (ci := 0) (v := .ref a2) (C := RX0) (T := TX0) (N := 16) hx hb hts inX0 hown hK hP 0 rfl rfl 1 (by decide) (hts _ fl_X0_13) (fun _ h9 => h9) rfl dX0_isDirective_9 ?_
      refine lv_iconst (v := nI 0) hx hb dX0_isDirective_12 (by decide) ?_
      refine va_lald hx hb hK hP 2 0 rfl rfl (vp_in_nI (by omega) (by decide)) dX0_isDirective_13 ?_
      refine lv_topl (fun x_4 e_5 => ?_)
      obtain rfl : x_4 = lN (tn (K 0)) := e_5.trans (by rw [nI_clamp (by omega), tn_lN])
      refine vp_callSi (va_Run.run (va_runS (As := [.long (lN (tn (K 0)))]) (rest := []) ⟨hx, hb, hml, hown, hts⟩ (c_bytesOf l (tn (K 0)) (tn_lt _)) (cwS 1 hts (gS (fun _ h => h) ml_X0_76 sm_X0_bytesOf ini_X0 co_X0_bytesOf) rfl rfl rfl pd_X0_bytesOf ⟨Nat.le_of_ble_eq_true rfl, Nat.le_of_ble_eq_true rfl⟩) st_pre rfl rfl hl.1 rfl (lv_room (Nat.le_of_ble_eq_true rfl)) dX0_isDirective_14 ⟨Nat.zero_le _, Nat.zero_le _⟩)) (fun r_6 (e_7 : r_6 = nI ((tn (K 0)) / 2 ^ 16 % 65536)) => ?_)
      subst e_7
      refine lv_iconst (v := nI 1) hx hb dX0_isDirective_17 (by decide) ?_
      refine lv_icmp_ne (tgt := 43) hx hb dX0_isDirective_18 (by decide) (fun c_8 => ?_) (fun c_8 => ?_)
      · have c_8 := mt (nI_eq (a := (tn (K 0)) / 2 ^ 16 % 65536) (b := 1) (by omega) (by omega)).mpr c_8
        refine lv_iconst (v := nI 0) hx hb dX0_isDirective_43 (by decide) ?_
        exact W.zret (v := nI 0) hx hb hr rfl (fun t ht hW => ⟨_, rfl, (by rw [drB_f (fun z => by have z1 := z.1; have z2 := z.2.1; have z3 := z.2.2; unfold tkB at z2; unfold tkS at z3; omega)]; rfl), ht⟩) (fun q h => by cases h) dX0_isDirective_44
      · have c_8 := (nI_eq (a := (tn (K 0)) / 2 ^ 16 % 65536) (b := 1) (by omega) (by omega)).mp c_8
        refine lv_aload_n hx hb dX0_isDirective_21 rfl (lv_at hl 0 rfl) ?_
        refine lv_aload_n hx hb dX0_isDirective_22 rfl (lv_at hl 0 rfl) ?_
        refine va_get (D := (dC, dI)) (ci := 0) (v := .ref a2) (C := RX0) (T := TX0) (N := 16) hx hb hts inX0 hown hK hP 0 rfl rfl 1 (by decide) (hts _ fl_X0_13) (fun _ h9 => h9) rfl dX0_isDirective_23 ?_
        refine lv_iconst (v := nI 0) hx hb dX0_isDirective_26 (by decide) ?_
        refine va_lald hx hb hK hP 2 0 rfl rfl (vp_in_nI (by omega) (by decide)) dX0_isDirective_27 ?_
        refine lv_topl (fun x_9 e_10 => ?_)
        obtain rfl : x_9 = lN (tn (K 0)) := e_10.trans (by rw [nI_clamp (by omega), tn_lN])
        refine vp_callSi (va_Run.run (va_runS (As := [.long (lN (tn (K 0)))]) (rest := [.ref a0]) ⟨hx, hb, hml, hown, hts⟩ (c_startOf l (tn (K 0))) (cwS 1 hts (gS (fun _ h => h) ml_X0_80 sm_X0_startOf ini_X0 co_X0_startOf) rfl rfl rfl pd_X0_startOf ⟨Nat.le_of_ble_eq_true rfl, Nat.le_of_ble_eq_true rfl⟩) st_pre rfl rfl hl.1 rfl (lv_room (Nat.le_of_ble_eq_true rfl)) dX0_isDirective_28 ⟨Nat.zero_le _, Nat.zero_le _⟩)) (fun r_11 (e_12 : r_11 = nI ((tn (K 0)) % 65536)) => ?_)
        subst e_12
        refine vp_callSi (va_Run.run (va_runV (As := [.int (nI ((tn (K 0)) % 65536))]) (rest := []) ⟨hx, hb, hml, hown, hts⟩ (c_byteAt l dC dI cA a0 a1 a2 Z T K ((tn (K 0)) % 65536) (show Z 2 ≤ 32768 by omega) (show (tn (K 0)) % 65536 < 2 ^ 31 by omega)) (cwV 1 hts (gV (fun _ h => h) ml_X0_28 im_X0_byteAt se_X0_byteAt ini_X0 co_X0_byteAt) rfl rfl rfl pd_X0_byteAt ⟨Nat.le_of_ble_eq_true rfl, Nat.le_of_ble_eq_true rfl⟩) (lm_preR hK hP) rfl rfl hl.1 rfl (lv_room (Nat.le_of_ble_eq_true rfl)) dX0_isDirective_31 ⟨Nat.zero_le _, Nat.zero_le _⟩)) (fun r_13 (e_14 : r_13 = bI (gb T (Z 2) ((tn (K 0)) % 65536))) => ?_)
        subst e_14
        have := gb_in T (Z 2) ((tn (K 0)) % 65536)
        refine lv_bipush (v := nI 35) hx hb dX0_isDirective_34 (by decide) ?_
        refine lv_icmp_ne (tgt := 43) hx hb dX0_isDirective_36 (by decide) (fun c_15 => ?_) (fun c_15 => ?_)
        · have c_15 := mt (bI_eqN (by omega)).mpr c_15
          refine lv_iconst (v := nI 0) hx hb dX0_isDirective_43 (by decide) ?_
          exact W.zret (v := nI 0) hx hb hr rfl (fun t ht hW => ⟨_, rfl, (by rw [drB_f (fun z => by have z1 := z.1; have z2 := z.2.1; have z3 := z.2.2; unfold tkB at z2; unfold tkS at z3; omega)]; rfl), ht⟩) (fun q h => by cases h) dX0_isDirective_44
        · have c_15 := (bI_eqN (by omega)).mp c_15
          refine lv_iconst (v := nI 1) hx hb dX0_isDirective_39 (by decide) ?_
          refine lv_goto (tgt := 44) hx hb dX0_isDirective_40 (by decide) ?_
          exact W.zret (v := nI 1) hx hb hr rfl (fun t ht hW => ⟨_, rfl, (by rw [drB_t ⟨by omega, by unfold tkB; omega, by unfold tkS; omega⟩]; rfl), ht⟩) (fun q h => by cases h) dX0_isDirective_44
  · refine vp_callSi (va_Run.run (va_runV (As := [.int (nI 0)]) (rest := []) ⟨hx, hb, hml, hown, hts⟩ (c_isAtHand_out l dC dI cA a0 a1 a2 Z T K (nI 0) h9 (Or.inr (by rw [show Z 9 = 0 by omega]; exact nI_le (Nat.le_refl 0) (by decide)))) (cwV 1 hts (gV (fun _ h => h) ml_X0_71 im_X0_isAtHand se_X0_isAtHand ini_X0 co_X0_isAtHand) rfl rfl rfl pd_X0_isAtHand ⟨Nat.le_of_ble_eq_true rfl, Nat.le_of_ble_eq_true rfl⟩) (lm_preR hK hP) rfl rfl hl.1 rfl (lv_room (Nat.le_of_ble_eq_true rfl)) dX0_isDirective_2 ⟨Nat.zero_le _, Nat.zero_le _⟩)) (fun r_16 (e_17 : r_16 = nI 0) => ?_)
    subst e_17
    refine lv_if_eq (tgt := 43) hx hb dX0_isDirective_5 (by decide) (fun c_18 => ?_) (fun c_18 => ?_)
    · have c_18 := (nI_eq (a := 0) (b := 0) (by omega) (by omega)).mp c_18
      refine lv_iconst (v := nI 0) hx hb dX0_isDirective_43 (by decide) ?_
      exact W.zret (v := nI 0) hx hb hr rfl (fun t ht hW => ⟨_, rfl, (by rw [drB_f (fun z => by have z1 := z.1; have z2 := z.2.1; have z3 := z.2.2; unfold tkB at z2; unfold tkS at z3; omega)]; rfl), ht⟩) (fun q h => by cases h) dX0_isDirective_44
    · have c_18 := mt (nI_eq (a := 0) (b := 0) (by omega) (by omega)).mpr c_18
      omega
set_option maxHeartbeats 4000000 in
set_option maxRecDepth 100000 in
theorem c_told (l : Launch) (dC : Nat → ClassId) (dI : Nat → Nat → Nat) (cA : ClassId) (a0 a1 a2 : Nat) (Z : Nat → Nat) (T K : Nat → Int64) (w : Int32) (hn : Z 2 ≤ 32768) (h9 : Z 9 ≤ 8000) (h8 : Z 8 ≤ 1) : Met l yX0_told wX0_told ({ frames := 2, cells := 0, slots := 0, locals := 42 }) (va_Pc [.ref a0, .int (w)] (lmR dC dI cA a0 a1 a2 (Z, T, K))) (vp_Si (fun r => r = tdA T Z K w)) 0 0 (fun _ => False) := by
  refine Met.ofW (cc := cX0_told) (maxL := 2) (ret := (some .int)) (by decide) rfl ?_
  intro p e s m args below meth c s₁ B hml hv
  obtain ⟨rfl, hP, hK⟩ := hv
  have hx := B.exec
  have hb := B.bytes
  have hr := B.returns
  have hts : ∀ w ∈ bw, w.before _ s = true := fun w h => atoms_spec (ws := wX0_told) B.pre w (bc w h)
  have hown : s.vm.findClass RX0 = some m.cls := findClass_of_methodNamed B.named
  have hlocks := B.notSynchronized
  have hl := lv_entry ([.ref a0, .int (w)]) (n := 2) (Nat.le_of_ble_eq_true rfl)
  rw [lg_entry_eq]
  generalize (lg_sl ([.ref a0, .int (w)]) ++ List.replicate (2 - (lg_sl ([.ref a0, .int (w)])).length) Slot.unset).toArray = ls at hl ⊢
  have hl : lv_has ls 2 [(0, .ref a0), (1, .int (w))] := hl
  refine lv_iload_n hx hb dX0_told_0 rfl (lv_at hl 1 rfl) ?_
  rcases sw_3 w with rfl | rfl | rfl | rfl | hsw
  · refine lv_tableIn (tgt := 32) hx hb dX0_told_1 (by decide) (by decide) rfl (by decide) ?_
    refine lv_aload_n hx hb dX0_told_32 rfl (lv_at hl 0 rfl) ?_
    refine vp_callSi (va_Run.run (va_runV (As := []) (rest := []) ⟨hx, hb, hml, hown, hts⟩ (c_isDirective l dC dI cA a0 a1 a2 Z T K hn h9) (cwV 0 hts (gV (fun _ h => h) ml_X0_58 im_X0_isDirective se_X0_isDirective ini_X0 co_X0_isDirective) rfl rfl rfl pd_X0_isDirective ⟨Nat.le_of_ble_eq_true rfl, Nat.le_of_ble_eq_true rfl⟩) (lm_preR hK hP) rfl rfl hl.1 rfl (lv_room (Nat.le_of_ble_eq_true rfl)) dX0_told_33 ⟨Nat.zero_le _, Nat.zero_le _⟩)) (fun r_1 (e_2 : r_1 = b2i (drB T Z K)) => ?_)
    subst e_2
    refine lv_if_eq (tgt := 43) hx hb dX0_told_36 (by decide) (fun c_3 => ?_) (fun c_3 => ?_)
    · have c_3 := (b2i_z (drB T Z K)).mp c_3
      refine lv_iconst (v := nI 0) hx hb dX0_told_43 (by decide) ?_
      exact W.iret (v := nI 0) hx hb hr (fun t ht hW => ⟨_, rfl, (by rw [tdA, if_pos rfl, c_3]; rfl), ht⟩) (fun q h => by cases h) dX0_told_44
    · have c_3 := mt (b2i_z (drB T Z K)).mpr c_3
      refine lv_iconst (v := nI 1) hx hb dX0_told_39 (by decide) ?_
      refine lv_goto (tgt := 44) hx hb dX0_told_40 (by decide) ?_
      exact W.iret (v := nI 1) hx hb hr (fun t ht hW => ⟨_, rfl, (by rw [tdA, if_pos rfl, show drB T Z K = true by simpa using c_3]; rfl), ht⟩) (fun q h => by cases h) dX0_told_44
  · refine lv_tableIn (tgt := 45) hx hb dX0_told_1 (by decide) (by decide) rfl (by decide) ?_
    refine lv_aload_n hx hb dX0_told_45 rfl (lv_at hl 0 rfl) ?_
    refine va_get (D := (dC, dI)) (ci := 0) (v := .int (nI (Z 5))) (C := RX0) (T := TX0) (N := 16) hx hb hts inX0 hown hK hP 0 rfl rfl 5 (by decide) (hts _ fl_X0_62) (fun _ h9 => h9) rfl dX0_told_46 ?_
    exact W.iret (v := nI (Z 5)) hx hb hr (fun t ht hW => ⟨_, rfl, (by rw [tdA, if_neg (by decide), if_pos rfl]), ht⟩) (fun q h => by cases h) dX0_told_49
  · refine lv_tableIn (tgt := 50) hx hb dX0_told_1 (by decide) (by decide) rfl (by decide) ?_
    refine lv_aload_n hx hb dX0_told_50 rfl (lv_at hl 0 rfl) ?_
    refine va_get (D := (dC, dI)) (ci := 0) (v := .int (nI (Z 7))) (C := RX0) (T := TX0) (N := 16) hx hb hts inX0 hown hK hP 0 rfl rfl 7 (by decide) (hts _ fl_X0_65) (fun _ h9 => h9) rfl dX0_told_51 ?_
    exact W.iret (v := nI (Z 7)) hx hb hr (fun t ht hW => ⟨_, rfl, (by rw [tdA, if_neg (by decide), if_neg (by decide), if_pos rfl]), ht⟩) (fun q h => by cases h) dX0_told_54
  · refine lv_tableIn (tgt := 55) hx hb dX0_told_1 (by decide) (by decide) rfl (by decide) ?_
    refine lv_aload_n hx hb dX0_told_55 rfl (lv_at hl 0 rfl) ?_
    refine va_get (D := (dC, dI)) (ci := 0) (v := .int (nI (Z 8))) (C := RX0) (T := TX0) (N := 16) hx hb hts inX0 hown hK hP 0 rfl rfl 8 (by decide) (hts _ fl_X0_35) (fun _ h9 => h9) rfl dX0_told_56 ?_
    refine lv_if_eq (tgt := 66) hx hb dX0_told_59 (by decide) (fun c_4 => ?_) (fun c_4 => ?_)
    · have c_4 := (nI_eq (a := Z 8) (b := 0) (by omega) (by omega)).mp c_4
      refine lv_aload_n hx hb dX0_told_66 rfl (lv_at hl 0 rfl) ?_
      refine va_get (D := (dC, dI)) (ci := 0) (v := .int (nI (Z 4))) (C := RX0) (T := TX0) (N := 16) hx hb hts inX0 hown hK hP 0 rfl rfl 4 (by decide) (hts _ fl_X0_68) (fun _ h9 => h9) rfl dX0_told_67 ?_
      exact W.iret (v := nI (Z 4)) hx hb hr (fun t ht hW => ⟨_, rfl, (by rw [tdA, if_neg (by decide), if_neg (by decide), if_neg (by decide), if_pos rfl, if_pos (by omega)]), ht⟩) (fun q h => by cases h) dX0_told_70
    · have c_4 := mt (nI_eq (a := Z 8) (b := 0) (by omega) (by omega)).mpr c_4
      refine lv_iconst (v := nI 0) hx hb dX0_told_62 (by decide) ?_
      refine lv_goto (tgt := 70) hx hb dX0_told_63 (by decide) ?_
      exact W.iret (v := nI 0) hx hb hr (fun t ht hW => ⟨_, rfl, (by rw [tdA, if_neg (by decide), if_neg (by decide), if_neg (by decide), if_pos rfl, if_neg (by omega)]), ht⟩) (fun q h => by cases h) dX0_told_70
  · refine lv_tableOut (tgt := 71) hx hb dX0_told_1 hsw (by decide) ?_
    refine lv_iconst (v := (-1)) hx hb dX0_told_71 (by decide) ?_
    exact W.iret (v := (-1)) hx hb hr (fun t ht hW => ⟨_, rfl, (by rw [tdA, if_neg (fun z => by rw [z] at hsw; revert hsw; decide), if_neg (fun z => by rw [z] at hsw; revert hsw; decide), if_neg (fun z => by rw [z] at hsw; revert hsw; decide), if_neg (fun z => by rw [z] at hsw; revert hsw; decide)]), ht⟩) (fun q h => by cases h) dX0_told_72
set_option maxHeartbeats 4000000 in
set_option maxRecDepth 100000 in
theorem c_token_out (l : Launch) (dC : Nat → ClassId) (dI : Nat → Nat → Nat) (cA : ClassId) (a0 a1 a2 : Nat) (Z : Nat → Nat) (T K : Nat → Int64) (i : Int32) (w : Int32) (h9 : Z 9 ≤ 8000) (h : i < 0 ∨ nI (Z 9) ≤ i) : Met l yX0_token wX0_token ({ frames := 1, cells := 0, slots := 0, locals := 21 }) (va_Pc [.ref a0, .int (i), .int (w)] (lmR dC dI cA a0 a1 a2 (Z, T, K))) (vp_Si (fun r => r = (-1))) 0 0 (fun _ => False) := by
  refine Met.ofW (cc := cX0_token) (maxL := 5) (ret := (some .int)) (by decide) rfl ?_
  intro p e s m args below meth c s₁ B hml hv
  obtain ⟨rfl, hP, hK⟩ := hv
  have hx := B.exec
  have hb := B.bytes
  have hr := B.returns
  have hts : ∀ w ∈ bw, w.before _ s = true := fun w h => atoms_spec (ws := wX0_token) B.pre w (bc w h)
  have hown : s.vm.findClass RX0 = some m.cls := findClass_of_methodNamed B.named
  have hlocks := B.notSynchronized
  have hl := lv_entry ([.ref a0, .int (i), .int (w)]) (n := 5) (Nat.le_of_ble_eq_true rfl)
  rw [lg_entry_eq]
  generalize (lg_sl ([.ref a0, .int (i), .int (w)]) ++ List.replicate (5 - (lg_sl ([.ref a0, .int (i), .int (w)])).length) Slot.unset).toArray = ls at hl ⊢
  have hl : lv_has ls 5 [(0, .ref a0), (1, .int (i)), (2, .int (w))] := hl
  refine lv_aload_n hx hb dX0_token_0 rfl (lv_at hl 0 rfl) ?_
  refine lv_iload_n hx hb dX0_token_1 rfl (lv_at hl 1 rfl) ?_
  refine vp_callSi (va_Run.run (va_runV (As := [.int (i)]) (rest := []) ⟨hx, hb, hml, hown, hts⟩ (c_isAtHand_out l dC dI cA a0 a1 a2 Z T K i h9 h) (cwV 1 hts (gV (fun _ h => h) ml_X0_71 im_X0_isAtHand se_X0_isAtHand ini_X0 co_X0_isAtHand) rfl rfl rfl pd_X0_isAtHand ⟨Nat.le_of_ble_eq_true rfl, Nat.le_of_ble_eq_true rfl⟩) (lm_preR hK hP) rfl rfl hl.1 rfl (lv_room (Nat.le_of_ble_eq_true rfl)) dX0_token_2 ⟨Nat.zero_le _, Nat.zero_le _⟩)) (fun r_1 (e_2 : r_1 = nI 0) => ?_)
  subst e_2
  refine lv_if_ne (tgt := 10) hx hb dX0_token_5 (by decide) (fun c_3 => ?_) (fun c_3 => ?_)
  · have c_3 := mt (nI_eq (a := 0) (b := 0) (by omega) (by omega)).mpr c_3
    omega
  · have c_3 := (nI_eq (a := 0) (b := 0) (by omega) (by omega)).mp c_3
    refine lv_iconst (v := (-1)) hx hb dX0_token_8 (by decide) ?_
    exact W.iret (v := (-1)) hx hb hr (fun t ht hW => ⟨_, rfl, rfl, ht⟩) (fun q h => by cases h) dX0_token_9
set_option maxHeartbeats 4000000 in
set_option maxRecDepth 100000 in
theorem c_token_in (l : Launch) (dC : Nat → ClassId) (dI : Nat → Nat → Nat) (cA : ClassId) (a0 a1 a2 : Nat) (Z : Nat → Nat) (T K : Nat → Int64) (j : Nat) (w : Int32) (h9 : Z 9 ≤ 8000) (hj : j < Z 9) : Met l yX0_token wX0_token ({ frames := 1, cells := 0, slots := 0, locals := 21 }) (va_Pc [.ref a0, .int (nI j), .int (w)] (lmR dC dI cA a0 a1 a2 (Z, T, K))) (vp_Si (fun r => r = tkA K j w)) 0 0 (fun _ => False) := by
  refine Met.ofW (cc := cX0_token) (maxL := 5) (ret := (some .int)) (by decide) rfl ?_
  intro p e s m args below meth c s₁ B hml hv
  obtain ⟨rfl, hP, hK⟩ := hv
  have hx := B.exec
  have hb := B.bytes
  have hr := B.returns
  have hts : ∀ w ∈ bw, w.before _ s = true := fun w h => atoms_spec (ws := wX0_token) B.pre w (bc w h)
  have hown : s.vm.findClass RX0 = some m.cls := findClass_of_methodNamed B.named
  have hlocks := B.notSynchronized
  have hl := lv_entry ([.ref a0, .int (nI j), .int (w)]) (n := 5) (Nat.le_of_ble_eq_true rfl)
  rw [lg_entry_eq]
  generalize (lg_sl ([.ref a0, .int (nI j), .int (w)]) ++ List.replicate (5 - (lg_sl ([.ref a0, .int (nI j), .int (w)])).length) Slot.unset).toArray = ls at hl ⊢
  have hl : lv_has ls 5 [(0, .ref a0), (1, .int (nI j)), (2, .int (w))] := hl
  refine lv_aload_n hx hb dX0_token_0 rfl (lv_at hl 0 rfl) ?_
  refine lv_iload_n hx hb dX0_token_1 rfl (lv_at hl 1 rfl) ?_
  refine vp_callSi (va_Run.run (va_runV (As := [.int (nI j)]) (rest := []) ⟨hx, hb, hml, hown, hts⟩ (c_isAtHand_in l dC dI cA a0 a1 a2 Z T K j h9 hj) (cwV 1 hts (gV (fun _ h => h) ml_X0_71 im_X0_isAtHand se_X0_isAtHand ini_X0 co_X0_isAtHand) rfl rfl rfl pd_X0_isAtHand ⟨Nat.le_of_ble_eq_true rfl, Nat.le_of_ble_eq_true rfl⟩) (lm_preR hK hP) rfl rfl hl.1 rfl (lv_room (Nat.le_of_ble_eq_true rfl)) dX0_token_2 ⟨Nat.zero_le _, Nat.zero_le _⟩)) (fun r_1 (e_2 : r_1 = nI 1) => ?_)
  subst e_2
  refine lv_if_ne (tgt := 10) hx hb dX0_token_5 (by decide) (fun c_3 => ?_) (fun c_3 => ?_)
  · have c_3 := mt (nI_eq (a := 1) (b := 0) (by omega) (by omega)).mpr c_3
    refine lv_aload_n hx hb dX0_token_10 rfl (lv_at hl 0 rfl) ?_
    refine va_get (D := (dC, dI)) (ci := 0) (v := .ref a2) (C := RX0) (T := TX0) (N := 16) hx hb hts inX0 hown hK hP 0 rfl rfl 1 (by decide) (hts _ fl_X0_13) (fun _ h9 => h9) rfl dX0_token_11 ?_
    refine lv_iload_n hx hb dX0_token_14 rfl (lv_at hl 1 rfl) ?_
    refine va_lald hx hb hK hP 2 0 rfl rfl (vp_in_nI (by omega) (by decide)) dX0_token_15 ?_
    refine lv_topl (fun x_4 e_5 => ?_)
    obtain rfl : x_4 = lN (tn (K j)) := e_5.trans (by rw [nI_clamp (by omega), tn_lN])
    refine lv_lstore_n (lv' := [(3, .long (lN (tn (K j)))), (0, .ref a0), (1, .int (nI j)), (2, .int (w))]) hx hb dX0_token_16 rfl hl (by decide) rfl (fun ls hl => ?_)
    refine lv_iload_n hx hb dX0_token_17 rfl (lv_at hl 3 rfl) ?_
    rcases sw_4 w with rfl | rfl | rfl | rfl | rfl | hsw
    · refine lv_tableIn (tgt := 52) hx hb dX0_token_18 (by decide) (by decide) rfl (by decide) ?_
      refine lv_lload_n hx hb dX0_token_52 rfl (lv_at hl 0 rfl) ?_
      refine lv_bipush (v := nI 48) hx hb dX0_token_53 (by decide) ?_
      refine lv_lushr (v := lN ((tn (K j)) / 2 ^ 48)) hx hb dX0_token_55 (wb_shr (by first | exact tn_lt _ | omega) (by omega)) ?_
      refine lv_l2i (v := nI ((tn (K j)) / 2 ^ 48)) hx hb dX0_token_56 (lN_i _) ?_
      refine lv_bipush (v := nI 15) hx hb dX0_token_57 (by decide) ?_
      refine lv_iand hx hb dX0_token_59 ?_
      refine lv_topi (fun x_6 e_7 => ?_)
      obtain rfl : x_6 = nI (((tn (K j)) / 2 ^ 48) % 16) := e_7.trans (nI_mask ((tn (K j)) / 2 ^ 48) 4 (by decide) (by decide))
      exact W.iret (v := nI (((tn (K j)) / 2 ^ 48) % 16)) hx hb hr (fun t ht hW => ⟨_, rfl, (by rw [tkA, if_pos rfl]; rfl), ht⟩) (fun q h => by cases h) dX0_token_60
    · refine lv_tableIn (tgt := 61) hx hb dX0_token_18 (by decide) (by decide) rfl (by decide) ?_
      refine lv_lload_n hx hb dX0_token_61 rfl (lv_at hl 0 rfl) ?_
      refine lv_bipush (v := nI 32) hx hb dX0_token_62 (by decide) ?_
      refine lv_lushr (v := lN ((tn (K j)) / 2 ^ 32)) hx hb dX0_token_64 (wb_shr (by first | exact tn_lt _ | omega) (by omega)) ?_
      refine lv_l2i (v := nI ((tn (K j)) / 2 ^ 32)) hx hb dX0_token_65 (lN_i _) ?_
      refine lv_ldc (v := nI 65535) hx hb hown (hts _ cn_X0_75) dX0_token_66 ?_
      refine lv_iand hx hb dX0_token_68 ?_
      refine lv_topi (fun x_8 e_9 => ?_)
      obtain rfl : x_8 = nI (((tn (K j)) / 2 ^ 32) % 65536) := e_9.trans (nI_mask ((tn (K j)) / 2 ^ 32) 16 (by decide) (by decide))
      exact W.iret (v := nI (((tn (K j)) / 2 ^ 32) % 65536)) hx hb hr (fun t ht hW => ⟨_, rfl, (by rw [tkA, if_neg (by decide), if_pos rfl]; rfl), ht⟩) (fun q h => by cases h) dX0_token_69
    · refine lv_tableIn (tgt := 70) hx hb dX0_token_18 (by decide) (by decide) rfl (by decide) ?_
      refine lv_lload_n hx hb dX0_token_70 rfl (lv_at hl 0 rfl) ?_
      refine vp_callSi (va_Run.run (va_runS (As := [.long (lN (tn (K j)))]) (rest := []) ⟨hx, hb, hml, hown, hts⟩ (c_bytesOf l (tn (K j)) (tn_lt _)) (cwS 1 hts (gS (fun _ h => h) ml_X0_76 sm_X0_bytesOf ini_X0 co_X0_bytesOf) rfl rfl rfl pd_X0_bytesOf ⟨Nat.le_of_ble_eq_true rfl, Nat.le_of_ble_eq_true rfl⟩) st_pre rfl rfl hl.1 rfl (lv_room (Nat.le_of_ble_eq_true rfl)) dX0_token_71 ⟨Nat.zero_le _, Nat.zero_le _⟩)) (fun r_10 (e_11 : r_10 = nI ((tn (K j)) / 2 ^ 16 % 65536)) => ?_)
      subst e_11
      exact W.iret (v := nI ((tn (K j)) / 2 ^ 16 % 65536)) hx hb hr (fun t ht hW => ⟨_, rfl, (by rw [tkA, if_neg (by decide), if_neg (by decide), if_pos rfl]; rfl), ht⟩) (fun q h => by cases h) dX0_token_74
    · refine lv_tableIn (tgt := 75) hx hb dX0_token_18 (by decide) (by decide) rfl (by decide) ?_
      refine lv_lload_n hx hb dX0_token_75 rfl (lv_at hl 0 rfl) ?_
      refine lv_bipush (v := nI 52) hx hb dX0_token_76 (by decide) ?_
      refine lv_lushr (v := lN ((tn (K j)) / 2 ^ 52)) hx hb dX0_token_78 (wb_shr (by first | exact tn_lt _ | omega) (by omega)) ?_
      refine lv_l2i (v := nI ((tn (K j)) / 2 ^ 52)) hx hb dX0_token_79 (lN_i _) ?_
      refine lv_iconst (v := nI 1) hx hb dX0_token_80 (by decide) ?_
      refine lv_iand hx hb dX0_token_81 ?_
      refine lv_topi (fun x_12 e_13 => ?_)
      obtain rfl : x_12 = nI (((tn (K j)) / 2 ^ 52) % 2) := e_13.trans (nI_mask ((tn (K j)) / 2 ^ 52) 1 (by decide) (by decide))
      exact W.iret (v := nI (((tn (K j)) / 2 ^ 52) % 2)) hx hb hr (fun t ht hW => ⟨_, rfl, (by rw [tkA, if_neg (by decide), if_neg (by decide), if_neg (by decide), if_pos rfl]; rfl), ht⟩) (fun q h => by cases h) dX0_token_82
    · refine lv_tableIn (tgt := 83) hx hb dX0_token_18 (by decide) (by decide) rfl (by decide) ?_
      refine lv_iload_n hx hb dX0_token_83 rfl (lv_at hl 2 rfl) ?_
      refine lv_if_ne (tgt := 91) hx hb dX0_token_84 (by decide) (fun c_14 => ?_) (fun c_14 => ?_)
      · have c_14 := mt (nI_eq (a := j) (b := 0) (by omega) (by omega)).mpr c_14
        refine lv_iconst (v := nI 0) hx hb dX0_token_91 (by decide) ?_
        exact W.iret (v := nI 0) hx hb hr (fun t ht hW => ⟨_, rfl, (by rw [tkA, if_neg (by decide), if_neg (by decide), if_neg (by decide), if_neg (by decide), if_pos rfl, if_neg (by omega)]), ht⟩) (fun q h => by cases h) dX0_token_92
      · have c_14 := (nI_eq (a := j) (b := 0) (by omega) (by omega)).mp c_14
        refine lv_iconst (v := nI 1) hx hb dX0_token_87 (by decide) ?_
        refine lv_goto (tgt := 92) hx hb dX0_token_88 (by decide) ?_
        exact W.iret (v := nI 1) hx hb hr (fun t ht hW => ⟨_, rfl, (by rw [tkA, if_neg (by decide), if_neg (by decide), if_neg (by decide), if_neg (by decide), if_pos rfl, if_pos (by omega)]), ht⟩) (fun q h => by cases h) dX0_token_92
    · refine lv_tableOut (tgt := 93) hx hb dX0_token_18 hsw (by decide) ?_
      refine lv_iconst (v := (-1)) hx hb dX0_token_93 (by decide) ?_
      exact W.iret (v := (-1)) hx hb hr (fun t ht hW => ⟨_, rfl, (by rw [tkA, if_neg (fun z => by rw [z] at hsw; revert hsw; decide), if_neg (fun z => by rw [z] at hsw; revert hsw; decide), if_neg (fun z => by rw [z] at hsw; revert hsw; decide), if_neg (fun z => by rw [z] at hsw; revert hsw; decide), if_neg (fun z => by rw [z] at hsw; revert hsw; decide)]), ht⟩) (fun q h => by cases h) dX0_token_94
  · have c_3 := (nI_eq (a := 1) (b := 0) (by omega) (by omega)).mp c_3
    omega
