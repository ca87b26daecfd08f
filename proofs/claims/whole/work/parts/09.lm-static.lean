theorem isL_t {x : Nat} (h : (65 ≤ x ∧ x ≤ 90) ∨ (97 ≤ x ∧ x ≤ 122) ∨ x = 95) : isL x = true := by simp [isL]; omega
theorem isL_f {x : Nat} (h : ¬ ((65 ≤ x ∧ x ≤ 90) ∨ (97 ≤ x ∧ x ≤ 122) ∨ x = 95)) : isL x = false := by
  cases q : isL x with
  | false => rfl
  | true => simp [isL] at q; omega
theorem isD_t {x : Nat} (h : 48 ≤ x ∧ x ≤ 57) : isD x = true := by simp [isD]; omega
theorem isD_f {x : Nat} (h : ¬ (48 ≤ x ∧ x ≤ 57)) : isD x = false := by
  cases q : isD x with
  | false => rfl
  | true => simp [isD] at q; omega
theorem isB_t {x : Nat} (h : x = 32 ∨ x = 9 ∨ (11 ≤ x ∧ x ≤ 13)) : isB x = true := by simp [isB]; omega
theorem isB_f {x : Nat} (h : ¬ (x = 32 ∨ x = 9 ∨ (11 ≤ x ∧ x ≤ 13))) : isB x = false := by
  cases q : isB x with
  | false => rfl
  | true => simp [isB] at q; omega
theorem isQ_t {x : Nat} (h : x = 34 ∨ x = 39) : isQ x = true := by simp [isQ]; omega
theorem isQ_f {x : Nat} (h : ¬ (x = 34 ∨ x = 39)) : isQ x = false := by
  cases q : isQ x with
  | false => rfl
  | true => simp [isQ] at q; omega
set_option maxHeartbeats 4000000 in
set_option maxRecDepth 100000 in
theorem c_isLetter (l : Launch) (x : Nat) : Met l yX0_isLetter wX0_isLetter ({ frames := 0, cells := 0, slots := 0, locals := 0 }) (va_Pc [.int (bI x)] (fun _ => True)) (vp_Si (fun r => r = b2i (isL x))) 0 0 (fun _ => False) := by
  refine Met.ofW (cc := cX0_isLetter) (maxL := 1) (ret := (some .boolean)) (by decide) rfl ?_
  intro p e s m args below meth c s₁ B hml hv
  obtain ⟨rfl, -⟩ := hv
  have hx := B.exec
  have hb := B.bytes
  have hr := B.returns
  have hts : ∀ w ∈ bw, w.before _ s = true := fun w h => atoms_spec (ws := wX0_isLetter) B.pre w (bc w h)
  have hown : s.vm.findClass RX0 = some m.cls := findClass_of_methodNamed B.named
  have hlocks := B.notSynchronized
  have hl := lv_entry ([.int (bI x)]) (n := 1) (Nat.le_of_ble_eq_true rfl)
  rw [lg_entry_eq]
  generalize (lg_sl ([.int (bI x)]) ++ List.replicate (1 - (lg_sl ([.int (bI x)])).length) Slot.unset).toArray = ls at hl ⊢
  have hl : lv_has ls 1 [(0, .int (bI x))] := hl
  refine lv_iload_n hx hb dX0_isLetter_0 rfl (lv_at hl 0 rfl) ?_
  refine lv_bipush (v := nI 65) hx hb dX0_isLetter_1 (by decide) ?_
  refine lv_icmp_lt (tgt := 12) hx hb dX0_isLetter_3 (by decide) (fun c_1 => ?_) (fun c_1 => ?_)
  · have c_1 := (bI_ltN (by omega)).mp c_1
    refine lv_iload_n hx hb dX0_isLetter_12 rfl (lv_at hl 0 rfl) ?_
    refine lv_bipush (v := nI 97) hx hb dX0_isLetter_13 (by decide) ?_
    refine lv_icmp_lt (tgt := 24) hx hb dX0_isLetter_15 (by decide) (fun c_2 => ?_) (fun c_2 => ?_)
    · have c_2 := (bI_ltN (by omega)).mp c_2
      refine lv_iload_n hx hb dX0_isLetter_24 rfl (lv_at hl 0 rfl) ?_
      refine lv_bipush (v := nI 95) hx hb dX0_isLetter_25 (by decide) ?_
      refine lv_icmp_ne (tgt := 34) hx hb dX0_isLetter_27 (by decide) (fun c_3 => ?_) (fun c_3 => ?_)
      · have c_3 := mt (bI_eqN (by omega)).mpr c_3
        refine lv_iconst (v := nI 0) hx hb dX0_isLetter_34 (by decide) ?_
        exact W.zret (v := nI 0) hx hb hr rfl (fun t ht hW => ⟨_, rfl, (by rw [isL_f (by omega)]; rfl), ht⟩) (fun q h => by cases h) dX0_isLetter_35
      · have c_3 := (bI_eqN (by omega)).mp c_3
        refine lv_iconst (v := nI 1) hx hb dX0_isLetter_30 (by decide) ?_
        refine lv_goto (tgt := 35) hx hb dX0_isLetter_31 (by decide) ?_
        exact W.zret (v := nI 1) hx hb hr rfl (fun t ht hW => ⟨_, rfl, (by rw [isL_t (by omega)]; rfl), ht⟩) (fun q h => by cases h) dX0_isLetter_35
    · have c_2 := mt (bI_ltN (by omega)).mpr c_2
      refine lv_iload_n hx hb dX0_isLetter_18 rfl (lv_at hl 0 rfl) ?_
      refine lv_bipush (v := nI 122) hx hb dX0_isLetter_19 (by decide) ?_
      refine lv_icmp_le (tgt := 30) hx hb dX0_isLetter_21 (by decide) (fun c_4 => ?_) (fun c_4 => ?_)
      · have c_4 := (bI_leN (by omega)).mp c_4
        refine lv_iconst (v := nI 1) hx hb dX0_isLetter_30 (by decide) ?_
        refine lv_goto (tgt := 35) hx hb dX0_isLetter_31 (by decide) ?_
        exact W.zret (v := nI 1) hx hb hr rfl (fun t ht hW => ⟨_, rfl, (by rw [isL_t (by omega)]; rfl), ht⟩) (fun q h => by cases h) dX0_isLetter_35
      · have c_4 := mt (bI_leN (by omega)).mpr c_4
        refine lv_iload_n hx hb dX0_isLetter_24 rfl (lv_at hl 0 rfl) ?_
        refine lv_bipush (v := nI 95) hx hb dX0_isLetter_25 (by decide) ?_
        refine lv_icmp_ne (tgt := 34) hx hb dX0_isLetter_27 (by decide) (fun c_5 => ?_) (fun c_5 => ?_)
        · have c_5 := mt (bI_eqN (by omega)).mpr c_5
          refine lv_iconst (v := nI 0) hx hb dX0_isLetter_34 (by decide) ?_
          exact W.zret (v := nI 0) hx hb hr rfl (fun t ht hW => ⟨_, rfl, (by rw [isL_f (by omega)]; rfl), ht⟩) (fun q h => by cases h) dX0_isLetter_35
        · have c_5 := (bI_eqN (by omega)).mp c_5
          refine lv_iconst (v := nI 1) hx hb dX0_isLetter_30 (by decide) ?_
          refine lv_goto (tgt := 35) hx hb dX0_isLetter_31 (by decide) ?_
          exact W.zret (v := nI 1) hx hb hr rfl (fun t ht hW => ⟨_, rfl, (by rw [isL_t (by omega)]; rfl), ht⟩) (fun q h => by cases h) dX0_isLetter_35
  · have c_1 := mt (bI_ltN (by omega)).mpr c_1
    refine lv_iload_n hx hb dX0_isLetter_6 rfl (lv_at hl 0 rfl) ?_
    refine lv_bipush (v := nI 90) hx hb dX0_isLetter_7 (by decide) ?_
    refine lv_icmp_le (tgt := 30) hx hb dX0_isLetter_9 (by decide) (fun c_6 => ?_) (fun c_6 => ?_)
    · have c_6 := (bI_leN (by omega)).mp c_6
      refine lv_iconst (v := nI 1) hx hb dX0_isLetter_30 (by decide) ?_
      refine lv_goto (tgt := 35) hx hb dX0_isLetter_31 (by decide) ?_
      exact W.zret (v := nI 1) hx hb hr rfl (fun t ht hW => ⟨_, rfl, (by rw [isL_t (by omega)]; rfl), ht⟩) (fun q h => by cases h) dX0_isLetter_35
    · have c_6 := mt (bI_leN (by omega)).mpr c_6
      refine lv_iload_n hx hb dX0_isLetter_12 rfl (lv_at hl 0 rfl) ?_
      refine lv_bipush (v := nI 97) hx hb dX0_isLetter_13 (by decide) ?_
      refine lv_icmp_lt (tgt := 24) hx hb dX0_isLetter_15 (by decide) (fun c_7 => ?_) (fun c_7 => ?_)
      · have c_7 := (bI_ltN (by omega)).mp c_7
        refine lv_iload_n hx hb dX0_isLetter_24 rfl (lv_at hl 0 rfl) ?_
        refine lv_bipush (v := nI 95) hx hb dX0_isLetter_25 (by decide) ?_
        refine lv_icmp_ne (tgt := 34) hx hb dX0_isLetter_27 (by decide) (fun c_8 => ?_) (fun c_8 => ?_)
        · have c_8 := mt (bI_eqN (by omega)).mpr c_8
          refine lv_iconst (v := nI 0) hx hb dX0_isLetter_34 (by decide) ?_
          exact W.zret (v := nI 0) hx hb hr rfl (fun t ht hW => ⟨_, rfl, (by rw [isL_f (by omega)]; rfl), ht⟩) (fun q h => by cases h) dX0_isLetter_35
        · have c_8 := (bI_eqN (by omega)).mp c_8
          refine lv_iconst (v := nI 1) hx hb dX0_isLetter_30 (by decide) ?_
          refine lv_goto (tgt := 35) hx hb dX0_isLetter_31 (by decide) ?_
          exact W.zret (v := nI 1) hx hb hr rfl (fun t ht hW => ⟨_, rfl, (by rw [isL_t (by omega)]; rfl), ht⟩) (fun q h => by cases h) dX0_isLetter_35
      · have c_7 := mt (bI_ltN (by omega)).mpr c_7
        refine lv_iload_n hx hb dX0_isLetter_18 rfl (lv_at hl 0 rfl) ?_
        refine lv_bipush (v := nI 122) hx hb dX0_isLetter_19 (by decide) ?_
        refine lv_icmp_le (tgt := 30) hx hb dX0_isLetter_21 (by decide) (fun c_9 => ?_) (fun c_9 => ?_)
        · have c_9 := (bI_leN (by omega)).mp c_9
          refine lv_iconst (v := nI 1) hx hb dX0_isLetter_30 (by decide) ?_
          refine lv_goto (tgt := 35) hx hb dX0_isLetter_31 (by decide) ?_
          exact W.zret (v := nI 1) hx hb hr rfl (fun t ht hW => ⟨_, rfl, (by rw [isL_t (by omega)]; rfl), ht⟩) (fun q h => by cases h) dX0_isLetter_35
        · have c_9 := mt (bI_leN (by omega)).mpr c_9
          refine lv_iload_n hx hb dX0_isLetter_24 rfl (lv_at hl 0 rfl) ?_
          refine lv_bipush (v := nI 95) hx hb dX0_isLetter_25 (by decide) ?_
          refine lv_icmp_ne (tgt := 34) hx hb dX0_isLetter_27 (by decide) (fun c_10 => ?_) (fun c_10 => ?_)
          · have c_10 := mt (bI_eqN (by omega)).mpr c_10
            refine lv_iconst (v := nI 0) hx hb dX0_isLetter_34 (by decide) ?_
            exact W.zret (v := nI 0) hx hb hr rfl (fun t ht hW => ⟨_, rfl, (by rw [isL_f (by omega)]; rfl), ht⟩) (fun q h => by cases h) dX0_isLetter_35
          · have c_10 := (bI_eqN (by omega)).mp c_10
            refine lv_iconst (v := nI 1) hx hb dX0_isLetter_30 (by decide) ?_
            refine lv_goto (tgt := 35) hx hb dX0_isLetter_31 (by decide) ?_
            exact W.zret (v := nI 1) hx hb hr rfl (fun t ht hW => ⟨_, rfl, (by rw [isL_t (by omega)]; rfl), ht⟩) (fun q h => by cases h) dX0_isLetter_35
set_option maxHeartbeats 4000000 in
set_option maxRecDepth 100000 in
theorem c_isDigit (l : Launch) (x : Nat) : Met l yX0_isDigit wX0_isDigit ({ frames := 0, cells := 0, slots := 0, locals := 0 }) (va_Pc [.int (bI x)] (fun _ => True)) (vp_Si (fun r => r = b2i (isD x))) 0 0 (fun _ => False) := by
  refine Met.ofW (cc := cX0_isDigit) (maxL := 1) (ret := (some .boolean)) (by decide) rfl ?_
  intro p e s m args below meth c s₁ B hml hv
  obtain ⟨rfl, -⟩ := hv
  have hx := B.exec
  have hb := B.bytes
  have hr := B.returns
  have hts : ∀ w ∈ bw, w.before _ s = true := fun w h => atoms_spec (ws := wX0_isDigit) B.pre w (bc w h)
  have hown : s.vm.findClass RX0 = some m.cls := findClass_of_methodNamed B.named
  have hlocks := B.notSynchronized
  have hl := lv_entry ([.int (bI x)]) (n := 1) (Nat.le_of_ble_eq_true rfl)
  rw [lg_entry_eq]
  generalize (lg_sl ([.int (bI x)]) ++ List.replicate (1 - (lg_sl ([.int (bI x)])).length) Slot.unset).toArray = ls at hl ⊢
  have hl : lv_has ls 1 [(0, .int (bI x))] := hl
  refine lv_iload_n hx hb dX0_isDigit_0 rfl (lv_at hl 0 rfl) ?_
  refine lv_bipush (v := nI 48) hx hb dX0_isDigit_1 (by decide) ?_
  refine lv_icmp_lt (tgt := 16) hx hb dX0_isDigit_3 (by decide) (fun c_1 => ?_) (fun c_1 => ?_)
  · have c_1 := (bI_ltN (by omega)).mp c_1
    refine lv_iconst (v := nI 0) hx hb dX0_isDigit_16 (by decide) ?_
    exact W.zret (v := nI 0) hx hb hr rfl (fun t ht hW => ⟨_, rfl, (by rw [isD_f (by omega)]; rfl), ht⟩) (fun q h => by cases h) dX0_isDigit_17
  · have c_1 := mt (bI_ltN (by omega)).mpr c_1
    refine lv_iload_n hx hb dX0_isDigit_6 rfl (lv_at hl 0 rfl) ?_
    refine lv_bipush (v := nI 57) hx hb dX0_isDigit_7 (by decide) ?_
    refine lv_icmp_gt (tgt := 16) hx hb dX0_isDigit_9 (by decide) (fun c_2 => ?_) (fun c_2 => ?_)
    · have c_2 := (bI_Nlt (by omega)).mp c_2
      refine lv_iconst (v := nI 0) hx hb dX0_isDigit_16 (by decide) ?_
      exact W.zret (v := nI 0) hx hb hr rfl (fun t ht hW => ⟨_, rfl, (by rw [isD_f (by omega)]; rfl), ht⟩) (fun q h => by cases h) dX0_isDigit_17
    · have c_2 := mt (bI_Nlt (by omega)).mpr c_2
      refine lv_iconst (v := nI 1) hx hb dX0_isDigit_12 (by decide) ?_
      refine lv_goto (tgt := 17) hx hb dX0_isDigit_13 (by decide) ?_
      exact W.zret (v := nI 1) hx hb hr rfl (fun t ht hW => ⟨_, rfl, (by rw [isD_t (by omega)]; rfl), ht⟩) (fun q h => by cases h) dX0_isDigit_17
set_option maxHeartbeats 4000000 in
set_option maxRecDepth 100000 in
theorem c_isBlank (l : Launch) (x : Nat) : Met l yX0_isBlank wX0_isBlank ({ frames := 0, cells := 0, slots := 0, locals := 0 }) (va_Pc [.int (bI x)] (fun _ => True)) (vp_Si (fun r => r = b2i (isB x))) 0 0 (fun _ => False) := by
  refine Met.ofW (cc := cX0_isBlank) (maxL := 1) (ret := (some .boolean)) (by decide) rfl ?_
  intro p e s m args below meth c s₁ B hml hv
  obtain ⟨rfl, -⟩ := hv
  have hx := B.exec
  have hb := B.bytes
  have hr := B.returns
  have hts : ∀ w ∈ bw, w.before _ s = true := fun w h => atoms_spec (ws := wX0_isBlank) B.pre w (bc w h)
  have hown : s.vm.findClass RX0 = some m.cls := findClass_of_methodNamed B.named
  have hlocks := B.notSynchronized
  have hl := lv_entry ([.int (bI x)]) (n := 1) (Nat.le_of_ble_eq_true rfl)
  rw [lg_entry_eq]
  generalize (lg_sl ([.int (bI x)]) ++ List.replicate (1 - (lg_sl ([.int (bI x)])).length) Slot.unset).toArray = ls at hl ⊢
  have hl : lv_has ls 1 [(0, .int (bI x))] := hl
  refine lv_iload_n hx hb dX0_isBlank_0 rfl (lv_at hl 0 rfl) ?_
  refine lv_bipush (v := nI 32) hx hb dX0_isBlank_1 (by decide) ?_
  refine lv_icmp_eq (tgt := 24) hx hb dX0_isBlank_3 (by decide) (fun c_1 => ?_) (fun c_1 => ?_)
  · have c_1 := (bI_eqN (by omega)).mp c_1
    refine lv_iconst (v := nI 1) hx hb dX0_isBlank_24 (by decide) ?_
    refine lv_goto (tgt := 29) hx hb dX0_isBlank_25 (by decide) ?_
    exact W.zret (v := nI 1) hx hb hr rfl (fun t ht hW => ⟨_, rfl, (by rw [isB_t (by omega)]; rfl), ht⟩) (fun q h => by cases h) dX0_isBlank_29
  · have c_1 := mt (bI_eqN (by omega)).mpr c_1
    refine lv_iload_n hx hb dX0_isBlank_6 rfl (lv_at hl 0 rfl) ?_
    refine lv_bipush (v := nI 9) hx hb dX0_isBlank_7 (by decide) ?_
    refine lv_icmp_eq (tgt := 24) hx hb dX0_isBlank_9 (by decide) (fun c_2 => ?_) (fun c_2 => ?_)
    · have c_2 := (bI_eqN (by omega)).mp c_2
      refine lv_iconst (v := nI 1) hx hb dX0_isBlank_24 (by decide) ?_
      refine lv_goto (tgt := 29) hx hb dX0_isBlank_25 (by decide) ?_
      exact W.zret (v := nI 1) hx hb hr rfl (fun t ht hW => ⟨_, rfl, (by rw [isB_t (by omega)]; rfl), ht⟩) (fun q h => by cases h) dX0_isBlank_29
    · have c_2 := mt (bI_eqN (by omega)).mpr c_2
      refine lv_iload_n hx hb dX0_isBlank_12 rfl (lv_at hl 0 rfl) ?_
      refine lv_bipush (v := nI 11) hx hb dX0_isBlank_13 (by decide) ?_
      refine lv_icmp_lt (tgt := 28) hx hb dX0_isBlank_15 (by decide) (fun c_3 => ?_) (fun c_3 => ?_)
      · have c_3 := (bI_ltN (by omega)).mp c_3
        refine lv_iconst (v := nI 0) hx hb dX0_isBlank_28 (by decide) ?_
        exact W.zret (v := nI 0) hx hb hr rfl (fun t ht hW => ⟨_, rfl, (by rw [isB_f (by omega)]; rfl), ht⟩) (fun q h => by cases h) dX0_isBlank_29
      · have c_3 := mt (bI_ltN (by omega)).mpr c_3
        refine lv_iload_n hx hb dX0_isBlank_18 rfl (lv_at hl 0 rfl) ?_
        refine lv_bipush (v := nI 13) hx hb dX0_isBlank_19 (by decide) ?_
        refine lv_icmp_gt (tgt := 28) hx hb dX0_isBlank_21 (by decide) (fun c_4 => ?_) (fun c_4 => ?_)
        · have c_4 := (bI_Nlt (by omega)).mp c_4
          refine lv_iconst (v := nI 0) hx hb dX0_isBlank_28 (by decide) ?_
          exact W.zret (v := nI 0) hx hb hr rfl (fun t ht hW => ⟨_, rfl, (by rw [isB_f (by omega)]; rfl), ht⟩) (fun q h => by cases h) dX0_isBlank_29
        · have c_4 := mt (bI_Nlt (by omega)).mpr c_4
          refine lv_iconst (v := nI 1) hx hb dX0_isBlank_24 (by decide) ?_
          refine lv_goto (tgt := 29) hx hb dX0_isBlank_25 (by decide) ?_
          exact W.zret (v := nI 1) hx hb hr rfl (fun t ht hW => ⟨_, rfl, (by rw [isB_t (by omega)]; rfl), ht⟩) (fun q h => by cases h) dX0_isBlank_29
set_option maxHeartbeats 4000000 in
set_option maxRecDepth 100000 in
theorem c_isQuote (l : Launch) (x : Nat) : Met l yX0_isQuote wX0_isQuote ({ frames := 0, cells := 0, slots := 0, locals := 0 }) (va_Pc [.int (bI x)] (fun _ => True)) (vp_Si (fun r => r = b2i (isQ x))) 0 0 (fun _ => False) := by
  refine Met.ofW (cc := cX0_isQuote) (maxL := 1) (ret := (some .boolean)) (by decide) rfl ?_
  intro p e s m args below meth c s₁ B hml hv
  obtain ⟨rfl, -⟩ := hv
  have hx := B.exec
  have hb := B.bytes
  have hr := B.returns
  have hts : ∀ w ∈ bw, w.before _ s = true := fun w h => atoms_spec (ws := wX0_isQuote) B.pre w (bc w h)
  have hown : s.vm.findClass RX0 = some m.cls := findClass_of_methodNamed B.named
  have hlocks := B.notSynchronized
  have hl := lv_entry ([.int (bI x)]) (n := 1) (Nat.le_of_ble_eq_true rfl)
  rw [lg_entry_eq]
  generalize (lg_sl ([.int (bI x)]) ++ List.replicate (1 - (lg_sl ([.int (bI x)])).length) Slot.unset).toArray = ls at hl ⊢
  have hl : lv_has ls 1 [(0, .int (bI x))] := hl
  refine lv_iload_n hx hb dX0_isQuote_0 rfl (lv_at hl 0 rfl) ?_
  refine lv_bipush (v := nI 34) hx hb dX0_isQuote_1 (by decide) ?_
  refine lv_icmp_eq (tgt := 12) hx hb dX0_isQuote_3 (by decide) (fun c_1 => ?_) (fun c_1 => ?_)
  · have c_1 := (bI_eqN (by omega)).mp c_1
    refine lv_iconst (v := nI 1) hx hb dX0_isQuote_12 (by decide) ?_
    refine lv_goto (tgt := 17) hx hb dX0_isQuote_13 (by decide) ?_
    exact W.zret (v := nI 1) hx hb hr rfl (fun t ht hW => ⟨_, rfl, (by rw [isQ_t (by omega)]; rfl), ht⟩) (fun q h => by cases h) dX0_isQuote_17
  · have c_1 := mt (bI_eqN (by omega)).mpr c_1
    refine lv_iload_n hx hb dX0_isQuote_6 rfl (lv_at hl 0 rfl) ?_
    refine lv_bipush (v := nI 39) hx hb dX0_isQuote_7 (by decide) ?_
    refine lv_icmp_ne (tgt := 16) hx hb dX0_isQuote_9 (by decide) (fun c_2 => ?_) (fun c_2 => ?_)
    · have c_2 := mt (bI_eqN (by omega)).mpr c_2
      refine lv_iconst (v := nI 0) hx hb dX0_isQuote_16 (by decide) ?_
      exact W.zret (v := nI 0) hx hb hr rfl (fun t ht hW => ⟨_, rfl, (by rw [isQ_f (by omega)]; rfl), ht⟩) (fun q h => by cases h) dX0_isQuote_17
    · have c_2 := (bI_eqN (by omega)).mp c_2
      refine lv_iconst (v := nI 1) hx hb dX0_isQuote_12 (by decide) ?_
      refine lv_goto (tgt := 17) hx hb dX0_isQuote_13 (by decide) ?_
      exact W.zret (v := nI 1) hx hb hr rfl (fun t ht hW => ⟨_, rfl, (by rw [isQ_t (by omega)]; rfl), ht⟩) (fun q h => by cases h) dX0_isQuote_17
set_option maxHeartbeats 4000000 in
set_option maxRecDepth 100000 in
theorem c_kindOfQuote (l : Launch) (x : Nat) : Met l yX0_kindOfQuote wX0_kindOfQuote ({ frames := 0, cells := 0, slots := 0, locals := 0 }) (va_Pc [.int (bI x)] (fun _ => True)) (vp_Si (fun r => r = nI (kdQ x))) 0 0 (fun _ => False) := by
  refine Met.ofW (cc := cX0_kindOfQuote) (maxL := 1) (ret := (some .int)) (by decide) rfl ?_
  intro p e s m args below meth c s₁ B hml hv
  obtain ⟨rfl, -⟩ := hv
  have hx := B.exec
  have hb := B.bytes
  have hr := B.returns
  have hts : ∀ w ∈ bw, w.before _ s = true := fun w h => atoms_spec (ws := wX0_kindOfQuote) B.pre w (bc w h)
  have hown : s.vm.findClass RX0 = some m.cls := findClass_of_methodNamed B.named
  have hlocks := B.notSynchronized
  have hl := lv_entry ([.int (bI x)]) (n := 1) (Nat.le_of_ble_eq_true rfl)
  rw [lg_entry_eq]
  generalize (lg_sl ([.int (bI x)]) ++ List.replicate (1 - (lg_sl ([.int (bI x)])).length) Slot.unset).toArray = ls at hl ⊢
  have hl : lv_has ls 1 [(0, .int (bI x))] := hl
  refine lv_iload_n hx hb dX0_kindOfQuote_0 rfl (lv_at hl 0 rfl) ?_
  refine lv_bipush (v := nI 34) hx hb dX0_kindOfQuote_1 (by decide) ?_
  refine lv_icmp_ne (tgt := 10) hx hb dX0_kindOfQuote_3 (by decide) (fun c_1 => ?_) (fun c_1 => ?_)
  · have c_1 := mt (bI_eqN (by omega)).mpr c_1
    refine lv_iconst (v := nI 4) hx hb dX0_kindOfQuote_10 (by decide) ?_
    exact W.iret (v := nI 4) hx hb hr (fun t ht hW => ⟨_, rfl, (by rw [kdQ, if_neg (by omega)]), ht⟩) (fun q h => by cases h) dX0_kindOfQuote_11
  · have c_1 := (bI_eqN (by omega)).mp c_1
    refine lv_iconst (v := nI 3) hx hb dX0_kindOfQuote_6 (by decide) ?_
    refine lv_goto (tgt := 11) hx hb dX0_kindOfQuote_7 (by decide) ?_
    exact W.iret (v := nI 3) hx hb hr (fun t ht hW => ⟨_, rfl, (by rw [kdQ, if_pos (by omega)]), ht⟩) (fun q h => by cases h) dX0_kindOfQuote_11
set_option maxHeartbeats 4000000 in
set_option maxRecDepth 100000 in
theorem c_startOf (l : Launch) (x : Nat) : Met l yX0_startOf wX0_startOf ({ frames := 0, cells := 0, slots := 0, locals := 0 }) (va_Pc [.long (lN x)] (fun _ => True)) (vp_Si (fun r => r = nI (x % 65536))) 0 0 (fun _ => False) := by
  refine Met.ofW (cc := cX0_startOf) (maxL := 2) (ret := (some .int)) (by decide) rfl ?_
  intro p e s m args below meth c s₁ B hml hv
  obtain ⟨rfl, -⟩ := hv
  have hx := B.exec
  have hb := B.bytes
  have hr := B.returns
  have hts : ∀ w ∈ bw, w.before _ s = true := fun w h => atoms_spec (ws := wX0_startOf) B.pre w (bc w h)
  have hown : s.vm.findClass RX0 = some m.cls := findClass_of_methodNamed B.named
  have hlocks := B.notSynchronized
  have hl := lv_entry ([.long (lN x)]) (n := 2) (Nat.le_of_ble_eq_true rfl)
  rw [lg_entry_eq]
  generalize (lg_sl ([.long (lN x)]) ++ List.replicate (2 - (lg_sl ([.long (lN x)])).length) Slot.unset).toArray = ls at hl ⊢
  have hl : lv_has ls 2 [(0, .long (lN x))] := hl
  refine lv_lload_n hx hb dX0_startOf_0 rfl (lv_at hl 0 rfl) ?_
  refine lv_l2i (v := nI x) hx hb dX0_startOf_1 (lN_i _) ?_
  refine lv_ldc (v := nI 65535) hx hb hown (hts _ cn_X0_75) dX0_startOf_2 ?_
  refine lv_iand hx hb dX0_startOf_4 ?_
  refine lv_topi (fun x_1 e_2 => ?_)
  obtain rfl : x_1 = nI (x % 65536) := e_2.trans (nI_mask x 16 (by decide) (by decide))
  exact W.iret (v := nI (x % 65536)) hx hb hr (fun t ht hW => ⟨_, rfl, rfl, ht⟩) (fun q h => by cases h) dX0_startOf_5
set_option maxHeartbeats 4000000 in
set_option maxRecDepth 100000 in
theorem c_bytesOf (l : Launch) (x : Nat) (hxb : x < 2 ^ 64) : Met l yX0_bytesOf wX0_bytesOf ({ frames := 0, cells := 0, slots := 0, locals := 0 }) (va_Pc [.long (lN x)] (fun _ => True)) (vp_Si (fun r => r = nI (x / 2 ^ 16 % 65536))) 0 0 (fun _ => False) := by
  refine Met.ofW (cc := cX0_bytesOf) (maxL := 2) (ret := (some .int)) (by decide) rfl ?_
  intro p e s m args below meth c s₁ B hml hv
  obtain ⟨rfl, -⟩ := hv
  have hx := B.exec
  have hb := B.bytes
  have hr := B.returns
  have hts : ∀ w ∈ bw, w.before _ s = true := fun w h => atoms_spec (ws := wX0_bytesOf) B.pre w (bc w h)
  have hown : s.vm.findClass RX0 = some m.cls := findClass_of_methodNamed B.named
  have hlocks := B.notSynchronized
  have hl := lv_entry ([.long (lN x)]) (n := 2) (Nat.le_of_ble_eq_true rfl)
  rw [lg_entry_eq]
  generalize (lg_sl ([.long (lN x)]) ++ List.replicate (2 - (lg_sl ([.long (lN x)])).length) Slot.unset).toArray = ls at hl ⊢
  have hl : lv_has ls 2 [(0, .long (lN x))] := hl
  refine lv_lload_n hx hb dX0_bytesOf_0 rfl (lv_at hl 0 rfl) ?_
  refine lv_bipush (v := nI 16) hx hb dX0_bytesOf_1 (by decide) ?_
  refine lv_lushr (v := lN (x / 2 ^ 16)) hx hb dX0_bytesOf_3 (wb_shr (by first | exact tn_lt _ | omega) (by omega)) ?_
  refine lv_l2i (v := nI (x / 2 ^ 16)) hx hb dX0_bytesOf_4 (lN_i _) ?_
  refine lv_ldc (v := nI 65535) hx hb hown (hts _ cn_X0_75) dX0_bytesOf_5 ?_
  refine lv_iand hx hb dX0_bytesOf_7 ?_
  refine lv_topi (fun x_1 e_2 => ?_)
  obtain rfl : x_1 = nI ((x / 2 ^ 16) % 65536) := e_2.trans (nI_mask (x / 2 ^ 16) 16 (by decide) (by decide))
  exact W.iret (v := nI ((x / 2 ^ 16) % 65536)) hx hb hr (fun t ht hW => ⟨_, rfl, rfl, ht⟩) (fun q h => by cases h) dX0_bytesOf_8
set_option maxHeartbeats 4000000 in
set_option maxRecDepth 100000 in
theorem c_goesOnNumber (l : Launch) (x : Nat) (y : Nat) : Met l yX0_goesOnNumber wX0_goesOnNumber ({ frames := 1, cells := 0, slots := 0, locals := 20 }) (va_Pc [.int (bI x), .int (bI y)] (fun _ => True)) (vp_Si (fun r => r = b2i (goN x y))) 0 0 (fun _ => False) := by
  refine Met.ofW (cc := cX0_goesOnNumber) (maxL := 2) (ret := (some .boolean)) (by decide) rfl ?_
  intro p e s m args below meth c s₁ B hml hv
  obtain ⟨rfl, -⟩ := hv
  have hx := B.exec
  have hb := B.bytes
  have hr := B.returns
  have hts : ∀ w ∈ bw, w.before _ s = true := fun w h => atoms_spec (ws := wX0_goesOnNumber) B.pre w (bc w h)
  have hown : s.vm.findClass RX0 = some m.cls := findClass_of_methodNamed B.named
  have hlocks := B.notSynchronized
  have hl := lv_entry ([.int (bI x), .int (bI y)]) (n := 2) (Nat.le_of_ble_eq_true rfl)
  rw [lg_entry_eq]
  generalize (lg_sl ([.int (bI x), .int (bI y)]) ++ List.replicate (2 - (lg_sl ([.int (bI x), .int (bI y)])).length) Slot.unset).toArray = ls at hl ⊢
  have hl : lv_has ls 2 [(0, .int (bI x)), (1, .int (bI y))] := hl
  refine lv_iload_n hx hb dX0_goesOnNumber_0 rfl (lv_at hl 0 rfl) ?_
  refine lv_bipush (v := nI 43) hx hb dX0_goesOnNumber_1 (by decide) ?_
  refine lv_icmp_eq (tgt := 12) hx hb dX0_goesOnNumber_3 (by decide) (fun c_1 => ?_) (fun c_1 => ?_)
  · have c_1 := (bI_eqN (by omega)).mp c_1
    refine lv_iload_n hx hb dX0_goesOnNumber_12 rfl (lv_at hl 1 rfl) ?_
    refine lv_bipush (v := nI 101) hx hb dX0_goesOnNumber_13 (by decide) ?_
    refine lv_icmp_eq (tgt := 36) hx hb dX0_goesOnNumber_15 (by decide) (fun c_2 => ?_) (fun c_2 => ?_)
    · have c_2 := (bI_eqN (by omega)).mp c_2
      refine lv_iconst (v := nI 1) hx hb dX0_goesOnNumber_36 (by decide) ?_
      refine lv_goto (tgt := 41) hx hb dX0_goesOnNumber_37 (by decide) ?_
      exact W.zret (v := nI 1) hx hb hr rfl (fun t ht hW => ⟨_, rfl, (by rw [goN, if_pos (by omega)]; simp only [b2i]; rw [show (decide (y = 101) || decide (y = 69) || decide (y = 112) || decide (y = 80)) = true by simp; omega]; rfl), ht⟩) (fun q h => by cases h) dX0_goesOnNumber_41
    · have c_2 := mt (bI_eqN (by omega)).mpr c_2
      refine lv_iload_n hx hb dX0_goesOnNumber_18 rfl (lv_at hl 1 rfl) ?_
      refine lv_bipush (v := nI 69) hx hb dX0_goesOnNumber_19 (by decide) ?_
      refine lv_icmp_eq (tgt := 36) hx hb dX0_goesOnNumber_21 (by decide) (fun c_3 => ?_) (fun c_3 => ?_)
      · have c_3 := (bI_eqN (by omega)).mp c_3
        refine lv_iconst (v := nI 1) hx hb dX0_goesOnNumber_36 (by decide) ?_
        refine lv_goto (tgt := 41) hx hb dX0_goesOnNumber_37 (by decide) ?_
        exact W.zret (v := nI 1) hx hb hr rfl (fun t ht hW => ⟨_, rfl, (by rw [goN, if_pos (by omega)]; simp only [b2i]; rw [show (decide (y = 101) || decide (y = 69) || decide (y = 112) || decide (y = 80)) = true by simp; omega]; rfl), ht⟩) (fun q h => by cases h) dX0_goesOnNumber_41
      · have c_3 := mt (bI_eqN (by omega)).mpr c_3
        refine lv_iload_n hx hb dX0_goesOnNumber_24 rfl (lv_at hl 1 rfl) ?_
        refine lv_bipush (v := nI 112) hx hb dX0_goesOnNumber_25 (by decide) ?_
        refine lv_icmp_eq (tgt := 36) hx hb dX0_goesOnNumber_27 (by decide) (fun c_4 => ?_) (fun c_4 => ?_)
        · have c_4 := (bI_eqN (by omega)).mp c_4
          refine lv_iconst (v := nI 1) hx hb dX0_goesOnNumber_36 (by decide) ?_
          refine lv_goto (tgt := 41) hx hb dX0_goesOnNumber_37 (by decide) ?_
          exact W.zret (v := nI 1) hx hb hr rfl (fun t ht hW => ⟨_, rfl, (by rw [goN, if_pos (by omega)]; simp only [b2i]; rw [show (decide (y = 101) || decide (y = 69) || decide (y = 112) || decide (y = 80)) = true by simp; omega]; rfl), ht⟩) (fun q h => by cases h) dX0_goesOnNumber_41
        · have c_4 := mt (bI_eqN (by omega)).mpr c_4
          refine lv_iload_n hx hb dX0_goesOnNumber_30 rfl (lv_at hl 1 rfl) ?_
          refine lv_bipush (v := nI 80) hx hb dX0_goesOnNumber_31 (by decide) ?_
          refine lv_icmp_ne (tgt := 40) hx hb dX0_goesOnNumber_33 (by decide) (fun c_5 => ?_) (fun c_5 => ?_)
          · have c_5 := mt (bI_eqN (by omega)).mpr c_5
            refine lv_iconst (v := nI 0) hx hb dX0_goesOnNumber_40 (by decide) ?_
            exact W.zret (v := nI 0) hx hb hr rfl (fun t ht hW => ⟨_, rfl, (by rw [goN, if_pos (by omega)]; rw [show (decide (y = 101) || decide (y = 69) || decide (y = 112) || decide (y = 80)) = false by simp; omega]; rfl), ht⟩) (fun q h => by cases h) dX0_goesOnNumber_41
          · have c_5 := (bI_eqN (by omega)).mp c_5
            refine lv_iconst (v := nI 1) hx hb dX0_goesOnNumber_36 (by decide) ?_
            refine lv_goto (tgt := 41) hx hb dX0_goesOnNumber_37 (by decide) ?_
            exact W.zret (v := nI 1) hx hb hr rfl (fun t ht hW => ⟨_, rfl, (by rw [goN, if_pos (by omega)]; simp only [b2i]; rw [show (decide (y = 101) || decide (y = 69) || decide (y = 112) || decide (y = 80)) = true by simp; omega]; rfl), ht⟩) (fun q h => by cases h) dX0_goesOnNumber_41
  · have c_1 := mt (bI_eqN (by omega)).mpr c_1
    refine lv_iload_n hx hb dX0_goesOnNumber_6 rfl (lv_at hl 0 rfl) ?_
    refine lv_bipush (v := nI 45) hx hb dX0_goesOnNumber_7 (by decide) ?_
    refine lv_icmp_ne (tgt := 42) hx hb dX0_goesOnNumber_9 (by decide) (fun c_6 => ?_) (fun c_6 => ?_)
    · have c_6 := mt (bI_eqN (by omega)).mpr c_6
      refine lv_iload_n hx hb dX0_goesOnNumber_42 rfl (lv_at hl 0 rfl) ?_
      refine vp_callSi (va_Run.run (va_runS (As := [.int (bI x)]) (rest := []) ⟨hx, hb, hml, hown, hts⟩ (c_isDigit l x) (cwS 1 hts (gS (fun _ h => h) ml_X0_142 sm_X0_isDigit ini_X0 co_X0_isDigit) rfl rfl rfl pd_X0_isDigit ⟨Nat.le_of_ble_eq_true rfl, Nat.le_of_ble_eq_true rfl⟩) st_pre rfl rfl hl.1 rfl (lv_room (Nat.le_of_ble_eq_true rfl)) dX0_goesOnNumber_43 ⟨Nat.zero_le _, Nat.zero_le _⟩)) (fun r_7 (e_8 : r_7 = b2i (isD x)) => ?_)
      subst e_8
      refine lv_if_ne (tgt := 62) hx hb dX0_goesOnNumber_46 (by decide) (fun c_9 => ?_) (fun c_9 => ?_)
      · have c_9 := mt (b2i_z (isD x)).mpr c_9
        refine lv_iconst (v := nI 1) hx hb dX0_goesOnNumber_62 (by decide) ?_
        refine lv_goto (tgt := 67) hx hb dX0_goesOnNumber_63 (by decide) ?_
        exact W.zret (v := nI 1) hx hb hr rfl (fun t ht hW => ⟨_, rfl, (by rw [goN, if_neg (by omega)]; rw [show isD x = true by simpa using c_9, Bool.true_or, Bool.true_or]; rfl), ht⟩) (fun q h => by cases h) dX0_goesOnNumber_67
      · have c_9 := (b2i_z (isD x)).mp c_9
        refine lv_iload_n hx hb dX0_goesOnNumber_49 rfl (lv_at hl 0 rfl) ?_
        refine vp_callSi (va_Run.run (va_runS (As := [.int (bI x)]) (rest := []) ⟨hx, hb, hml, hown, hts⟩ (c_isLetter l x) (cwS 1 hts (gS (fun _ h => h) ml_X0_133 sm_X0_isLetter ini_X0 co_X0_isLetter) rfl rfl rfl pd_X0_isLetter ⟨Nat.le_of_ble_eq_true rfl, Nat.le_of_ble_eq_true rfl⟩) st_pre rfl rfl hl.1 rfl (lv_room (Nat.le_of_ble_eq_true rfl)) dX0_goesOnNumber_50 ⟨Nat.zero_le _, Nat.zero_le _⟩)) (fun r_10 (e_11 : r_10 = b2i (isL x)) => ?_)
        subst e_11
        refine lv_if_ne (tgt := 62) hx hb dX0_goesOnNumber_53 (by decide) (fun c_12 => ?_) (fun c_12 => ?_)
        · have c_12 := mt (b2i_z (isL x)).mpr c_12
          refine lv_iconst (v := nI 1) hx hb dX0_goesOnNumber_62 (by decide) ?_
          refine lv_goto (tgt := 67) hx hb dX0_goesOnNumber_63 (by decide) ?_
          exact W.zret (v := nI 1) hx hb hr rfl (fun t ht hW => ⟨_, rfl, (by rw [goN, if_neg (by omega)]; rw [show isL x = true by simpa using c_12, Bool.or_true, Bool.true_or]; rfl), ht⟩) (fun q h => by cases h) dX0_goesOnNumber_67
        · have c_12 := (b2i_z (isL x)).mp c_12
          refine lv_iload_n hx hb dX0_goesOnNumber_56 rfl (lv_at hl 0 rfl) ?_
          refine lv_bipush (v := nI 46) hx hb dX0_goesOnNumber_57 (by decide) ?_
          refine lv_icmp_ne (tgt := 66) hx hb dX0_goesOnNumber_59 (by decide) (fun c_13 => ?_) (fun c_13 => ?_)
          · have c_13 := mt (bI_eqN (by omega)).mpr c_13
            refine lv_iconst (v := nI 0) hx hb dX0_goesOnNumber_66 (by decide) ?_
            exact W.zret (v := nI 0) hx hb hr rfl (fun t ht hW => ⟨_, rfl, (by rw [goN, if_neg (by omega), c_9, c_12]; rw [show (decide (x = 46)) = false by simp; omega]; rfl), ht⟩) (fun q h => by cases h) dX0_goesOnNumber_67
          · have c_13 := (bI_eqN (by omega)).mp c_13
            refine lv_iconst (v := nI 1) hx hb dX0_goesOnNumber_62 (by decide) ?_
            refine lv_goto (tgt := 67) hx hb dX0_goesOnNumber_63 (by decide) ?_
            exact W.zret (v := nI 1) hx hb hr rfl (fun t ht hW => ⟨_, rfl, (by rw [goN, if_neg (by omega)]; rw [show (decide (x = 46)) = true by simp; omega, Bool.or_true]; rfl), ht⟩) (fun q h => by cases h) dX0_goesOnNumber_67
    · have c_6 := (bI_eqN (by omega)).mp c_6
      refine lv_iload_n hx hb dX0_goesOnNumber_12 rfl (lv_at hl 1 rfl) ?_
      refine lv_bipush (v := nI 101) hx hb dX0_goesOnNumber_13 (by decide) ?_
      refine lv_icmp_eq (tgt := 36) hx hb dX0_goesOnNumber_15 (by decide) (fun c_14 => ?_) (fun c_14 => ?_)
      · have c_14 := (bI_eqN (by omega)).mp c_14
        refine lv_iconst (v := nI 1) hx hb dX0_goesOnNumber_36 (by decide) ?_
        refine lv_goto (tgt := 41) hx hb dX0_goesOnNumber_37 (by decide) ?_
        exact W.zret (v := nI 1) hx hb hr rfl (fun t ht hW => ⟨_, rfl, (by rw [goN, if_pos (by omega)]; simp only [b2i]; rw [show (decide (y = 101) || decide (y = 69) || decide (y = 112) || decide (y = 80)) = true by simp; omega]; rfl), ht⟩) (fun q h => by cases h) dX0_goesOnNumber_41
      · have c_14 := mt (bI_eqN (by omega)).mpr c_14
        refine lv_iload_n hx hb dX0_goesOnNumber_18 rfl (lv_at hl 1 rfl) ?_
        refine lv_bipush (v := nI 69) hx hb dX0_goesOnNumber_19 (by decide) ?_
        refine lv_icmp_eq (tgt := 36) hx hb dX0_goesOnNumber_21 (by decide) (fun c_15 => ?_) (fun c_15 => ?_)
        · have c_15 := (bI_eqN (by omega)).mp c_15
          refine lv_iconst (v := nI 1) hx hb dX0_goesOnNumber_36 (by decide) ?_
          refine lv_goto (tgt := 41) hx hb dX0_goesOnNumber_37 (by decide) ?_
          exact W.zret (v := nI 1) hx hb hr rfl (fun t ht hW => ⟨_, rfl, (by rw [goN, if_pos (by omega)]; simp only [b2i]; rw [show (decide (y = 101) || decide (y = 69) || decide (y = 112) || decide (y = 80)) = true by simp; omega]; rfl), ht⟩) (fun q h => by cases h) dX0_goesOnNumber_41
        · have c_15 := mt (bI_eqN (by omega)).mpr c_15
          refine lv_iload_n hx hb dX0_goesOnNumber_24 rfl (lv_at hl 1 rfl) ?_
          refine lv_bipush (v := nI 112) hx hb dX0_goesOnNumber_25 (by decide) ?_
          refine lv_icmp_eq (tgt := 36) hx hb dX0_goesOnNumber_27 (by decide) (fun c_16 => ?_) (fun c_16 => ?_)
          · have c_16 := (bI_eqN (by omega)).mp c_16
            refine lv_iconst (v := nI 1) hx hb dX0_goesOnNumber_36 (by decide) ?_
            refine lv_goto (tgt := 41) hx hb dX0_goesOnNumber_37 (by decide) ?_
            exact W.zret (v := nI 1) hx hb hr rfl (fun t ht hW => ⟨_, rfl, (by rw [goN, if_pos (by omega)]; simp only [b2i]; rw [show (decide (y = 101) || decide (y = 69) || decide (y = 112) || decide (y = 80)) = true by simp; omega]; rfl), ht⟩) (fun q h => by cases h) dX0_goesOnNumber_41
          · have c_16 := mt (bI_eqN (by omega)).mpr c_16
            refine lv_iload_n hx hb dX0_goesOnNumber_30 rfl (lv_at hl 1 rfl) ?_
            refine lv_bipush (v := nI 80) hx hb dX0_goesOnNumber_31 (by decide) ?_
            refine lv_icmp_ne (tgt := 40) hx hb dX0_goesOnNumber_33 (by decide) (fun c_17 => ?_) (fun c_17 => ?_)
            · have c_17 := mt (bI_eqN (by omega)).mpr c_17
              refine lv_iconst (v := nI 0) hx hb dX0_goesOnNumber_40 (by decide) ?_
              exact W.zret (v := nI 0) hx hb hr rfl (fun t ht hW => ⟨_, rfl, (by rw [goN, if_pos (by omega)]; rw [show (decide (y = 101) || decide (y = 69) || decide (y = 112) || decide (y = 80)) = false by simp; omega]; rfl), ht⟩) (fun q h => by cases h) dX0_goesOnNumber_41
            · have c_17 := (bI_eqN (by omega)).mp c_17
              refine lv_iconst (v := nI 1) hx hb dX0_goesOnNumber_36 (by decide) ?_
              refine lv_goto (tgt := 41) hx hb dX0_goesOnNumber_37 (by decide) ?_
              exact W.zret (v := nI 1) hx hb hr rfl (fun t ht hW => ⟨_, rfl, (by rw [goN, if_pos (by omega)]; simp only [b2i]; rw [show (decide (y = 101) || decide (y = 69) || decide (y = 112) || decide (y = 80)) = true by simp; omega]; rfl), ht⟩) (fun q h => by cases h) dX0_goesOnNumber_41
