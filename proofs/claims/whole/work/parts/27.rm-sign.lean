/-- is x a char of the constant i -/
def io (i x : Nat) : Bool := ioG i x 65 0 false
/-- signSize -/
def sgN (a b c : Nat) : Nat := if (a = 46 ∧ b = 46 ∧ c = 46) ∨ ((a = 60 ∨ a = 62) ∧ b = a ∧ c = 61) then 3 else if (a = b ∧ io 4 a = true) ∨ (b = 61 ∧ io 5 a = true) ∨ (a = 45 ∧ b = 62) then 2 else 1
theorem sgN_n {a b c : Nat} (h : ¬ ((a = 46 ∧ b = 46 ∧ c = 46) ∨ ((a = 60 ∨ a = 62) ∧ b = a ∧ c = 61))) : sgN a b c = if (a = b ∧ io 4 a = true) ∨ (b = 61 ∧ io 5 a = true) ∨ (a = 45 ∧ b = 62) then 2 else 1 := by rw [sgN, if_neg h]
set_option maxHeartbeats 4000000 in
set_option maxRecDepth 100000 in
theorem t_signSize_83 {p : Program} {l : Launch} {e : Env} {s : State} {m : MethodId} {args : Array Value} {below : List Frame} {meth : Method} {c : Code} (hx : p.tables.exec = Jvm.exec) (hb : c.code = cX1_signSize) (hr : meth.sig.returnType = (some .int)) (hml : c.maxLocals = 8) (hown : s.vm.findClass RX1 = some m.cls) (hts : ∀ w ∈ bw, w.before args s = true) (hlocks : meth.locks = false) {dC : Nat → ClassId} {dI : Nat → Nat → Nat} {ct : Nat → ClassId} {ad : Nat → Nat} {Y x1 x2 x3 x4 x5 x6 x7 x8 x9 : Nat → Nat} (hK : va_K (dC, dI) vwCl (rmT ct) s) (hP : va_P (dC, dI) vwCl (rmW ct ad (Y, x1, x2, x3, x4, x5, x6, x7, x8, x9)) s.heap) {dK dV : Nat → Nat} {A0 : Nat → Prop} (hw : swd dK dV A0 s s.heap) (a b : Nat) (ha : a < 256) (P : Int32 → Prop) (hQ : P (nI (if (a = b ∧ io 4 a = true) ∨ (b = 61 ∧ io 5 a = true) ∨ (a = 45 ∧ b = 62) then 2 else 1))) (ls : Array Slot) (hl : lv_has ls 8 [(0, .ref (ad 0)), (3, .int (bI a)), (4, .int (bI b))]) : W p l e (headSpec wX1_signSize ({ frames := 5, cells := 0, slots := 0, locals := 108 })).room s m args below meth c s.heap [] 0 0 (MQ below (vp_Si P) args s 0 0 (fun _ => False)) (F0 m 83 ls []) := by
  refine lv_iload_n hx hb dX1_signSize_83 rfl (lv_at hl 1 rfl) ?_
  refine lv_iload hx hb dX1_signSize_84 (lv_at hl 2 rfl) ?_
  refine lv_icmp_ne (tgt := 102) hx hb dX1_signSize_86 (by decide) (fun c_1 => ?_) (fun c_1 => ?_)
  · have c_1 := mt (bI_eqB).mpr c_1
    refine lv_iconst (v := nI 0) hx hb dX1_signSize_102 (by decide) ?_
    refine lv_istore (lv' := [(6, .int (nI 0)), (0, .ref (ad 0)), (3, .int (bI a)), (4, .int (bI b))]) hx hb dX1_signSize_103 hl (by decide) rfl (fun ls hl => ?_)
    refine lv_iload hx hb dX1_signSize_105 (lv_at hl 3 rfl) ?_
    refine lv_bipush (v := nI 61) hx hb dX1_signSize_107 (by decide) ?_
    refine lv_icmp_ne (tgt := 125) hx hb dX1_signSize_109 (by decide) (fun c_2 => ?_) (fun c_2 => ?_)
    · have c_2 := mt (bI_eqN (k := 61) (by omega)).mpr c_2
      refine lv_iconst (v := nI 0) hx hb dX1_signSize_125 (by decide) ?_
      refine lv_istore (lv' := [(7, .int (nI 0)), (6, .int (nI 0)), (0, .ref (ad 0)), (3, .int (bI a)), (4, .int (bI b))]) hx hb dX1_signSize_126 hl (by decide) rfl (fun ls hl => ?_)
      refine lv_iload hx hb dX1_signSize_128 (lv_at hl 1 rfl) ?_
      refine lv_if_ne (tgt := 151) hx hb dX1_signSize_130 (by decide) (fun c_3 => ?_) (fun c_3 => ?_)
      · have c_3 := mt (nI_eq (a := 0) (b := 0) (by omega) (by omega)).mpr c_3
        omega
      · have c_3 := (nI_eq (a := 0) (b := 0) (by omega) (by omega)).mp c_3
        refine lv_iload hx hb dX1_signSize_133 (lv_at hl 0 rfl) ?_
        refine lv_if_ne (tgt := 151) hx hb dX1_signSize_135 (by decide) (fun c_4 => ?_) (fun c_4 => ?_)
        · have c_4 := mt (nI_eq (a := 0) (b := 0) (by omega) (by omega)).mpr c_4
          omega
        · have c_4 := (nI_eq (a := 0) (b := 0) (by omega) (by omega)).mp c_4
          refine lv_iload_n hx hb dX1_signSize_138 rfl (lv_at hl 3 rfl) ?_
          refine lv_bipush (v := nI 45) hx hb dX1_signSize_139 (by decide) ?_
          refine lv_icmp_ne (tgt := 155) hx hb dX1_signSize_141 (by decide) (fun c_5 => ?_) (fun c_5 => ?_)
          · have c_5 := mt (bI_eqN (k := 45) (by omega)).mpr c_5
            refine lv_iconst (v := nI 1) hx hb dX1_signSize_155 (by decide) ?_
            exact W.iret (v := nI 1) hx hb hr (fun t ht hW => ⟨_, rfl, (by rw [if_neg (fun z => by rcases z with z | z | z; (have := z.1; omega); (have := z.1; omega); omega)] at hQ; exact hQ), ht⟩) (fun q h => by cases h) dX1_signSize_156
          · have c_5 := (bI_eqN (k := 45) (by omega)).mp c_5
            refine lv_iload hx hb dX1_signSize_144 (lv_at hl 4 rfl) ?_
            refine lv_bipush (v := nI 62) hx hb dX1_signSize_146 (by decide) ?_
            refine lv_icmp_ne (tgt := 155) hx hb dX1_signSize_148 (by decide) (fun c_6 => ?_) (fun c_6 => ?_)
            · have c_6 := mt (bI_eqN (k := 62) (by omega)).mpr c_6
              refine lv_iconst (v := nI 1) hx hb dX1_signSize_155 (by decide) ?_
              exact W.iret (v := nI 1) hx hb hr (fun t ht hW => ⟨_, rfl, (by rw [if_neg (fun z => by rcases z with z | z | z; (have := z.1; omega); (have := z.1; omega); omega)] at hQ; exact hQ), ht⟩) (fun q h => by cases h) dX1_signSize_156
            · have c_6 := (bI_eqN (k := 62) (by omega)).mp c_6
              refine lv_iconst (v := nI 2) hx hb dX1_signSize_151 (by decide) ?_
              refine lv_goto (tgt := 156) hx hb dX1_signSize_152 (by decide) ?_
              exact W.iret (v := nI 2) hx hb hr (fun t ht hW => ⟨_, rfl, (by rw [if_pos (Or.inr (Or.inr (by omega)))] at hQ; exact hQ), ht⟩) (fun q h => by cases h) dX1_signSize_156
    · have c_2 := (bI_eqN (k := 61) (by omega)).mp c_2
      refine lv_iload_n hx hb dX1_signSize_112 rfl (lv_at hl 2 rfl) ?_
      refine va_ldcS hx hb hown hw.2.2.2.2.2.2.2.2.1 dX1_signSize_113 ?_
      refine vp_callSi (va_Run.run (va_runS (As := [.int (bI a), .ref (dK 5)]) (rest := []) ⟨hx, hb, hml, hown, hts⟩ (r_isOneOf l dK dV A0 a 5 (by decide)) (cwS 2 hts (gS (fun _ h => h) ml_X1_85 sm_X1_isOneOf ini_X1 co_X1_isOneOf) rfl rfl rfl pd_X1_isOneOf ⟨Nat.le_of_ble_eq_true rfl, Nat.le_of_ble_eq_true rfl⟩) (sw_preS hw) rfl rfl hl.1 rfl (lv_room (Nat.le_of_ble_eq_true rfl)) dX1_signSize_115 ⟨Nat.zero_le _, Nat.zero_le _⟩)) (fun r_7 (e_8 : r_7 = b2i (ioG 5 a 65 0 false)) => ?_)
      subst e_8
      refine lv_if_eq (tgt := 125) hx hb dX1_signSize_118 (by decide) (fun c_9 => ?_) (fun c_9 => ?_)
      · have c_9 := (b2i_z (ioG 5 a 65 0 false)).mp c_9
        refine lv_iconst (v := nI 0) hx hb dX1_signSize_125 (by decide) ?_
        refine lv_istore (lv' := [(7, .int (nI 0)), (6, .int (nI 0)), (0, .ref (ad 0)), (3, .int (bI a)), (4, .int (bI b))]) hx hb dX1_signSize_126 hl (by decide) rfl (fun ls hl => ?_)
        refine lv_iload hx hb dX1_signSize_128 (lv_at hl 1 rfl) ?_
        refine lv_if_ne (tgt := 151) hx hb dX1_signSize_130 (by decide) (fun c_10 => ?_) (fun c_10 => ?_)
        · have c_10 := mt (nI_eq (a := 0) (b := 0) (by omega) (by omega)).mpr c_10
          omega
        · have c_10 := (nI_eq (a := 0) (b := 0) (by omega) (by omega)).mp c_10
          refine lv_iload hx hb dX1_signSize_133 (lv_at hl 0 rfl) ?_
          refine lv_if_ne (tgt := 151) hx hb dX1_signSize_135 (by decide) (fun c_11 => ?_) (fun c_11 => ?_)
          · have c_11 := mt (nI_eq (a := 0) (b := 0) (by omega) (by omega)).mpr c_11
            omega
          · have c_11 := (nI_eq (a := 0) (b := 0) (by omega) (by omega)).mp c_11
            refine lv_iload_n hx hb dX1_signSize_138 rfl (lv_at hl 3 rfl) ?_
            refine lv_bipush (v := nI 45) hx hb dX1_signSize_139 (by decide) ?_
            refine lv_icmp_ne (tgt := 155) hx hb dX1_signSize_141 (by decide) (fun c_12 => ?_) (fun c_12 => ?_)
            · have c_12 := mt (bI_eqN (k := 45) (by omega)).mpr c_12
              refine lv_iconst (v := nI 1) hx hb dX1_signSize_155 (by decide) ?_
              exact W.iret (v := nI 1) hx hb hr (fun t ht hW => ⟨_, rfl, (by rw [if_neg (fun z => by rcases z with z | z | z; (have := z.1; omega); exact absurd z.2 (by unfold io; rw [c_9]; decide); omega)] at hQ; exact hQ), ht⟩) (fun q h => by cases h) dX1_signSize_156
            · have c_12 := (bI_eqN (k := 45) (by omega)).mp c_12
              refine lv_iload hx hb dX1_signSize_144 (lv_at hl 4 rfl) ?_
              refine lv_bipush (v := nI 62) hx hb dX1_signSize_146 (by decide) ?_
              refine lv_icmp_ne (tgt := 155) hx hb dX1_signSize_148 (by decide) (fun c_13 => ?_) (fun c_13 => ?_)
              · have c_13 := mt (bI_eqN (k := 62) (by omega)).mpr c_13
                refine lv_iconst (v := nI 1) hx hb dX1_signSize_155 (by decide) ?_
                exact W.iret (v := nI 1) hx hb hr (fun t ht hW => ⟨_, rfl, (by rw [if_neg (fun z => by rcases z with z | z | z; (have := z.1; omega); exact absurd z.2 (by unfold io; rw [c_9]; decide); omega)] at hQ; exact hQ), ht⟩) (fun q h => by cases h) dX1_signSize_156
              · have c_13 := (bI_eqN (k := 62) (by omega)).mp c_13
                refine lv_iconst (v := nI 2) hx hb dX1_signSize_151 (by decide) ?_
                refine lv_goto (tgt := 156) hx hb dX1_signSize_152 (by decide) ?_
                exact W.iret (v := nI 2) hx hb hr (fun t ht hW => ⟨_, rfl, (by rw [if_pos (Or.inr (Or.inr (by omega)))] at hQ; exact hQ), ht⟩) (fun q h => by cases h) dX1_signSize_156
      · have c_9 := mt (b2i_z (ioG 5 a 65 0 false)).mpr c_9
        refine lv_iconst (v := nI 1) hx hb dX1_signSize_121 (by decide) ?_
        refine lv_goto (tgt := 126) hx hb dX1_signSize_122 (by decide) ?_
        refine lv_istore (lv' := [(7, .int (nI 1)), (6, .int (nI 0)), (0, .ref (ad 0)), (3, .int (bI a)), (4, .int (bI b))]) hx hb dX1_signSize_126 hl (by decide) rfl (fun ls hl => ?_)
        refine lv_iload hx hb dX1_signSize_128 (lv_at hl 1 rfl) ?_
        refine lv_if_ne (tgt := 151) hx hb dX1_signSize_130 (by decide) (fun c_14 => ?_) (fun c_14 => ?_)
        · have c_14 := mt (nI_eq (a := 0) (b := 0) (by omega) (by omega)).mpr c_14
          omega
        · have c_14 := (nI_eq (a := 0) (b := 0) (by omega) (by omega)).mp c_14
          refine lv_iload hx hb dX1_signSize_133 (lv_at hl 0 rfl) ?_
          refine lv_if_ne (tgt := 151) hx hb dX1_signSize_135 (by decide) (fun c_15 => ?_) (fun c_15 => ?_)
          · have c_15 := mt (nI_eq (a := 1) (b := 0) (by omega) (by omega)).mpr c_15
            refine lv_iconst (v := nI 2) hx hb dX1_signSize_151 (by decide) ?_
            refine lv_goto (tgt := 156) hx hb dX1_signSize_152 (by decide) ?_
            exact W.iret (v := nI 2) hx hb hr (fun t ht hW => ⟨_, rfl, (by rw [if_pos (Or.inr (Or.inl ⟨by omega, by simpa [io] using c_9⟩))] at hQ; exact hQ), ht⟩) (fun q h => by cases h) dX1_signSize_156
          · have c_15 := (nI_eq (a := 1) (b := 0) (by omega) (by omega)).mp c_15
            omega
  · have c_1 := (bI_eqB).mp c_1
    refine lv_iload_n hx hb dX1_signSize_89 rfl (lv_at hl 1 rfl) ?_
    refine va_ldcS hx hb hown hw.2.2.2.2.2.2.2.1 dX1_signSize_90 ?_
    refine vp_callSi (va_Run.run (va_runS (As := [.int (bI a), .ref (dK 4)]) (rest := []) ⟨hx, hb, hml, hown, hts⟩ (r_isOneOf l dK dV A0 a 4 (by decide)) (cwS 2 hts (gS (fun _ h => h) ml_X1_85 sm_X1_isOneOf ini_X1 co_X1_isOneOf) rfl rfl rfl pd_X1_isOneOf ⟨Nat.le_of_ble_eq_true rfl, Nat.le_of_ble_eq_true rfl⟩) (sw_preS hw) rfl rfl hl.1 rfl (lv_room (Nat.le_of_ble_eq_true rfl)) dX1_signSize_92 ⟨Nat.zero_le _, Nat.zero_le _⟩)) (fun r_16 (e_17 : r_16 = b2i (ioG 4 a 65 0 false)) => ?_)
    subst e_17
    refine lv_if_eq (tgt := 102) hx hb dX1_signSize_95 (by decide) (fun c_18 => ?_) (fun c_18 => ?_)
    · have c_18 := (b2i_z (ioG 4 a 65 0 false)).mp c_18
      refine lv_iconst (v := nI 0) hx hb dX1_signSize_102 (by decide) ?_
      refine lv_istore (lv' := [(6, .int (nI 0)), (0, .ref (ad 0)), (3, .int (bI a)), (4, .int (bI b))]) hx hb dX1_signSize_103 hl (by decide) rfl (fun ls hl => ?_)
      refine lv_iload hx hb dX1_signSize_105 (lv_at hl 3 rfl) ?_
      refine lv_bipush (v := nI 61) hx hb dX1_signSize_107 (by decide) ?_
      refine lv_icmp_ne (tgt := 125) hx hb dX1_signSize_109 (by decide) (fun c_19 => ?_) (fun c_19 => ?_)
      · have c_19 := mt (bI_eqN (k := 61) (by omega)).mpr c_19
        refine lv_iconst (v := nI 0) hx hb dX1_signSize_125 (by decide) ?_
        refine lv_istore (lv' := [(7, .int (nI 0)), (6, .int (nI 0)), (0, .ref (ad 0)), (3, .int (bI a)), (4, .int (bI b))]) hx hb dX1_signSize_126 hl (by decide) rfl (fun ls hl => ?_)
        refine lv_iload hx hb dX1_signSize_128 (lv_at hl 1 rfl) ?_
        refine lv_if_ne (tgt := 151) hx hb dX1_signSize_130 (by decide) (fun c_20 => ?_) (fun c_20 => ?_)
        · have c_20 := mt (nI_eq (a := 0) (b := 0) (by omega) (by omega)).mpr c_20
          omega
        · have c_20 := (nI_eq (a := 0) (b := 0) (by omega) (by omega)).mp c_20
          refine lv_iload hx hb dX1_signSize_133 (lv_at hl 0 rfl) ?_
          refine lv_if_ne (tgt := 151) hx hb dX1_signSize_135 (by decide) (fun c_21 => ?_) (fun c_21 => ?_)
          · have c_21 := mt (nI_eq (a := 0) (b := 0) (by omega) (by omega)).mpr c_21
            omega
          · have c_21 := (nI_eq (a := 0) (b := 0) (by omega) (by omega)).mp c_21
            refine lv_iload_n hx hb dX1_signSize_138 rfl (lv_at hl 3 rfl) ?_
            refine lv_bipush (v := nI 45) hx hb dX1_signSize_139 (by decide) ?_
            refine lv_icmp_ne (tgt := 155) hx hb dX1_signSize_141 (by decide) (fun c_22 => ?_) (fun c_22 => ?_)
            · have c_22 := mt (bI_eqN (k := 45) (by omega)).mpr c_22
              refine lv_iconst (v := nI 1) hx hb dX1_signSize_155 (by decide) ?_
              exact W.iret (v := nI 1) hx hb hr (fun t ht hW => ⟨_, rfl, (by rw [if_neg (fun z => by rcases z with z | z | z; exact absurd z.2 (by unfold io; rw [c_18]; decide); (have := z.1; omega); omega)] at hQ; exact hQ), ht⟩) (fun q h => by cases h) dX1_signSize_156
            · have c_22 := (bI_eqN (k := 45) (by omega)).mp c_22
              refine lv_iload hx hb dX1_signSize_144 (lv_at hl 4 rfl) ?_
              refine lv_bipush (v := nI 62) hx hb dX1_signSize_146 (by decide) ?_
              refine lv_icmp_ne (tgt := 155) hx hb dX1_signSize_148 (by decide) (fun c_23 => ?_) (fun c_23 => ?_)
              · have c_23 := mt (bI_eqN (k := 62) (by omega)).mpr c_23
                refine lv_iconst (v := nI 1) hx hb dX1_signSize_155 (by decide) ?_
                exact W.iret (v := nI 1) hx hb hr (fun t ht hW => ⟨_, rfl, (by rw [if_neg (fun z => by rcases z with z | z | z; exact absurd z.2 (by unfold io; rw [c_18]; decide); (have := z.1; omega); omega)] at hQ; exact hQ), ht⟩) (fun q h => by cases h) dX1_signSize_156
              · have c_23 := (bI_eqN (k := 62) (by omega)).mp c_23
                refine lv_iconst (v := nI 2) hx hb dX1_signSize_151 (by decide) ?_
                refine lv_goto (tgt := 156) hx hb dX1_signSize_152 (by decide) ?_
                exact W.iret (v := nI 2) hx hb hr (fun t ht hW => ⟨_, rfl, (by rw [if_pos (Or.inr (Or.inr (by omega)))] at hQ; exact hQ), ht⟩) (fun q h => by cases h) dX1_signSize_156
      · have c_19 := (bI_eqN (k := 61) (by omega)).mp c_19
        refine lv_iload_n hx hb dX1_signSize_112 rfl (lv_at hl 2 rfl) ?_
        refine va_ldcS hx hb hown hw.2.2.2.2.2.2.2.2.1 dX1_signSize_113 ?_
        refine vp_callSi (va_Run.run (va_runS (As := [.int (bI a), .ref (dK 5)]) (rest := []) ⟨hx, hb, hml, hown, hts⟩ (r_isOneOf l dK dV A0 a 5 (by decide)) (cwS 2 hts (gS (fun _ h => h) ml_X1_85 sm_X1_isOneOf ini_X1 co_X1_isOneOf) rfl rfl rfl pd_X1_isOneOf ⟨Nat.le_of_ble_eq_true rfl, Nat.le_of_ble_eq_true rfl⟩) (sw_preS hw) rfl rfl hl.1 rfl (lv_room (Nat.le_of_ble_eq_true rfl)) dX1_signSize_115 ⟨Nat.zero_le _, Nat.zero_le _⟩)) (fun r_24 (e_25 : r_24 = b2i (ioG 5 a 65 0 false)) => ?_)
        subst e_25
        refine lv_if_eq (tgt := 125) hx hb dX1_signSize_118 (by decide) (fun c_26 => ?_) (fun c_26 => ?_)
        · have c_26 := (b2i_z (ioG 5 a 65 0 false)).mp c_26
          refine lv_iconst (v := nI 0) hx hb dX1_signSize_125 (by decide) ?_
          refine lv_istore (lv' := [(7, .int (nI 0)), (6, .int (nI 0)), (0, .ref (ad 0)), (3, .int (bI a)), (4, .int (bI b))]) hx hb dX1_signSize_126 hl (by decide) rfl (fun ls hl => ?_)
          refine lv_iload hx hb dX1_signSize_128 (lv_at hl 1 rfl) ?_
          refine lv_if_ne (tgt := 151) hx hb dX1_signSize_130 (by decide) (fun c_27 => ?_) (fun c_27 => ?_)
          · have c_27 := mt (nI_eq (a := 0) (b := 0) (by omega) (by omega)).mpr c_27
            omega
          · have c_27 := (nI_eq (a := 0) (b := 0) (by omega) (by omega)).mp c_27
            refine lv_iload hx hb dX1_signSize_133 (lv_at hl 0 rfl) ?_
            refine lv_if_ne (tgt := 151) hx hb dX1_signSize_135 (by decide) (fun c_28 => ?_) (fun c_28 => ?_)
            · have c_28 := mt (nI_eq (a := 0) (b := 0) (by omega) (by omega)).mpr c_28
              omega
            · have c_28 := (nI_eq (a := 0) (b := 0) (by omega) (by omega)).mp c_28
              refine lv_iload_n hx hb dX1_signSize_138 rfl (lv_at hl 3 rfl) ?_
              refine lv_bipush (v := nI 45) hx hb dX1_signSize_139 (by decide) ?_
              refine lv_icmp_ne (tgt := 155) hx hb dX1_signSize_141 (by decide) (fun c_29 => ?_) (fun c_29 => ?_)
              · have c_29 := mt (bI_eqN (k := 45) (by omega)).mpr c_29
                refine lv_iconst (v := nI 1) hx hb dX1_signSize_155 (by decide) ?_
                exact W.iret (v := nI 1) hx hb hr (fun t ht hW => ⟨_, rfl, (by rw [if_neg (fun z => by rcases z with z | z | z; exact absurd z.2 (by unfold io; rw [c_18]; decide); exact absurd z.2 (by unfold io; rw [c_26]; decide); omega)] at hQ; exact hQ), ht⟩) (fun q h => by cases h) dX1_signSize_156
              · have c_29 := (bI_eqN (k := 45) (by omega)).mp c_29
                refine lv_iload hx hb dX1_signSize_144 (lv_at hl 4 rfl) ?_
                refine lv_bipush (v := nI 62) hx hb dX1_signSize_146 (by decide) ?_
                refine lv_icmp_ne (tgt := 155) hx hb dX1_signSize_148 (by decide) (fun c_30 => ?_) (fun c_30 => ?_)
                · have c_30 := mt (bI_eqN (k := 62) (by omega)).mpr c_30
                  refine lv_iconst (v := nI 1) hx hb dX1_signSize_155 (by decide) ?_
                  exact W.iret (v := nI 1) hx hb hr (fun t ht hW => ⟨_, rfl, (by rw [if_neg (fun z => by rcases z with z | z | z; exact absurd z.2 (by unfold io; rw [c_18]; decide); exact absurd z.2 (by unfold io; rw [c_26]; decide); omega)] at hQ; exact hQ), ht⟩) (fun q h => by cases h) dX1_signSize_156
                · have c_30 := (bI_eqN (k := 62) (by omega)).mp c_30
                  refine lv_iconst (v := nI 2) hx hb dX1_signSize_151 (by decide) ?_
                  refine lv_goto (tgt := 156) hx hb dX1_signSize_152 (by decide) ?_
                  exact W.iret (v := nI 2) hx hb hr (fun t ht hW => ⟨_, rfl, (by rw [if_pos (Or.inr (Or.inr (by omega)))] at hQ; exact hQ), ht⟩) (fun q h => by cases h) dX1_signSize_156
        · have c_26 := mt (b2i_z (ioG 5 a 65 0 false)).mpr c_26
          refine lv_iconst (v := nI 1) hx hb dX1_signSize_121 (by decide) ?_
          refine lv_goto (tgt := 126) hx hb dX1_signSize_122 (by decide) ?_
          refine lv_istore (lv' := [(7, .int (nI 1)), (6, .int (nI 0)), (0, .ref (ad 0)), (3, .int (bI a)), (4, .int (bI b))]) hx hb dX1_signSize_126 hl (by decide) rfl (fun ls hl => ?_)
          refine lv_iload hx hb dX1_signSize_128 (lv_at hl 1 rfl) ?_
          refine lv_if_ne (tgt := 151) hx hb dX1_signSize_130 (by decide) (fun c_31 => ?_) (fun c_31 => ?_)
          · have c_31 := mt (nI_eq (a := 0) (b := 0) (by omega) (by omega)).mpr c_31
            omega
          · have c_31 := (nI_eq (a := 0) (b := 0) (by omega) (by omega)).mp c_31
            refine lv_iload hx hb dX1_signSize_133 (lv_at hl 0 rfl) ?_
            refine lv_if_ne (tgt := 151) hx hb dX1_signSize_135 (by decide) (fun c_32 => ?_) (fun c_32 => ?_)
            · have c_32 := mt (nI_eq (a := 1) (b := 0) (by omega) (by omega)).mpr c_32
              refine lv_iconst (v := nI 2) hx hb dX1_signSize_151 (by decide) ?_
              refine lv_goto (tgt := 156) hx hb dX1_signSize_152 (by decide) ?_
              exact W.iret (v := nI 2) hx hb hr (fun t ht hW => ⟨_, rfl, (by rw [if_pos (Or.inr (Or.inl ⟨by omega, by simpa [io] using c_26⟩))] at hQ; exact hQ), ht⟩) (fun q h => by cases h) dX1_signSize_156
            · have c_32 := (nI_eq (a := 1) (b := 0) (by omega) (by omega)).mp c_32
              omega
    · have c_18 := mt (b2i_z (ioG 4 a 65 0 false)).mpr c_18
      refine lv_iconst (v := nI 1) hx hb dX1_signSize_98 (by decide) ?_
      refine lv_goto (tgt := 103) hx hb dX1_signSize_99 (by decide) ?_
      refine lv_istore (lv' := [(6, .int (nI 1)), (0, .ref (ad 0)), (3, .int (bI a)), (4, .int (bI b))]) hx hb dX1_signSize_103 hl (by decide) rfl (fun ls hl => ?_)
      refine lv_iload hx hb dX1_signSize_105 (lv_at hl 3 rfl) ?_
      refine lv_bipush (v := nI 61) hx hb dX1_signSize_107 (by decide) ?_
      refine lv_icmp_ne (tgt := 125) hx hb dX1_signSize_109 (by decide) (fun c_33 => ?_) (fun c_33 => ?_)
      · have c_33 := mt (bI_eqN (k := 61) (by omega)).mpr c_33
        refine lv_iconst (v := nI 0) hx hb dX1_signSize_125 (by decide) ?_
        refine lv_istore (lv' := [(7, .int (nI 0)), (6, .int (nI 1)), (0, .ref (ad 0)), (3, .int (bI a)), (4, .int (bI b))]) hx hb dX1_signSize_126 hl (by decide) rfl (fun ls hl => ?_)
        refine lv_iload hx hb dX1_signSize_128 (lv_at hl 1 rfl) ?_
        refine lv_if_ne (tgt := 151) hx hb dX1_signSize_130 (by decide) (fun c_34 => ?_) (fun c_34 => ?_)
        · have c_34 := mt (nI_eq (a := 1) (b := 0) (by omega) (by omega)).mpr c_34
          refine lv_iconst (v := nI 2) hx hb dX1_signSize_151 (by decide) ?_
          refine lv_goto (tgt := 156) hx hb dX1_signSize_152 (by decide) ?_
          exact W.iret (v := nI 2) hx hb hr (fun t ht hW => ⟨_, rfl, (by rw [if_pos (Or.inl ⟨by omega, by simpa [io] using c_18⟩)] at hQ; exact hQ), ht⟩) (fun q h => by cases h) dX1_signSize_156
        · have c_34 := (nI_eq (a := 1) (b := 0) (by omega) (by omega)).mp c_34
          omega
      · have c_33 := (bI_eqN (k := 61) (by omega)).mp c_33
        refine lv_iload_n hx hb dX1_signSize_112 rfl (lv_at hl 2 rfl) ?_
        refine va_ldcS hx hb hown hw.2.2.2.2.2.2.2.2.1 dX1_signSize_113 ?_
        refine vp_callSi (va_Run.run (va_runS (As := [.int (bI a), .ref (dK 5)]) (rest := []) ⟨hx, hb, hml, hown, hts⟩ (r_isOneOf l dK dV A0 a 5 (by decide)) (cwS 2 hts (gS (fun _ h => h) ml_X1_85 sm_X1_isOneOf ini_X1 co_X1_isOneOf) rfl rfl rfl pd_X1_isOneOf ⟨Nat.le_of_ble_eq_true rfl, Nat.le_of_ble_eq_true rfl⟩) (sw_preS hw) rfl rfl hl.1 rfl (lv_room (Nat.le_of_ble_eq_true rfl)) dX1_signSize_115 ⟨Nat.zero_le _, Nat.zero_le _⟩)) (fun r_35 (e_36 : r_35 = b2i (ioG 5 a 65 0 false)) => ?_)
        subst e_36
        refine lv_if_eq (tgt := 125) hx hb dX1_signSize_118 (by decide) (fun c_37 => ?_) (fun c_37 => ?_)
        · have c_37 := (b2i_z (ioG 5 a 65 0 false)).mp c_37
          refine lv_iconst (v := nI 0) hx hb dX1_signSize_125 (by decide) ?_
          refine lv_istore (lv' := [(7, .int (nI 0)), (6, .int (nI 1)), (0, .ref (ad 0)), (3, .int (bI a)), (4, .int (bI b))]) hx hb dX1_signSize_126 hl (by decide) rfl (fun ls hl => ?_)
          refine lv_iload hx hb dX1_signSize_128 (lv_at hl 1 rfl) ?_
          refine lv_if_ne (tgt := 151) hx hb dX1_signSize_130 (by decide) (fun c_38 => ?_) (fun c_38 => ?_)
          · have c_38 := mt (nI_eq (a := 1) (b := 0) (by omega) (by omega)).mpr c_38
            refine lv_iconst (v := nI 2) hx hb dX1_signSize_151 (by decide) ?_
            refine lv_goto (tgt := 156) hx hb dX1_signSize_152 (by decide) ?_
            exact W.iret (v := nI 2) hx hb hr (fun t ht hW => ⟨_, rfl, (by rw [if_pos (Or.inl ⟨by omega, by simpa [io] using c_18⟩)] at hQ; exact hQ), ht⟩) (fun q h => by cases h) dX1_signSize_156
          · have c_38 := (nI_eq (a := 1) (b := 0) (by omega) (by omega)).mp c_38
            omega
        · have c_37 := mt (b2i_z (ioG 5 a 65 0 false)).mpr c_37
          refine lv_iconst (v := nI 1) hx hb dX1_signSize_121 (by decide) ?_
          refine lv_goto (tgt := 126) hx hb dX1_signSize_122 (by decide) ?_
          refine lv_istore (lv' := [(7, .int (nI 1)), (6, .int (nI 1)), (0, .ref (ad 0)), (3, .int (bI a)), (4, .int (bI b))]) hx hb dX1_signSize_126 hl (by decide) rfl (fun ls hl => ?_)
          refine lv_iload hx hb dX1_signSize_128 (lv_at hl 1 rfl) ?_
          refine lv_if_ne (tgt := 151) hx hb dX1_signSize_130 (by decide) (fun c_39 => ?_) (fun c_39 => ?_)
          · have c_39 := mt (nI_eq (a := 1) (b := 0) (by omega) (by omega)).mpr c_39
            refine lv_iconst (v := nI 2) hx hb dX1_signSize_151 (by decide) ?_
            refine lv_goto (tgt := 156) hx hb dX1_signSize_152 (by decide) ?_
            exact W.iret (v := nI 2) hx hb hr (fun t ht hW => ⟨_, rfl, (by rw [if_pos (Or.inl ⟨by omega, by simpa [io] using c_18⟩)] at hQ; exact hQ), ht⟩) (fun q h => by cases h) dX1_signSize_156
          · have c_39 := (nI_eq (a := 1) (b := 0) (by omega) (by omega)).mp c_39
            omega
set_option maxHeartbeats 4000000 in
set_option maxRecDepth 100000 in
theorem r_signSize (l : Launch) (dC : Nat → ClassId) (dI : Nat → Nat → Nat) (ct : Nat → ClassId) (ad : Nat → Nat) (dK dV : Nat → Nat) (A0 : Nat → Prop) (Y x1 x2 x3 x4 x5 x6 x7 x8 x9 : Nat → Nat) (g : Nat) (lim : Nat) (hg : g < lim) (hlim : lim ≤ 32768) (h2 : ∀ j, x2 j < 256) : Met l yX1_signSize wX1_signSize ({ frames := 5, cells := 0, slots := 0, locals := 108 }) (va_Pc [.ref (ad 0), .int (nI g), .int (nI lim)] (fun U => rmR dC dI ct ad (Y, x1, x2, x3, x4, x5, x6, x7, x8, x9) U ∧ swd dK dV A0 U U.heap)) (vp_Si (fun r => r = nI (sgN (rb x2 lim g) (rb x2 lim (g + 1)) (rb x2 lim (g + 2))))) 0 0 (fun _ => False) := by
  refine Met.ofW (cc := cX1_signSize) (maxL := 8) (ret := (some .int)) (by decide) rfl ?_
  intro p e s m args below meth c s₁ B hml hv
  obtain ⟨rfl, ⟨hP, hK⟩, hw⟩ := hv
  have hx := B.exec
  have hb := B.bytes
  have hr := B.returns
  have hts : ∀ w ∈ bw, w.before _ s = true := fun w h => atoms_spec (ws := wX1_signSize) B.pre w (bc w h)
  have hown : s.vm.findClass RX1 = some m.cls := findClass_of_methodNamed B.named
  have hlocks := B.notSynchronized
  have hl := lv_entry ([.ref (ad 0), .int (nI g), .int (nI lim)]) (n := 8) (Nat.le_of_ble_eq_true rfl)
  rw [lg_entry_eq]
  generalize (lg_sl ([.ref (ad 0), .int (nI g), .int (nI lim)]) ++ List.replicate (8 - (lg_sl ([.ref (ad 0), .int (nI g), .int (nI lim)])).length) Slot.unset).toArray = ls at hl ⊢
  have hl : lv_has ls 8 [(0, .ref (ad 0)), (1, .int (nI g)), (2, .int (nI lim))] := hl
  refine lv_aload_n hx hb dX1_signSize_0 rfl (lv_at hl 0 rfl) ?_
  refine va_get (D := (dC, dI)) (ci := 1) (v := .ref (ad 2)) (C := RX1) (T := TX1) (N := 20) hx hb hts inX1 hown hK hP 0 rfl rfl 9 (by decide) (hts _ fl_X1_14) (fun _ h9 => h9) rfl dX1_signSize_1 ?_
  refine lv_iload_n hx hb dX1_signSize_4 rfl (lv_at hl 1 rfl) ?_
  refine lv_iload_n hx hb dX1_signSize_5 rfl (lv_at hl 2 rfl) ?_
  refine vp_callSi (va_Run.run (va_runS (As := [.ref (ad 2), .int (nI g), .int (nI lim)]) (rest := []) ⟨hx, hb, hml, hown, hts⟩ (r_byteAt l dC dI ct ad Y x1 x2 x3 x4 x5 x6 x7 x8 x9 g lim (show g < 2 ^ 31 by omega) (show lim ≤ 32768 by omega) h2) (cwS 3 hts (gS (fun _ h => h) ml_X1_79 sm_X1_byteAt ini_X1 co_X1_byteAt) rfl rfl rfl pd_X1_byteAt ⟨Nat.le_of_ble_eq_true rfl, Nat.le_of_ble_eq_true rfl⟩) (rm_preRS hK hP) rfl rfl hl.1 rfl (lv_room (Nat.le_of_ble_eq_true rfl)) dX1_signSize_6 ⟨Nat.zero_le _, Nat.zero_le _⟩)) (fun r_1 (e_2 : r_1 = bI (rb x2 lim g)) => ?_)
  subst e_2
  have := rb_in h2 lim g
  refine lv_istore_n (lv' := [(3, .int (bI (rb x2 lim g))), (0, .ref (ad 0)), (1, .int (nI g)), (2, .int (nI lim))]) hx hb dX1_signSize_9 rfl hl (by decide) rfl (fun ls hl => ?_)
  refine lv_aload_n hx hb dX1_signSize_10 rfl (lv_at hl 1 rfl) ?_
  refine va_get (D := (dC, dI)) (ci := 1) (v := .ref (ad 2)) (C := RX1) (T := TX1) (N := 20) hx hb hts inX1 hown hK hP 0 rfl rfl 9 (by decide) (hts _ fl_X1_14) (fun _ h9 => h9) rfl dX1_signSize_11 ?_
  refine lv_iload_n hx hb dX1_signSize_14 rfl (lv_at hl 2 rfl) ?_
  refine lv_iconst (v := nI 1) hx hb dX1_signSize_15 (by decide) ?_
  refine lv_iadd hx hb dX1_signSize_16 ?_
  refine lv_topi (fun x_3 e_4 => ?_)
  obtain rfl : x_3 = nI (g + 1) := e_4.trans (nI_add g 1)
  refine lv_iload_n hx hb dX1_signSize_17 rfl (lv_at hl 3 rfl) ?_
  refine vp_callSi (va_Run.run (va_runS (As := [.ref (ad 2), .int (nI (g + 1)), .int (nI lim)]) (rest := []) ⟨hx, hb, hml, hown, hts⟩ (r_byteAt l dC dI ct ad Y x1 x2 x3 x4 x5 x6 x7 x8 x9 (g + 1) lim (show g + 1 < 2 ^ 31 by omega) (show lim ≤ 32768 by omega) h2) (cwS 3 hts (gS (fun _ h => h) ml_X1_79 sm_X1_byteAt ini_X1 co_X1_byteAt) rfl rfl rfl pd_X1_byteAt ⟨Nat.le_of_ble_eq_true rfl, Nat.le_of_ble_eq_true rfl⟩) (rm_preRS hK hP) rfl rfl hl.1 rfl (lv_room (Nat.le_of_ble_eq_true rfl)) dX1_signSize_18 ⟨Nat.zero_le _, Nat.zero_le _⟩)) (fun r_5 (e_6 : r_5 = bI (rb x2 lim (g + 1))) => ?_)
  subst e_6
  have := rb_in h2 lim (g + 1)
  refine lv_istore (lv' := [(4, .int (bI (rb x2 lim (g + 1)))), (3, .int (bI (rb x2 lim g))), (0, .ref (ad 0)), (1, .int (nI g)), (2, .int (nI lim))]) hx hb dX1_signSize_21 hl (by decide) rfl (fun ls hl => ?_)
  refine lv_aload_n hx hb dX1_signSize_23 rfl (lv_at hl 2 rfl) ?_
  refine va_get (D := (dC, dI)) (ci := 1) (v := .ref (ad 2)) (C := RX1) (T := TX1) (N := 20) hx hb hts inX1 hown hK hP 0 rfl rfl 9 (by decide) (hts _ fl_X1_14) (fun _ h9 => h9) rfl dX1_signSize_24 ?_
  refine lv_iload_n hx hb dX1_signSize_27 rfl (lv_at hl 3 rfl) ?_
  refine lv_iconst (v := nI 2) hx hb dX1_signSize_28 (by decide) ?_
  refine lv_iadd hx hb dX1_signSize_29 ?_
  refine lv_topi (fun x_7 e_8 => ?_)
  obtain rfl : x_7 = nI (g + 2) := e_8.trans (nI_add g 2)
  refine lv_iload_n hx hb dX1_signSize_30 rfl (lv_at hl 4 rfl) ?_
  refine vp_callSi (va_Run.run (va_runS (As := [.ref (ad 2), .int (nI (g + 2)), .int (nI lim)]) (rest := []) ⟨hx, hb, hml, hown, hts⟩ (r_byteAt l dC dI ct ad Y x1 x2 x3 x4 x5 x6 x7 x8 x9 (g + 2) lim (show g + 2 < 2 ^ 31 by omega) (show lim ≤ 32768 by omega) h2) (cwS 3 hts (gS (fun _ h => h) ml_X1_79 sm_X1_byteAt ini_X1 co_X1_byteAt) rfl rfl rfl pd_X1_byteAt ⟨Nat.le_of_ble_eq_true rfl, Nat.le_of_ble_eq_true rfl⟩) (rm_preRS hK hP) rfl rfl hl.1 rfl (lv_room (Nat.le_of_ble_eq_true rfl)) dX1_signSize_31 ⟨Nat.zero_le _, Nat.zero_le _⟩)) (fun r_9 (e_10 : r_9 = bI (rb x2 lim (g + 2))) => ?_)
  subst e_10
  have := rb_in h2 lim (g + 2)
  refine lv_istore (lv' := [(5, .int (bI (rb x2 lim (g + 2)))), (4, .int (bI (rb x2 lim (g + 1)))), (3, .int (bI (rb x2 lim g))), (0, .ref (ad 0)), (1, .int (nI g)), (2, .int (nI lim))]) hx hb dX1_signSize_34 hl (by decide) rfl (fun ls hl => ?_)
  refine lv_iload_n hx hb dX1_signSize_36 rfl (lv_at hl 2 rfl) ?_
  refine lv_bipush (v := nI 46) hx hb dX1_signSize_37 (by decide) ?_
  refine lv_icmp_ne (tgt := 56) hx hb dX1_signSize_39 (by decide) (fun c_11 => ?_) (fun c_11 => ?_)
  · have c_11 := mt (bI_eqN (k := 46) (by omega)).mpr c_11
    refine lv_iload_n hx hb dX1_signSize_56 rfl (lv_at hl 2 rfl) ?_
    refine lv_bipush (v := nI 60) hx hb dX1_signSize_57 (by decide) ?_
    refine lv_icmp_eq (tgt := 68) hx hb dX1_signSize_59 (by decide) (fun c_12 => ?_) (fun c_12 => ?_)
    · have c_12 := (bI_eqN (k := 60) (by omega)).mp c_12
      refine lv_iload hx hb dX1_signSize_68 (lv_at hl 1 rfl) ?_
      refine lv_iload_n hx hb dX1_signSize_70 rfl (lv_at hl 2 rfl) ?_
      refine lv_icmp_ne (tgt := 83) hx hb dX1_signSize_71 (by decide) (fun c_13 => ?_) (fun c_13 => ?_)
      · have c_13 := mt (bI_eqB).mpr c_13
        exact t_signSize_83 hx hb hr hml hown hts hlocks hK hP hw _ _ (by omega) (fun r => r = nI (sgN (rb x2 lim g) (rb x2 lim (g + 1)) (rb x2 lim (g + 2)))) (by rw [sgN_n (by omega)]) _ (lv_sub hl [3, 2, 1] rfl)
      · have c_13 := (bI_eqB).mp c_13
        refine lv_iload hx hb dX1_signSize_74 (lv_at hl 0 rfl) ?_
        refine lv_bipush (v := nI 61) hx hb dX1_signSize_76 (by decide) ?_
        refine lv_icmp_ne (tgt := 83) hx hb dX1_signSize_78 (by decide) (fun c_14 => ?_) (fun c_14 => ?_)
        · have c_14 := mt (bI_eqN (k := 61) (by omega)).mpr c_14
          exact t_signSize_83 hx hb hr hml hown hts hlocks hK hP hw _ _ (by omega) (fun r => r = nI (sgN (rb x2 lim g) (rb x2 lim (g + 1)) (rb x2 lim (g + 2)))) (by rw [sgN_n (by omega)]) _ (lv_sub hl [3, 2, 1] rfl)
        · have c_14 := (bI_eqN (k := 61) (by omega)).mp c_14
          refine lv_iconst (v := nI 3) hx hb dX1_signSize_81 (by decide) ?_
          exact W.iret (v := nI 3) hx hb hr (fun t ht hW => ⟨_, rfl, (by rw [sgN, if_pos (by omega)]), ht⟩) (fun q h => by cases h) dX1_signSize_82
    · have c_12 := mt (bI_eqN (k := 60) (by omega)).mpr c_12
      refine lv_iload_n hx hb dX1_signSize_62 rfl (lv_at hl 2 rfl) ?_
      refine lv_bipush (v := nI 62) hx hb dX1_signSize_63 (by decide) ?_
      refine lv_icmp_ne (tgt := 83) hx hb dX1_signSize_65 (by decide) (fun c_15 => ?_) (fun c_15 => ?_)
      · have c_15 := mt (bI_eqN (k := 62) (by omega)).mpr c_15
        exact t_signSize_83 hx hb hr hml hown hts hlocks hK hP hw _ _ (by omega) (fun r => r = nI (sgN (rb x2 lim g) (rb x2 lim (g + 1)) (rb x2 lim (g + 2)))) (by rw [sgN_n (by omega)]) _ (lv_sub hl [3, 2, 1] rfl)
      · have c_15 := (bI_eqN (k := 62) (by omega)).mp c_15
        refine lv_iload hx hb dX1_signSize_68 (lv_at hl 1 rfl) ?_
        refine lv_iload_n hx hb dX1_signSize_70 rfl (lv_at hl 2 rfl) ?_
        refine lv_icmp_ne (tgt := 83) hx hb dX1_signSize_71 (by decide) (fun c_16 => ?_) (fun c_16 => ?_)
        · have c_16 := mt (bI_eqB).mpr c_16
          exact t_signSize_83 hx hb hr hml hown hts hlocks hK hP hw _ _ (by omega) (fun r => r = nI (sgN (rb x2 lim g) (rb x2 lim (g + 1)) (rb x2 lim (g + 2)))) (by rw [sgN_n (by omega)]) _ (lv_sub hl [3, 2, 1] rfl)
        · have c_16 := (bI_eqB).mp c_16
          refine lv_iload hx hb dX1_signSize_74 (lv_at hl 0 rfl) ?_
          refine lv_bipush (v := nI 61) hx hb dX1_signSize_76 (by decide) ?_
          refine lv_icmp_ne (tgt := 83) hx hb dX1_signSize_78 (by decide) (fun c_17 => ?_) (fun c_17 => ?_)
          · have c_17 := mt (bI_eqN (k := 61) (by omega)).mpr c_17
            exact t_signSize_83 hx hb hr hml hown hts hlocks hK hP hw _ _ (by omega) (fun r => r = nI (sgN (rb x2 lim g) (rb x2 lim (g + 1)) (rb x2 lim (g + 2)))) (by rw [sgN_n (by omega)]) _ (lv_sub hl [3, 2, 1] rfl)
          · have c_17 := (bI_eqN (k := 61) (by omega)).mp c_17
            refine lv_iconst (v := nI 3) hx hb dX1_signSize_81 (by decide) ?_
            exact W.iret (v := nI 3) hx hb hr (fun t ht hW => ⟨_, rfl, (by rw [sgN, if_pos (by omega)]), ht⟩) (fun q h => by cases h) dX1_signSize_82
  · have c_11 := (bI_eqN (k := 46) (by omega)).mp c_11
    refine lv_iload hx hb dX1_signSize_42 (lv_at hl 1 rfl) ?_
    refine lv_bipush (v := nI 46) hx hb dX1_signSize_44 (by decide) ?_
    refine lv_icmp_ne (tgt := 56) hx hb dX1_signSize_46 (by decide) (fun c_18 => ?_) (fun c_18 => ?_)
    · have c_18 := mt (bI_eqN (k := 46) (by omega)).mpr c_18
      refine lv_iload_n hx hb dX1_signSize_56 rfl (lv_at hl 2 rfl) ?_
      refine lv_bipush (v := nI 60) hx hb dX1_signSize_57 (by decide) ?_
      refine lv_icmp_eq (tgt := 68) hx hb dX1_signSize_59 (by decide) (fun c_19 => ?_) (fun c_19 => ?_)
      · have c_19 := (bI_eqN (k := 60) (by omega)).mp c_19
        refine lv_iload hx hb dX1_signSize_68 (lv_at hl 1 rfl) ?_
        refine lv_iload_n hx hb dX1_signSize_70 rfl (lv_at hl 2 rfl) ?_
        refine lv_icmp_ne (tgt := 83) hx hb dX1_signSize_71 (by decide) (fun c_20 => ?_) (fun c_20 => ?_)
        · have c_20 := mt (bI_eqB).mpr c_20
          exact t_signSize_83 hx hb hr hml hown hts hlocks hK hP hw _ _ (by omega) (fun r => r = nI (sgN (rb x2 lim g) (rb x2 lim (g + 1)) (rb x2 lim (g + 2)))) (by rw [sgN_n (by omega)]) _ (lv_sub hl [3, 2, 1] rfl)
        · have c_20 := (bI_eqB).mp c_20
          refine lv_iload hx hb dX1_signSize_74 (lv_at hl 0 rfl) ?_
          refine lv_bipush (v := nI 61) hx hb dX1_signSize_76 (by decide) ?_
          refine lv_icmp_ne (tgt := 83) hx hb dX1_signSize_78 (by decide) (fun c_21 => ?_) (fun c_21 => ?_)
          · have c_21 := mt (bI_eqN (k := 61) (by omega)).mpr c_21
            exact t_signSize_83 hx hb hr hml hown hts hlocks hK hP hw _ _ (by omega) (fun r => r = nI (sgN (rb x2 lim g) (rb x2 lim (g + 1)) (rb x2 lim (g + 2)))) (by rw [sgN_n (by omega)]) _ (lv_sub hl [3, 2, 1] rfl)
          · have c_21 := (bI_eqN (k := 61) (by omega)).mp c_21
            refine lv_iconst (v := nI 3) hx hb dX1_signSize_81 (by decide) ?_
            exact W.iret (v := nI 3) hx hb hr (fun t ht hW => ⟨_, rfl, (by rw [sgN, if_pos (by omega)]), ht⟩) (fun q h => by cases h) dX1_signSize_82
      · have c_19 := mt (bI_eqN (k := 60) (by omega)).mpr c_19
        refine lv_iload_n hx hb dX1_signSize_62 rfl (lv_at hl 2 rfl) ?_
        refine lv_bipush (v := nI 62) hx hb dX1_signSize_63 (by decide) ?_
        refine lv_icmp_ne (tgt := 83) hx hb dX1_signSize_65 (by decide) (fun c_22 => ?_) (fun c_22 => ?_)
        · have c_22 := mt (bI_eqN (k := 62) (by omega)).mpr c_22
          exact t_signSize_83 hx hb hr hml hown hts hlocks hK hP hw _ _ (by omega) (fun r => r = nI (sgN (rb x2 lim g) (rb x2 lim (g + 1)) (rb x2 lim (g + 2)))) (by rw [sgN_n (by omega)]) _ (lv_sub hl [3, 2, 1] rfl)
        · have c_22 := (bI_eqN (k := 62) (by omega)).mp c_22
          refine lv_iload hx hb dX1_signSize_68 (lv_at hl 1 rfl) ?_
          refine lv_iload_n hx hb dX1_signSize_70 rfl (lv_at hl 2 rfl) ?_
          refine lv_icmp_ne (tgt := 83) hx hb dX1_signSize_71 (by decide) (fun c_23 => ?_) (fun c_23 => ?_)
          · have c_23 := mt (bI_eqB).mpr c_23
            exact t_signSize_83 hx hb hr hml hown hts hlocks hK hP hw _ _ (by omega) (fun r => r = nI (sgN (rb x2 lim g) (rb x2 lim (g + 1)) (rb x2 lim (g + 2)))) (by rw [sgN_n (by omega)]) _ (lv_sub hl [3, 2, 1] rfl)
          · have c_23 := (bI_eqB).mp c_23
            refine lv_iload hx hb dX1_signSize_74 (lv_at hl 0 rfl) ?_
            refine lv_bipush (v := nI 61) hx hb dX1_signSize_76 (by decide) ?_
            refine lv_icmp_ne (tgt := 83) hx hb dX1_signSize_78 (by decide) (fun c_24 => ?_) (fun c_24 => ?_)
            · have c_24 := mt (bI_eqN (k := 61) (by omega)).mpr c_24
              exact t_signSize_83 hx hb hr hml hown hts hlocks hK hP hw _ _ (by omega) (fun r => r = nI (sgN (rb x2 lim g) (rb x2 lim (g + 1)) (rb x2 lim (g + 2)))) (by rw [sgN_n (by omega)]) _ (lv_sub hl [3, 2, 1] rfl)
            · have c_24 := (bI_eqN (k := 61) (by omega)).mp c_24
              refine lv_iconst (v := nI 3) hx hb dX1_signSize_81 (by decide) ?_
              exact W.iret (v := nI 3) hx hb hr (fun t ht hW => ⟨_, rfl, (by rw [sgN, if_pos (by omega)]), ht⟩) (fun q h => by cases h) dX1_signSize_82
    · have c_18 := (bI_eqN (k := 46) (by omega)).mp c_18
      refine lv_iload hx hb dX1_signSize_49 (lv_at hl 0 rfl) ?_
      refine lv_bipush (v := nI 46) hx hb dX1_signSize_51 (by decide) ?_
      refine lv_icmp_eq (tgt := 81) hx hb dX1_signSize_53 (by decide) (fun c_25 => ?_) (fun c_25 => ?_)
      · have c_25 := (bI_eqN (k := 46) (by omega)).mp c_25
        refine lv_iconst (v := nI 3) hx hb dX1_signSize_81 (by decide) ?_
        exact W.iret (v := nI 3) hx hb hr (fun t ht hW => ⟨_, rfl, (by rw [sgN, if_pos (by omega)]), ht⟩) (fun q h => by cases h) dX1_signSize_82
      · have c_25 := mt (bI_eqN (k := 46) (by omega)).mpr c_25
        refine lv_iload_n hx hb dX1_signSize_56 rfl (lv_at hl 2 rfl) ?_
        refine lv_bipush (v := nI 60) hx hb dX1_signSize_57 (by decide) ?_
        refine lv_icmp_eq (tgt := 68) hx hb dX1_signSize_59 (by decide) (fun c_26 => ?_) (fun c_26 => ?_)
        · have c_26 := (bI_eqN (k := 60) (by omega)).mp c_26
          refine lv_iload hx hb dX1_signSize_68 (lv_at hl 1 rfl) ?_
          refine lv_iload_n hx hb dX1_signSize_70 rfl (lv_at hl 2 rfl) ?_
          refine lv_icmp_ne (tgt := 83) hx hb dX1_signSize_71 (by decide) (fun c_27 => ?_) (fun c_27 => ?_)
          · have c_27 := mt (bI_eqB).mpr c_27
            exact t_signSize_83 hx hb hr hml hown hts hlocks hK hP hw _ _ (by omega) (fun r => r = nI (sgN (rb x2 lim g) (rb x2 lim (g + 1)) (rb x2 lim (g + 2)))) (by rw [sgN_n (by omega)]) _ (lv_sub hl [3, 2, 1] rfl)
          · have c_27 := (bI_eqB).mp c_27
            refine lv_iload hx hb dX1_signSize_74 (lv_at hl 0 rfl) ?_
            refine lv_bipush (v := nI 61) hx hb dX1_signSize_76 (by decide) ?_
            refine lv_icmp_ne (tgt := 83) hx hb dX1_signSize_78 (by decide) (fun c_28 => ?_) (fun c_28 => ?_)
            · have c_28 := mt (bI_eqN (k := 61) (by omega)).mpr c_28
              exact t_signSize_83 hx hb hr hml hown hts hlocks hK hP hw _ _ (by omega) (fun r => r = nI (sgN (rb x2 lim g) (rb x2 lim (g + 1)) (rb x2 lim (g + 2)))) (by rw [sgN_n (by omega)]) _ (lv_sub hl [3, 2, 1] rfl)
            · have c_28 := (bI_eqN (k := 61) (by omega)).mp c_28
              refine lv_iconst (v := nI 3) hx hb dX1_signSize_81 (by decide) ?_
              exact W.iret (v := nI 3) hx hb hr (fun t ht hW => ⟨_, rfl, (by rw [sgN, if_pos (by omega)]), ht⟩) (fun q h => by cases h) dX1_signSize_82
        · have c_26 := mt (bI_eqN (k := 60) (by omega)).mpr c_26
          refine lv_iload_n hx hb dX1_signSize_62 rfl (lv_at hl 2 rfl) ?_
          refine lv_bipush (v := nI 62) hx hb dX1_signSize_63 (by decide) ?_
          refine lv_icmp_ne (tgt := 83) hx hb dX1_signSize_65 (by decide) (fun c_29 => ?_) (fun c_29 => ?_)
          · have c_29 := mt (bI_eqN (k := 62) (by omega)).mpr c_29
            exact t_signSize_83 hx hb hr hml hown hts hlocks hK hP hw _ _ (by omega) (fun r => r = nI (sgN (rb x2 lim g) (rb x2 lim (g + 1)) (rb x2 lim (g + 2)))) (by rw [sgN_n (by omega)]) _ (lv_sub hl [3, 2, 1] rfl)
          · have c_29 := (bI_eqN (k := 62) (by omega)).mp c_29
            refine lv_iload hx hb dX1_signSize_68 (lv_at hl 1 rfl) ?_
            refine lv_iload_n hx hb dX1_signSize_70 rfl (lv_at hl 2 rfl) ?_
            refine lv_icmp_ne (tgt := 83) hx hb dX1_signSize_71 (by decide) (fun c_30 => ?_) (fun c_30 => ?_)
            · have c_30 := mt (bI_eqB).mpr c_30
              exact t_signSize_83 hx hb hr hml hown hts hlocks hK hP hw _ _ (by omega) (fun r => r = nI (sgN (rb x2 lim g) (rb x2 lim (g + 1)) (rb x2 lim (g + 2)))) (by rw [sgN_n (by omega)]) _ (lv_sub hl [3, 2, 1] rfl)
            · have c_30 := (bI_eqB).mp c_30
              refine lv_iload hx hb dX1_signSize_74 (lv_at hl 0 rfl) ?_
              refine lv_bipush (v := nI 61) hx hb dX1_signSize_76 (by decide) ?_
              refine lv_icmp_ne (tgt := 83) hx hb dX1_signSize_78 (by decide) (fun c_31 => ?_) (fun c_31 => ?_)
              · have c_31 := mt (bI_eqN (k := 61) (by omega)).mpr c_31
                exact t_signSize_83 hx hb hr hml hown hts hlocks hK hP hw _ _ (by omega) (fun r => r = nI (sgN (rb x2 lim g) (rb x2 lim (g + 1)) (rb x2 lim (g + 2)))) (by rw [sgN_n (by omega)]) _ (lv_sub hl [3, 2, 1] rfl)
              · have c_31 := (bI_eqN (k := 61) (by omega)).mp c_31
                refine lv_iconst (v := nI 3) hx hb dX1_signSize_81 (by decide) ?_
                exact W.iret (v := nI 3) hx hb hr (fun t ht hW => ⟨_, rfl, (by rw [sgN, if_pos (by omega)]), ht⟩) (fun q h => by cases h) dX1_signSize_82
