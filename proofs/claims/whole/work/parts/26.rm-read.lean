set_option maxHeartbeats 4000000 in
set_option maxRecDepth 100000 in
theorem r_byteAt (l : Launch) (dC : Nat → ClassId) (dI : Nat → Nat → Nat) (ct : Nat → ClassId) (ad : Nat → Nat) (Y x1 x2 x3 x4 x5 x6 x7 x8 x9 : Nat → Nat) (g : Nat) (lim : Nat) (hg : g < 2 ^ 31) (hlim : lim ≤ 32768) (h2 : ∀ j, x2 j < 256) : Met l yX1_byteAt wX1_byteAt ({ frames := 0, cells := 0, slots := 0, locals := 0 }) (va_Pc [.ref (ad 2), .int (nI g), .int (nI lim)] (rmR dC dI ct ad (Y, x1, x2, x3, x4, x5, x6, x7, x8, x9))) (vp_Si (fun r => r = bI (rb x2 lim g))) 0 0 (fun _ => False) := by
  refine Met.ofW (cc := cX1_byteAt) (maxL := 3) (ret := (some .int)) (by decide) rfl ?_
  intro p e s m args below meth c s₁ B hml hv
  obtain ⟨rfl, hP, hK⟩ := hv
  have hx := B.exec
  have hb := B.bytes
  have hr := B.returns
  have hts : ∀ w ∈ bw, w.before _ s = true := fun w h => atoms_spec (ws := wX1_byteAt) B.pre w (bc w h)
  have hown : s.vm.findClass RX1 = some m.cls := findClass_of_methodNamed B.named
  have hlocks := B.notSynchronized
  have hl := lv_entry ([.ref (ad 2), .int (nI g), .int (nI lim)]) (n := 3) (Nat.le_of_ble_eq_true rfl)
  rw [lg_entry_eq]
  generalize (lg_sl ([.ref (ad 2), .int (nI g), .int (nI lim)]) ++ List.replicate (3 - (lg_sl ([.ref (ad 2), .int (nI g), .int (nI lim)])).length) Slot.unset).toArray = ls at hl ⊢
  have hl : lv_has ls 3 [(0, .ref (ad 2)), (1, .int (nI g)), (2, .int (nI lim))] := hl
  refine lv_iload_n hx hb dX1_byteAt_0 rfl (lv_at hl 1 rfl) ?_
  refine lv_iload_n hx hb dX1_byteAt_1 rfl (lv_at hl 2 rfl) ?_
  refine lv_icmp_ge (tgt := 15) hx hb dX1_byteAt_2 (by decide) (fun c_1 => ?_) (fun c_1 => ?_)
  · have c_1 := (nI_leI (a := lim) (b := g) (by omega) (by omega)).mp c_1
    refine lv_iconst (v := (-1)) hx hb dX1_byteAt_15 (by decide) ?_
    exact W.iret (v := (-1)) hx hb hr (fun t ht hW => ⟨_, rfl, (by rw [rb, if_neg (by omega)]; rfl), ht⟩) (fun q h => by cases h) dX1_byteAt_16
  · have c_1 := mt (nI_leI (a := lim) (b := g) (by omega) (by omega)).mpr c_1
    refine lv_aload_n hx hb dX1_byteAt_5 rfl (lv_at hl 0 rfl) ?_
    refine lv_iload_n hx hb dX1_byteAt_6 rfl (lv_at hl 1 rfl) ?_
    refine va_bald hx hb hK hP 2 0 rfl rfl (vp_in_nI (by omega) (by decide)) dX1_byteAt_7 ?_
    refine lv_topi (fun x_2 e_3 => ?_)
    obtain rfl : x_2 = sb_b (x2 g) := e_3.trans (by rw [nI_clamp (by omega)])
    have := h2 g
    refine lv_sipush (v := nI 255) hx hb dX1_byteAt_8 (by decide) ?_
    refine lv_iand hx hb dX1_byteAt_11 ?_
    refine lv_topi (fun x_4 e_5 => ?_)
    obtain rfl : x_4 = nI (x2 g) := e_5.trans (sb_m (by omega))
    refine lv_goto (tgt := 16) hx hb dX1_byteAt_12 (by decide) ?_
    exact W.iret (v := nI (x2 g)) hx hb hr (fun t ht hW => ⟨_, rfl, (by rw [rb, if_pos (by omega), bI_lo (h2 g)]), ht⟩) (fun q h => by cases h) dX1_byteAt_16
/-- quotedEnd's search from k on -/
def qd (S : Nat → Nat) (lim y k : Nat) : Nat := if k < lim ∧ S k ≠ 10 ∧ S k ≠ y then qd S lim y (if S k = 92 ∧ k + 1 < lim ∧ S (k + 1) ≠ 10 then k + 2 else k + 1) else k
termination_by lim - k
decreasing_by split <;> omega
def qdO (S : Nat → Nat) (lim g : Nat) : Option Nat := if qd S lim (S g) (g + 1) < lim ∧ S (qd S lim (S g) (g + 1)) = S g then some (qd S lim (S g) (g + 1) + 1) else none
theorem qd_g (S : Nat → Nat) (lim y : Nat) : ∀ (n k : Nat), lim ≤ k + n → k ≤ qd S lim y k := by
  intro n
  induction n with
  | zero => intro k h; rw [qd, if_neg (fun z => by have := z.1; omega)]; exact Nat.le_refl _
  | succ n ih =>
    intro k h
    rw [qd]
    by_cases c : k < lim ∧ S k ≠ 10 ∧ S k ≠ y
    · rw [if_pos c]
      by_cases d : S k = 92 ∧ k + 1 < lim ∧ S (k + 1) ≠ 10
      · rw [if_pos d]; have := ih (k + 2) (by omega); omega
      · rw [if_neg d]; have := ih (k + 1) (by omega); omega
    · rw [if_neg c]; exact Nat.le_refl _
theorem qdO_b {S : Nat → Nat} {lim g x : Nat} (h : qdO S lim g = some x) : g + 1 < x ∧ x ≤ lim := by
  unfold qdO at h
  have h1 := qd_g S lim (S g) lim (g + 1) (by omega)
  by_cases c : qd S lim (S g) (g + 1) < lim ∧ S (qd S lim (S g) (g + 1)) = S g
  · rw [if_pos c] at h; cases h; omega
  · rw [if_neg c] at h; cases h
set_option maxHeartbeats 4000000 in
set_option maxRecDepth 100000 in
theorem q_quotedEnd_16 {p : Program} {l : Launch} {e : Env} {s : State} {m : MethodId} {args : Array Value} {below : List Frame} {meth : Method} {c : Code} (hx : p.tables.exec = Jvm.exec) (hb : c.code = cX1_quotedEnd) (hr : meth.sig.returnType = (some .int)) (hml : c.maxLocals = 5) (hown : s.vm.findClass RX1 = some m.cls) (hts : ∀ w ∈ bw, w.before args s = true) (hlocks : meth.locks = false) {dC : Nat → ClassId} {dI : Nat → Nat → Nat} {ct : Nat → ClassId} {ad : Nat → Nat} {Y x1 x2 x3 x4 x5 x6 x7 x8 x9 : Nat → Nat} (hK : va_K (dC, dI) vwCl (rmT ct) s) (hP : va_P (dC, dI) vwCl (rmW ct ad (Y, x1, x2, x3, x4, x5, x6, x7, x8, x9)) s.heap) (lim y : Nat) (hlim : lim ≤ 32768) (hy : y < 256) (h2 : ∀ j, x2 j < 256) (P : Int32 → Prop) : ∀ (k : Nat) (n : Nat), (lim - n) < k → (n < 2 ^ 30) → P (oI (if qd x2 lim y n < lim ∧ x2 (qd x2 lim y n) = y then some (qd x2 lim y n + 1) else none)) → ∀ ls, lv_has ls 5 [(0, .ref (ad 0)), (2, .int (nI lim)), (3, .int (nI y)), (4, .int (nI n))] → W p l e (headSpec wX1_quotedEnd ({ frames := 0, cells := 0, slots := 0, locals := 0 })).room s m args below meth c s.heap [] 0 0 (MQ below (vp_Si P) args s 0 0 (fun _ => False)) (F0 m 16 ls []) := by
  intro k
  induction k with
  | zero => intro n hk; exact absurd hk (by omega)
  | succ k ih =>
    intro n hk hn hQ ls hl
    refine lv_iload hx hb dX1_quotedEnd_16 (lv_at hl 3 rfl) ?_
    refine lv_iload_n hx hb dX1_quotedEnd_18 rfl (lv_at hl 1 rfl) ?_
    refine lv_icmp_ge (tgt := 99) hx hb dX1_quotedEnd_19 (by decide) (fun c_1 => ?_) (fun c_1 => ?_)
    · have c_1 := (nI_leI (a := lim) (b := n) (by omega) (by omega)).mp c_1
      refine lv_iload hx hb dX1_quotedEnd_99 (lv_at hl 3 rfl) ?_
      refine lv_iload_n hx hb dX1_quotedEnd_101 rfl (lv_at hl 1 rfl) ?_
      refine lv_icmp_ge (tgt := 127) hx hb dX1_quotedEnd_102 (by decide) (fun c_2 => ?_) (fun c_2 => ?_)
      · have c_2 := (nI_leI (a := lim) (b := n) (by omega) (by omega)).mp c_2
        refine lv_iconst (v := (-1)) hx hb dX1_quotedEnd_127 (by decide) ?_
        exact W.iret (v := (-1)) hx hb hr (fun t ht hW => ⟨_, rfl, (by rw [show qd x2 lim y n = n by rw [qd, if_neg (by omega)], if_neg (by omega)] at hQ; exact hQ), ht⟩) (fun q h => by cases h) dX1_quotedEnd_128
      · have c_2 := mt (nI_leI (a := lim) (b := n) (by omega) (by omega)).mpr c_2
        refine lv_aload_n hx hb dX1_quotedEnd_105 rfl (lv_at hl 0 rfl) ?_
        refine va_get (D := (dC, dI)) (ci := 1) (v := .ref (ad 2)) (C := RX1) (T := TX1) (N := 20) hx hb hts inX1 hown hK hP 0 rfl rfl 9 (by decide) (hts _ fl_X1_14) (fun _ h9 => h9) rfl dX1_quotedEnd_106 ?_
        refine lv_iload hx hb dX1_quotedEnd_109 (lv_at hl 3 rfl) ?_
        refine va_bald hx hb hK hP 2 0 rfl rfl (vp_in_nI (by omega) (by decide)) dX1_quotedEnd_111 ?_
        refine lv_topi (fun x_3 e_4 => ?_)
        obtain rfl : x_3 = sb_b (x2 n) := e_4.trans (by rw [nI_clamp (by omega)])
        have := h2 n
        refine lv_sipush (v := nI 255) hx hb dX1_quotedEnd_112 (by decide) ?_
        refine lv_iand hx hb dX1_quotedEnd_115 ?_
        refine lv_topi (fun x_5 e_6 => ?_)
        obtain rfl : x_5 = nI (x2 n) := e_6.trans (sb_m (by omega))
        refine lv_iload_n hx hb dX1_quotedEnd_116 rfl (lv_at hl 2 rfl) ?_
        refine lv_icmp_ne (tgt := 127) hx hb dX1_quotedEnd_117 (by decide) (fun c_7 => ?_) (fun c_7 => ?_)
        · have c_7 := mt (nI_eq (a := x2 n) (b := y) (by omega) (by omega)).mpr c_7
          refine lv_iconst (v := (-1)) hx hb dX1_quotedEnd_127 (by decide) ?_
          exact W.iret (v := (-1)) hx hb hr (fun t ht hW => ⟨_, rfl, (by rw [show qd x2 lim y n = n by rw [qd, if_neg (by omega)], if_neg (by omega)] at hQ; exact hQ), ht⟩) (fun q h => by cases h) dX1_quotedEnd_128
        · have c_7 := (nI_eq (a := x2 n) (b := y) (by omega) (by omega)).mp c_7
          refine lv_iload hx hb dX1_quotedEnd_120 (lv_at hl 3 rfl) ?_
          refine lv_iconst (v := nI 1) hx hb dX1_quotedEnd_122 (by decide) ?_
          refine lv_iadd hx hb dX1_quotedEnd_123 ?_
          refine lv_topi (fun x_8 e_9 => ?_)
          obtain rfl : x_8 = nI (n + 1) := e_9.trans (nI_add n 1)
          refine lv_goto (tgt := 128) hx hb dX1_quotedEnd_124 (by decide) ?_
          exact W.iret (v := nI (n + 1)) hx hb hr (fun t ht hW => ⟨_, rfl, (by rw [show qd x2 lim y n = n by rw [qd, if_neg (by omega)], if_pos (by omega)] at hQ; exact hQ), ht⟩) (fun q h => by cases h) dX1_quotedEnd_128
    · have c_1 := mt (nI_leI (a := lim) (b := n) (by omega) (by omega)).mpr c_1
      refine lv_aload_n hx hb dX1_quotedEnd_22 rfl (lv_at hl 0 rfl) ?_
      refine va_get (D := (dC, dI)) (ci := 1) (v := .ref (ad 2)) (C := RX1) (T := TX1) (N := 20) hx hb hts inX1 hown hK hP 0 rfl rfl 9 (by decide) (hts _ fl_X1_14) (fun _ h9 => h9) rfl dX1_quotedEnd_23 ?_
      refine lv_iload hx hb dX1_quotedEnd_26 (lv_at hl 3 rfl) ?_
      refine va_bald hx hb hK hP 2 0 rfl rfl (vp_in_nI (by omega) (by decide)) dX1_quotedEnd_28 ?_
      refine lv_topi (fun x_10 e_11 => ?_)
      obtain rfl : x_10 = sb_b (x2 n) := e_11.trans (by rw [nI_clamp (by omega)])
      have := h2 n
      refine lv_bipush (v := nI 10) hx hb dX1_quotedEnd_29 (by decide) ?_
      refine lv_icmp_eq (tgt := 99) hx hb dX1_quotedEnd_31 (by decide) (fun c_12 => ?_) (fun c_12 => ?_)
      · have c_12 := (sb_eqN (by omega) (by omega)).mp c_12
        refine lv_iload hx hb dX1_quotedEnd_99 (lv_at hl 3 rfl) ?_
        refine lv_iload_n hx hb dX1_quotedEnd_101 rfl (lv_at hl 1 rfl) ?_
        refine lv_icmp_ge (tgt := 127) hx hb dX1_quotedEnd_102 (by decide) (fun c_13 => ?_) (fun c_13 => ?_)
        · have c_13 := (nI_leI (a := lim) (b := n) (by omega) (by omega)).mp c_13
          refine lv_iconst (v := (-1)) hx hb dX1_quotedEnd_127 (by decide) ?_
          exact W.iret (v := (-1)) hx hb hr (fun t ht hW => ⟨_, rfl, (by rw [show qd x2 lim y n = n by rw [qd, if_neg (by omega)], if_neg (by omega)] at hQ; exact hQ), ht⟩) (fun q h => by cases h) dX1_quotedEnd_128
        · have c_13 := mt (nI_leI (a := lim) (b := n) (by omega) (by omega)).mpr c_13
          refine lv_aload_n hx hb dX1_quotedEnd_105 rfl (lv_at hl 0 rfl) ?_
          refine va_get (D := (dC, dI)) (ci := 1) (v := .ref (ad 2)) (C := RX1) (T := TX1) (N := 20) hx hb hts inX1 hown hK hP 0 rfl rfl 9 (by decide) (hts _ fl_X1_14) (fun _ h9 => h9) rfl dX1_quotedEnd_106 ?_
          refine lv_iload hx hb dX1_quotedEnd_109 (lv_at hl 3 rfl) ?_
          refine va_bald hx hb hK hP 2 0 rfl rfl (vp_in_nI (by omega) (by decide)) dX1_quotedEnd_111 ?_
          refine lv_topi (fun x_14 e_15 => ?_)
          obtain rfl : x_14 = sb_b (x2 n) := e_15.trans (by rw [nI_clamp (by omega)])
          have := h2 n
          refine lv_sipush (v := nI 255) hx hb dX1_quotedEnd_112 (by decide) ?_
          refine lv_iand hx hb dX1_quotedEnd_115 ?_
          refine lv_topi (fun x_16 e_17 => ?_)
          obtain rfl : x_16 = nI (x2 n) := e_17.trans (sb_m (by omega))
          refine lv_iload_n hx hb dX1_quotedEnd_116 rfl (lv_at hl 2 rfl) ?_
          refine lv_icmp_ne (tgt := 127) hx hb dX1_quotedEnd_117 (by decide) (fun c_18 => ?_) (fun c_18 => ?_)
          · have c_18 := mt (nI_eq (a := x2 n) (b := y) (by omega) (by omega)).mpr c_18
            refine lv_iconst (v := (-1)) hx hb dX1_quotedEnd_127 (by decide) ?_
            exact W.iret (v := (-1)) hx hb hr (fun t ht hW => ⟨_, rfl, (by rw [show qd x2 lim y n = n by rw [qd, if_neg (by omega)], if_neg (by omega)] at hQ; exact hQ), ht⟩) (fun q h => by cases h) dX1_quotedEnd_128
          · have c_18 := (nI_eq (a := x2 n) (b := y) (by omega) (by omega)).mp c_18
            refine lv_iload hx hb dX1_quotedEnd_120 (lv_at hl 3 rfl) ?_
            refine lv_iconst (v := nI 1) hx hb dX1_quotedEnd_122 (by decide) ?_
            refine lv_iadd hx hb dX1_quotedEnd_123 ?_
            refine lv_topi (fun x_19 e_20 => ?_)
            obtain rfl : x_19 = nI (n + 1) := e_20.trans (nI_add n 1)
            refine lv_goto (tgt := 128) hx hb dX1_quotedEnd_124 (by decide) ?_
            exact W.iret (v := nI (n + 1)) hx hb hr (fun t ht hW => ⟨_, rfl, (by rw [show qd x2 lim y n = n by rw [qd, if_neg (by omega)], if_pos (by omega)] at hQ; exact hQ), ht⟩) (fun q h => by cases h) dX1_quotedEnd_128
      · have c_12 := mt (sb_eqN (by omega) (by omega)).mpr c_12
        refine lv_aload_n hx hb dX1_quotedEnd_34 rfl (lv_at hl 0 rfl) ?_
        refine va_get (D := (dC, dI)) (ci := 1) (v := .ref (ad 2)) (C := RX1) (T := TX1) (N := 20) hx hb hts inX1 hown hK hP 0 rfl rfl 9 (by decide) (hts _ fl_X1_14) (fun _ h9 => h9) rfl dX1_quotedEnd_35 ?_
        refine lv_iload hx hb dX1_quotedEnd_38 (lv_at hl 3 rfl) ?_
        refine va_bald hx hb hK hP 2 0 rfl rfl (vp_in_nI (by omega) (by decide)) dX1_quotedEnd_40 ?_
        refine lv_topi (fun x_21 e_22 => ?_)
        obtain rfl : x_21 = sb_b (x2 n) := e_22.trans (by rw [nI_clamp (by omega)])
        have := h2 n
        refine lv_sipush (v := nI 255) hx hb dX1_quotedEnd_41 (by decide) ?_
        refine lv_iand hx hb dX1_quotedEnd_44 ?_
        refine lv_topi (fun x_23 e_24 => ?_)
        obtain rfl : x_23 = nI (x2 n) := e_24.trans (sb_m (by omega))
        refine lv_iload_n hx hb dX1_quotedEnd_45 rfl (lv_at hl 2 rfl) ?_
        refine lv_icmp_eq (tgt := 99) hx hb dX1_quotedEnd_46 (by decide) (fun c_25 => ?_) (fun c_25 => ?_)
        · have c_25 := (nI_eq (a := x2 n) (b := y) (by omega) (by omega)).mp c_25
          refine lv_iload hx hb dX1_quotedEnd_99 (lv_at hl 3 rfl) ?_
          refine lv_iload_n hx hb dX1_quotedEnd_101 rfl (lv_at hl 1 rfl) ?_
          refine lv_icmp_ge (tgt := 127) hx hb dX1_quotedEnd_102 (by decide) (fun c_26 => ?_) (fun c_26 => ?_)
          · have c_26 := (nI_leI (a := lim) (b := n) (by omega) (by omega)).mp c_26
            refine lv_iconst (v := (-1)) hx hb dX1_quotedEnd_127 (by decide) ?_
            exact W.iret (v := (-1)) hx hb hr (fun t ht hW => ⟨_, rfl, (by rw [show qd x2 lim y n = n by rw [qd, if_neg (by omega)], if_neg (by omega)] at hQ; exact hQ), ht⟩) (fun q h => by cases h) dX1_quotedEnd_128
          · have c_26 := mt (nI_leI (a := lim) (b := n) (by omega) (by omega)).mpr c_26
            refine lv_aload_n hx hb dX1_quotedEnd_105 rfl (lv_at hl 0 rfl) ?_
            refine va_get (D := (dC, dI)) (ci := 1) (v := .ref (ad 2)) (C := RX1) (T := TX1) (N := 20) hx hb hts inX1 hown hK hP 0 rfl rfl 9 (by decide) (hts _ fl_X1_14) (fun _ h9 => h9) rfl dX1_quotedEnd_106 ?_
            refine lv_iload hx hb dX1_quotedEnd_109 (lv_at hl 3 rfl) ?_
            refine va_bald hx hb hK hP 2 0 rfl rfl (vp_in_nI (by omega) (by decide)) dX1_quotedEnd_111 ?_
            refine lv_topi (fun x_27 e_28 => ?_)
            obtain rfl : x_27 = sb_b (x2 n) := e_28.trans (by rw [nI_clamp (by omega)])
            have := h2 n
            refine lv_sipush (v := nI 255) hx hb dX1_quotedEnd_112 (by decide) ?_
            refine lv_iand hx hb dX1_quotedEnd_115 ?_
            refine lv_topi (fun x_29 e_30 => ?_)
            obtain rfl : x_29 = nI (x2 n) := e_30.trans (sb_m (by omega))
            refine lv_iload_n hx hb dX1_quotedEnd_116 rfl (lv_at hl 2 rfl) ?_
            refine lv_icmp_ne (tgt := 127) hx hb dX1_quotedEnd_117 (by decide) (fun c_31 => ?_) (fun c_31 => ?_)
            · have c_31 := mt (nI_eq (a := x2 n) (b := y) (by omega) (by omega)).mpr c_31
              refine lv_iconst (v := (-1)) hx hb dX1_quotedEnd_127 (by decide) ?_
              exact W.iret (v := (-1)) hx hb hr (fun t ht hW => ⟨_, rfl, (by rw [show qd x2 lim y n = n by rw [qd, if_neg (by omega)], if_neg (by omega)] at hQ; exact hQ), ht⟩) (fun q h => by cases h) dX1_quotedEnd_128
            · have c_31 := (nI_eq (a := x2 n) (b := y) (by omega) (by omega)).mp c_31
              refine lv_iload hx hb dX1_quotedEnd_120 (lv_at hl 3 rfl) ?_
              refine lv_iconst (v := nI 1) hx hb dX1_quotedEnd_122 (by decide) ?_
              refine lv_iadd hx hb dX1_quotedEnd_123 ?_
              refine lv_topi (fun x_32 e_33 => ?_)
              obtain rfl : x_32 = nI (n + 1) := e_33.trans (nI_add n 1)
              refine lv_goto (tgt := 128) hx hb dX1_quotedEnd_124 (by decide) ?_
              exact W.iret (v := nI (n + 1)) hx hb hr (fun t ht hW => ⟨_, rfl, (by rw [show qd x2 lim y n = n by rw [qd, if_neg (by omega)], if_pos (by omega)] at hQ; exact hQ), ht⟩) (fun q h => by cases h) dX1_quotedEnd_128
        · have c_25 := mt (nI_eq (a := x2 n) (b := y) (by omega) (by omega)).mpr c_25
          refine lv_aload_n hx hb dX1_quotedEnd_49 rfl (lv_at hl 0 rfl) ?_
          refine va_get (D := (dC, dI)) (ci := 1) (v := .ref (ad 2)) (C := RX1) (T := TX1) (N := 20) hx hb hts inX1 hown hK hP 0 rfl rfl 9 (by decide) (hts _ fl_X1_14) (fun _ h9 => h9) rfl dX1_quotedEnd_50 ?_
          refine lv_iload hx hb dX1_quotedEnd_53 (lv_at hl 3 rfl) ?_
          refine va_bald hx hb hK hP 2 0 rfl rfl (vp_in_nI (by omega) (by decide)) dX1_quotedEnd_55 ?_
          refine lv_topi (fun x_34 e_35 => ?_)
          obtain rfl : x_34 = sb_b (x2 n) := e_35.trans (by rw [nI_clamp (by omega)])
          have := h2 n
          refine lv_bipush (v := nI 92) hx hb dX1_quotedEnd_56 (by decide) ?_
          refine lv_icmp_ne (tgt := 90) hx hb dX1_quotedEnd_58 (by decide) (fun c_36 => ?_) (fun c_36 => ?_)
          · have c_36 := mt (sb_eqN (by omega) (by omega)).mpr c_36
            refine lv_iload hx hb dX1_quotedEnd_90 (lv_at hl 3 rfl) ?_
            refine lv_iconst (v := nI 1) hx hb dX1_quotedEnd_92 (by decide) ?_
            refine lv_iadd hx hb dX1_quotedEnd_93 ?_
            refine lv_topi (fun x_37 e_38 => ?_)
            obtain rfl : x_37 = nI (n + 1) := e_38.trans (nI_add n 1)
            refine lv_istore (lv' := [(4, .int (nI (n + 1))), (0, .ref (ad 0)), (2, .int (nI lim)), (3, .int (nI y))]) hx hb dX1_quotedEnd_94 hl (by decide) rfl (fun ls hl => ?_)
            refine lv_goto (tgt := 16) hx hb dX1_quotedEnd_96 (by decide) ?_
            exact ih (n + 1) (by omega) (by omega) (by rw [show qd x2 lim y n = qd x2 lim y (n + 1) by rw [qd, if_pos (by omega), if_neg (by omega)]] at hQ; exact hQ) _ (lv_sub hl [1, 2, 3, 0] rfl)
          · have c_36 := (sb_eqN (by omega) (by omega)).mp c_36
            refine lv_iload hx hb dX1_quotedEnd_61 (lv_at hl 3 rfl) ?_
            refine lv_iconst (v := nI 1) hx hb dX1_quotedEnd_63 (by decide) ?_
            refine lv_iadd hx hb dX1_quotedEnd_64 ?_
            refine lv_topi (fun x_39 e_40 => ?_)
            obtain rfl : x_39 = nI (n + 1) := e_40.trans (nI_add n 1)
            refine lv_iload_n hx hb dX1_quotedEnd_65 rfl (lv_at hl 1 rfl) ?_
            refine lv_icmp_ge (tgt := 90) hx hb dX1_quotedEnd_66 (by decide) (fun c_41 => ?_) (fun c_41 => ?_)
            · have c_41 := (nI_leI (a := lim) (b := n + 1) (by omega) (by omega)).mp c_41
              refine lv_iload hx hb dX1_quotedEnd_90 (lv_at hl 3 rfl) ?_
              refine lv_iconst (v := nI 1) hx hb dX1_quotedEnd_92 (by decide) ?_
              refine lv_iadd hx hb dX1_quotedEnd_93 ?_
              refine lv_topi (fun x_42 e_43 => ?_)
              obtain rfl : x_42 = nI (n + 1) := e_43.trans (nI_add n 1)
              refine lv_istore (lv' := [(4, .int (nI (n + 1))), (0, .ref (ad 0)), (2, .int (nI lim)), (3, .int (nI y))]) hx hb dX1_quotedEnd_94 hl (by decide) rfl (fun ls hl => ?_)
              refine lv_goto (tgt := 16) hx hb dX1_quotedEnd_96 (by decide) ?_
              exact ih (n + 1) (by omega) (by omega) (by rw [show qd x2 lim y n = qd x2 lim y (n + 1) by rw [qd, if_pos (by omega), if_neg (by omega)]] at hQ; exact hQ) _ (lv_sub hl [1, 2, 3, 0] rfl)
            · have c_41 := mt (nI_leI (a := lim) (b := n + 1) (by omega) (by omega)).mpr c_41
              refine lv_aload_n hx hb dX1_quotedEnd_69 rfl (lv_at hl 0 rfl) ?_
              refine va_get (D := (dC, dI)) (ci := 1) (v := .ref (ad 2)) (C := RX1) (T := TX1) (N := 20) hx hb hts inX1 hown hK hP 0 rfl rfl 9 (by decide) (hts _ fl_X1_14) (fun _ h9 => h9) rfl dX1_quotedEnd_70 ?_
              refine lv_iload hx hb dX1_quotedEnd_73 (lv_at hl 3 rfl) ?_
              refine lv_iconst (v := nI 1) hx hb dX1_quotedEnd_75 (by decide) ?_
              refine lv_iadd hx hb dX1_quotedEnd_76 ?_
              refine lv_topi (fun x_44 e_45 => ?_)
              obtain rfl : x_44 = nI (n + 1) := e_45.trans (nI_add n 1)
              refine va_bald hx hb hK hP 2 0 rfl rfl (vp_in_nI (by omega) (by decide)) dX1_quotedEnd_77 ?_
              refine lv_topi (fun x_46 e_47 => ?_)
              obtain rfl : x_46 = sb_b (x2 (n + 1)) := e_47.trans (by rw [nI_clamp (by omega)])
              have := h2 (n + 1)
              refine lv_bipush (v := nI 10) hx hb dX1_quotedEnd_78 (by decide) ?_
              refine lv_icmp_eq (tgt := 90) hx hb dX1_quotedEnd_80 (by decide) (fun c_48 => ?_) (fun c_48 => ?_)
              · have c_48 := (sb_eqN (by omega) (by omega)).mp c_48
                refine lv_iload hx hb dX1_quotedEnd_90 (lv_at hl 3 rfl) ?_
                refine lv_iconst (v := nI 1) hx hb dX1_quotedEnd_92 (by decide) ?_
                refine lv_iadd hx hb dX1_quotedEnd_93 ?_
                refine lv_topi (fun x_49 e_50 => ?_)
                obtain rfl : x_49 = nI (n + 1) := e_50.trans (nI_add n 1)
                refine lv_istore (lv' := [(4, .int (nI (n + 1))), (0, .ref (ad 0)), (2, .int (nI lim)), (3, .int (nI y))]) hx hb dX1_quotedEnd_94 hl (by decide) rfl (fun ls hl => ?_)
                refine lv_goto (tgt := 16) hx hb dX1_quotedEnd_96 (by decide) ?_
                exact ih (n + 1) (by omega) (by omega) (by rw [show qd x2 lim y n = qd x2 lim y (n + 1) by rw [qd, if_pos (by omega), if_neg (by omega)]] at hQ; exact hQ) _ (lv_sub hl [1, 2, 3, 0] rfl)
              · have c_48 := mt (sb_eqN (by omega) (by omega)).mpr c_48
                refine lv_iload hx hb dX1_quotedEnd_83 (lv_at hl 3 rfl) ?_
                refine lv_iconst (v := nI 2) hx hb dX1_quotedEnd_85 (by decide) ?_
                refine lv_iadd hx hb dX1_quotedEnd_86 ?_
                refine lv_topi (fun x_51 e_52 => ?_)
                obtain rfl : x_51 = nI (n + 2) := e_52.trans (nI_add n 2)
                refine lv_goto (tgt := 94) hx hb dX1_quotedEnd_87 (by decide) ?_
                refine lv_istore (lv' := [(4, .int (nI (n + 2))), (0, .ref (ad 0)), (2, .int (nI lim)), (3, .int (nI y))]) hx hb dX1_quotedEnd_94 hl (by decide) rfl (fun ls hl => ?_)
                refine lv_goto (tgt := 16) hx hb dX1_quotedEnd_96 (by decide) ?_
                exact ih (n + 2) (by omega) (by omega) (by rw [show qd x2 lim y n = qd x2 lim y (n + 2) by rw [qd, if_pos (by omega), if_pos (by omega)]] at hQ; exact hQ) _ (lv_sub hl [1, 2, 3, 0] rfl)
set_option maxHeartbeats 4000000 in
set_option maxRecDepth 100000 in
theorem r_quotedEnd (l : Launch) (dC : Nat → ClassId) (dI : Nat → Nat → Nat) (ct : Nat → ClassId) (ad : Nat → Nat) (Y x1 x2 x3 x4 x5 x6 x7 x8 x9 : Nat → Nat) (g : Nat) (lim : Nat) (hg : g < 32768) (hlim : lim ≤ 32768) (h2 : ∀ j, x2 j < 256) : Met l yX1_quotedEnd wX1_quotedEnd ({ frames := 0, cells := 0, slots := 0, locals := 0 }) (va_Pc [.ref (ad 0), .int (nI g), .int (nI lim)] (rmR dC dI ct ad (Y, x1, x2, x3, x4, x5, x6, x7, x8, x9))) (vp_Si (fun r => r = oI (qdO x2 lim g))) 0 0 (fun _ => False) := by
  refine Met.ofW (cc := cX1_quotedEnd) (maxL := 5) (ret := (some .int)) (by decide) rfl ?_
  intro p e s m args below meth c s₁ B hml hv
  obtain ⟨rfl, hP, hK⟩ := hv
  have hx := B.exec
  have hb := B.bytes
  have hr := B.returns
  have hts : ∀ w ∈ bw, w.before _ s = true := fun w h => atoms_spec (ws := wX1_quotedEnd) B.pre w (bc w h)
  have hown : s.vm.findClass RX1 = some m.cls := findClass_of_methodNamed B.named
  have hlocks := B.notSynchronized
  have hl := lv_entry ([.ref (ad 0), .int (nI g), .int (nI lim)]) (n := 5) (Nat.le_of_ble_eq_true rfl)
  rw [lg_entry_eq]
  generalize (lg_sl ([.ref (ad 0), .int (nI g), .int (nI lim)]) ++ List.replicate (5 - (lg_sl ([.ref (ad 0), .int (nI g), .int (nI lim)])).length) Slot.unset).toArray = ls at hl ⊢
  have hl : lv_has ls 5 [(0, .ref (ad 0)), (1, .int (nI g)), (2, .int (nI lim))] := hl
  refine lv_aload_n hx hb dX1_quotedEnd_0 rfl (lv_at hl 0 rfl) ?_
  refine va_get (D := (dC, dI)) (ci := 1) (v := .ref (ad 2)) (C := RX1) (T := TX1) (N := 20) hx hb hts inX1 hown hK hP 0 rfl rfl 9 (by decide) (hts _ fl_X1_14) (fun _ h9 => h9) rfl dX1_quotedEnd_1 ?_
  refine lv_iload_n hx hb dX1_quotedEnd_4 rfl (lv_at hl 1 rfl) ?_
  refine va_bald hx hb hK hP 2 0 rfl rfl (vp_in_nI (by omega) (by decide)) dX1_quotedEnd_5 ?_
  refine lv_topi (fun x_1 e_2 => ?_)
  obtain rfl : x_1 = sb_b (x2 g) := e_2.trans (by rw [nI_clamp (by omega)])
  have := h2 g
  refine lv_sipush (v := nI 255) hx hb dX1_quotedEnd_6 (by decide) ?_
  refine lv_iand hx hb dX1_quotedEnd_9 ?_
  refine lv_topi (fun x_3 e_4 => ?_)
  obtain rfl : x_3 = nI (x2 g) := e_4.trans (sb_m (by omega))
  refine lv_istore_n (lv' := [(3, .int (nI (x2 g))), (0, .ref (ad 0)), (1, .int (nI g)), (2, .int (nI lim))]) hx hb dX1_quotedEnd_10 rfl hl (by decide) rfl (fun ls hl => ?_)
  refine lv_iload_n hx hb dX1_quotedEnd_11 rfl (lv_at hl 2 rfl) ?_
  refine lv_iconst (v := nI 1) hx hb dX1_quotedEnd_12 (by decide) ?_
  refine lv_iadd hx hb dX1_quotedEnd_13 ?_
  refine lv_topi (fun x_5 e_6 => ?_)
  obtain rfl : x_5 = nI (g + 1) := e_6.trans (nI_add g 1)
  refine lv_istore (lv' := [(4, .int (nI (g + 1))), (3, .int (nI (x2 g))), (0, .ref (ad 0)), (1, .int (nI g)), (2, .int (nI lim))]) hx hb dX1_quotedEnd_14 hl (by decide) rfl (fun ls hl => ?_)
  exact q_quotedEnd_16 hx hb hr hml hown hts hlocks hK hP lim (x2 g) hlim (h2 g) h2 (fun r => r = oI (qdO x2 lim g)) (lim + 1) (g + 1) (by omega) (by omega) rfl _ (lv_sub hl [2, 4, 1, 0] rfl)
/-- commentEnd's search -/
def ce (S : Nat → Nat) (lim k : Nat) : Nat := if k + 1 < lim ∧ ¬ (S k = 42 ∧ S (k + 1) = 47) then ce S lim (k + 1) else k
termination_by lim - k
def ceO (S : Nat → Nat) (lim g : Nat) : Option Nat := if ce S lim (g + 2) + 1 < lim then some (ce S lim (g + 2) + 2) else none
theorem ce_g (S : Nat → Nat) (lim : Nat) : ∀ (n k : Nat), lim ≤ k + n → k ≤ ce S lim k := by
  intro n
  induction n with
  | zero => intro k h; rw [ce, if_neg (fun z => by have := z.1; omega)]; exact Nat.le_refl _
  | succ n ih =>
    intro k h
    rw [ce]
    by_cases c : k + 1 < lim ∧ ¬ (S k = 42 ∧ S (k + 1) = 47)
    · rw [if_pos c]; have := ih (k + 1) (by omega); omega
    · rw [if_neg c]; exact Nat.le_refl _
theorem ceO_b {S : Nat → Nat} {lim g x : Nat} (h : ceO S lim g = some x) : g + 3 < x ∧ x ≤ lim := by
  unfold ceO at h
  have h1 := ce_g S lim lim (g + 2) (by omega)
  by_cases c : ce S lim (g + 2) + 1 < lim
  · rw [if_pos c] at h; cases h; omega
  · rw [if_neg c] at h; cases h
set_option maxHeartbeats 4000000 in
set_option maxRecDepth 100000 in
theorem q_commentEnd_4 {p : Program} {l : Launch} {e : Env} {s : State} {m : MethodId} {args : Array Value} {below : List Frame} {meth : Method} {c : Code} (hx : p.tables.exec = Jvm.exec) (hb : c.code = cX1_commentEnd) (hr : meth.sig.returnType = (some .int)) (hml : c.maxLocals = 3) (hown : s.vm.findClass RX1 = some m.cls) (hts : ∀ w ∈ bw, w.before args s = true) (hlocks : meth.locks = false) {dC : Nat → ClassId} {dI : Nat → Nat → Nat} {ct : Nat → ClassId} {ad : Nat → Nat} {Y x1 x2 x3 x4 x5 x6 x7 x8 x9 : Nat → Nat} (hK : va_K (dC, dI) vwCl (rmT ct) s) (hP : va_P (dC, dI) vwCl (rmW ct ad (Y, x1, x2, x3, x4, x5, x6, x7, x8, x9)) s.heap)  (hlim : Y 8 ≤ 32768) (h2 : ∀ j, x2 j < 256) (P : Int32 → Prop) : ∀ (k : Nat) (n : Nat), (Y 8 - n) < k → (n < 2 ^ 30) → P (oI (if ce x2 (Y 8) n + 1 < Y 8 then some (ce x2 (Y 8) n + 2) else none)) → ∀ ls, lv_has ls 3 [(0, .ref (ad 0)), (2, .int (nI n))] → W p l e (headSpec wX1_commentEnd ({ frames := 0, cells := 0, slots := 0, locals := 0 })).room s m args below meth c s.heap [] 0 0 (MQ below (vp_Si P) args s 0 0 (fun _ => False)) (F0 m 4 ls []) := by
  intro k
  induction k with
  | zero => intro n hk; exact absurd hk (by omega)
  | succ k ih =>
    intro n hk hn hQ ls hl
    refine lv_iload_n hx hb dX1_commentEnd_4 rfl (lv_at hl 1 rfl) ?_
    refine lv_iconst (v := nI 1) hx hb dX1_commentEnd_5 (by decide) ?_
    refine lv_iadd hx hb dX1_commentEnd_6 ?_
    refine lv_topi (fun x_1 e_2 => ?_)
    obtain rfl : x_1 = nI (n + 1) := e_2.trans (nI_add n 1)
    refine lv_aload_n hx hb dX1_commentEnd_7 rfl (lv_at hl 0 rfl) ?_
    refine va_get (D := (dC, dI)) (ci := 1) (v := .int (nI (Y 8))) (C := RX1) (T := TX1) (N := 20) hx hb hts inX1 hown hK hP 0 rfl rfl 8 (by decide) (hts _ fl_X1_107) (fun _ h9 => h9) rfl dX1_commentEnd_8 ?_
    refine lv_icmp_ge (tgt := 44) hx hb dX1_commentEnd_11 (by decide) (fun c_3 => ?_) (fun c_3 => ?_)
    · have c_3 := (nI_leI (a := Y 8) (b := n + 1) (by omega) (by omega)).mp c_3
      refine lv_iload_n hx hb dX1_commentEnd_44 rfl (lv_at hl 1 rfl) ?_
      refine lv_iconst (v := nI 1) hx hb dX1_commentEnd_45 (by decide) ?_
      refine lv_iadd hx hb dX1_commentEnd_46 ?_
      refine lv_topi (fun x_4 e_5 => ?_)
      obtain rfl : x_4 = nI (n + 1) := e_5.trans (nI_add n 1)
      refine lv_aload_n hx hb dX1_commentEnd_47 rfl (lv_at hl 0 rfl) ?_
      refine va_get (D := (dC, dI)) (ci := 1) (v := .int (nI (Y 8))) (C := RX1) (T := TX1) (N := 20) hx hb hts inX1 hown hK hP 0 rfl rfl 8 (by decide) (hts _ fl_X1_107) (fun _ h9 => h9) rfl dX1_commentEnd_48 ?_
      refine lv_icmp_ge (tgt := 60) hx hb dX1_commentEnd_51 (by decide) (fun c_6 => ?_) (fun c_6 => ?_)
      · have c_6 := (nI_leI (a := Y 8) (b := n + 1) (by omega) (by omega)).mp c_6
        refine lv_iconst (v := (-1)) hx hb dX1_commentEnd_60 (by decide) ?_
        exact W.iret (v := (-1)) hx hb hr (fun t ht hW => ⟨_, rfl, (by rw [show ce x2 (Y 8) n = n by rw [ce, if_neg (by omega)], if_neg (by omega)] at hQ; exact hQ), ht⟩) (fun q h => by cases h) dX1_commentEnd_61
      · have c_6 := mt (nI_leI (a := Y 8) (b := n + 1) (by omega) (by omega)).mpr c_6
        refine lv_iload_n hx hb dX1_commentEnd_54 rfl (lv_at hl 1 rfl) ?_
        refine lv_iconst (v := nI 2) hx hb dX1_commentEnd_55 (by decide) ?_
        refine lv_iadd hx hb dX1_commentEnd_56 ?_
        refine lv_topi (fun x_7 e_8 => ?_)
        obtain rfl : x_7 = nI (n + 2) := e_8.trans (nI_add n 2)
        refine lv_goto (tgt := 61) hx hb dX1_commentEnd_57 (by decide) ?_
        exact W.iret (v := nI (n + 2)) hx hb hr (fun t ht hW => ⟨_, rfl, (by rw [show ce x2 (Y 8) n = n by rw [ce, if_neg (by omega)], if_pos (by omega)] at hQ; exact hQ), ht⟩) (fun q h => by cases h) dX1_commentEnd_61
    · have c_3 := mt (nI_leI (a := Y 8) (b := n + 1) (by omega) (by omega)).mpr c_3
      refine lv_aload_n hx hb dX1_commentEnd_14 rfl (lv_at hl 0 rfl) ?_
      refine va_get (D := (dC, dI)) (ci := 1) (v := .ref (ad 2)) (C := RX1) (T := TX1) (N := 20) hx hb hts inX1 hown hK hP 0 rfl rfl 9 (by decide) (hts _ fl_X1_14) (fun _ h9 => h9) rfl dX1_commentEnd_15 ?_
      refine lv_iload_n hx hb dX1_commentEnd_18 rfl (lv_at hl 1 rfl) ?_
      refine va_bald hx hb hK hP 2 0 rfl rfl (vp_in_nI (by omega) (by decide)) dX1_commentEnd_19 ?_
      refine lv_topi (fun x_9 e_10 => ?_)
      obtain rfl : x_9 = sb_b (x2 n) := e_10.trans (by rw [nI_clamp (by omega)])
      have := h2 n
      refine lv_bipush (v := nI 42) hx hb dX1_commentEnd_20 (by decide) ?_
      refine lv_icmp_ne (tgt := 38) hx hb dX1_commentEnd_22 (by decide) (fun c_11 => ?_) (fun c_11 => ?_)
      · have c_11 := mt (sb_eqN (by omega) (by omega)).mpr c_11
        refine lv_iinc (v := nI (n + 1)) (lv' := [(2, .int (nI (n + 1))), (0, .ref (ad 0))]) hx hb dX1_commentEnd_38 hl (k := 1) rfl (by exact nI_add n 1) (by decide) rfl (fun ls hl => ?_)
        refine lv_goto (tgt := 4) hx hb dX1_commentEnd_41 (by decide) ?_
        exact ih (n + 1) (by omega) (by omega) (by rw [show ce x2 (Y 8) n = ce x2 (Y 8) (n + 1) by rw [ce, if_pos (by omega)]] at hQ; exact hQ) _ (lv_sub hl [1, 0] rfl)
      · have c_11 := (sb_eqN (by omega) (by omega)).mp c_11
        refine lv_aload_n hx hb dX1_commentEnd_25 rfl (lv_at hl 0 rfl) ?_
        refine va_get (D := (dC, dI)) (ci := 1) (v := .ref (ad 2)) (C := RX1) (T := TX1) (N := 20) hx hb hts inX1 hown hK hP 0 rfl rfl 9 (by decide) (hts _ fl_X1_14) (fun _ h9 => h9) rfl dX1_commentEnd_26 ?_
        refine lv_iload_n hx hb dX1_commentEnd_29 rfl (lv_at hl 1 rfl) ?_
        refine lv_iconst (v := nI 1) hx hb dX1_commentEnd_30 (by decide) ?_
        refine lv_iadd hx hb dX1_commentEnd_31 ?_
        refine lv_topi (fun x_12 e_13 => ?_)
        obtain rfl : x_12 = nI (n + 1) := e_13.trans (nI_add n 1)
        refine va_bald hx hb hK hP 2 0 rfl rfl (vp_in_nI (by omega) (by decide)) dX1_commentEnd_32 ?_
        refine lv_topi (fun x_14 e_15 => ?_)
        obtain rfl : x_14 = sb_b (x2 (n + 1)) := e_15.trans (by rw [nI_clamp (by omega)])
        have := h2 (n + 1)
        refine lv_bipush (v := nI 47) hx hb dX1_commentEnd_33 (by decide) ?_
        refine lv_icmp_eq (tgt := 44) hx hb dX1_commentEnd_35 (by decide) (fun c_16 => ?_) (fun c_16 => ?_)
        · have c_16 := (sb_eqN (by omega) (by omega)).mp c_16
          refine lv_iload_n hx hb dX1_commentEnd_44 rfl (lv_at hl 1 rfl) ?_
          refine lv_iconst (v := nI 1) hx hb dX1_commentEnd_45 (by decide) ?_
          refine lv_iadd hx hb dX1_commentEnd_46 ?_
          refine lv_topi (fun x_17 e_18 => ?_)
          obtain rfl : x_17 = nI (n + 1) := e_18.trans (nI_add n 1)
          refine lv_aload_n hx hb dX1_commentEnd_47 rfl (lv_at hl 0 rfl) ?_
          refine va_get (D := (dC, dI)) (ci := 1) (v := .int (nI (Y 8))) (C := RX1) (T := TX1) (N := 20) hx hb hts inX1 hown hK hP 0 rfl rfl 8 (by decide) (hts _ fl_X1_107) (fun _ h9 => h9) rfl dX1_commentEnd_48 ?_
          refine lv_icmp_ge (tgt := 60) hx hb dX1_commentEnd_51 (by decide) (fun c_19 => ?_) (fun c_19 => ?_)
          · have c_19 := (nI_leI (a := Y 8) (b := n + 1) (by omega) (by omega)).mp c_19
            refine lv_iconst (v := (-1)) hx hb dX1_commentEnd_60 (by decide) ?_
            exact W.iret (v := (-1)) hx hb hr (fun t ht hW => ⟨_, rfl, (by rw [show ce x2 (Y 8) n = n by rw [ce, if_neg (by omega)], if_neg (by omega)] at hQ; exact hQ), ht⟩) (fun q h => by cases h) dX1_commentEnd_61
          · have c_19 := mt (nI_leI (a := Y 8) (b := n + 1) (by omega) (by omega)).mpr c_19
            refine lv_iload_n hx hb dX1_commentEnd_54 rfl (lv_at hl 1 rfl) ?_
            refine lv_iconst (v := nI 2) hx hb dX1_commentEnd_55 (by decide) ?_
            refine lv_iadd hx hb dX1_commentEnd_56 ?_
            refine lv_topi (fun x_20 e_21 => ?_)
            obtain rfl : x_20 = nI (n + 2) := e_21.trans (nI_add n 2)
            refine lv_goto (tgt := 61) hx hb dX1_commentEnd_57 (by decide) ?_
            exact W.iret (v := nI (n + 2)) hx hb hr (fun t ht hW => ⟨_, rfl, (by rw [show ce x2 (Y 8) n = n by rw [ce, if_neg (by omega)], if_pos (by omega)] at hQ; exact hQ), ht⟩) (fun q h => by cases h) dX1_commentEnd_61
        · have c_16 := mt (sb_eqN (by omega) (by omega)).mpr c_16
          refine lv_iinc (v := nI (n + 1)) (lv' := [(2, .int (nI (n + 1))), (0, .ref (ad 0))]) hx hb dX1_commentEnd_38 hl (k := 1) rfl (by exact nI_add n 1) (by decide) rfl (fun ls hl => ?_)
          refine lv_goto (tgt := 4) hx hb dX1_commentEnd_41 (by decide) ?_
          exact ih (n + 1) (by omega) (by omega) (by rw [show ce x2 (Y 8) n = ce x2 (Y 8) (n + 1) by rw [ce, if_pos (by omega)]] at hQ; exact hQ) _ (lv_sub hl [1, 0] rfl)
set_option maxHeartbeats 4000000 in
set_option maxRecDepth 100000 in
theorem r_commentEnd (l : Launch) (dC : Nat → ClassId) (dI : Nat → Nat → Nat) (ct : Nat → ClassId) (ad : Nat → Nat) (Y x1 x2 x3 x4 x5 x6 x7 x8 x9 : Nat → Nat) (g : Nat) (hg : g < 2 ^ 29) (hlim : Y 8 ≤ 32768) (h2 : ∀ j, x2 j < 256) : Met l yX1_commentEnd wX1_commentEnd ({ frames := 0, cells := 0, slots := 0, locals := 0 }) (va_Pc [.ref (ad 0), .int (nI g)] (rmR dC dI ct ad (Y, x1, x2, x3, x4, x5, x6, x7, x8, x9))) (vp_Si (fun r => r = oI (ceO x2 (Y 8) g))) 0 0 (fun _ => False) := by
  refine Met.ofW (cc := cX1_commentEnd) (maxL := 3) (ret := (some .int)) (by decide) rfl ?_
  intro p e s m args below meth c s₁ B hml hv
  obtain ⟨rfl, hP, hK⟩ := hv
  have hx := B.exec
  have hb := B.bytes
  have hr := B.returns
  have hts : ∀ w ∈ bw, w.before _ s = true := fun w h => atoms_spec (ws := wX1_commentEnd) B.pre w (bc w h)
  have hown : s.vm.findClass RX1 = some m.cls := findClass_of_methodNamed B.named
  have hlocks := B.notSynchronized
  have hl := lv_entry ([.ref (ad 0), .int (nI g)]) (n := 3) (Nat.le_of_ble_eq_true rfl)
  rw [lg_entry_eq]
  generalize (lg_sl ([.ref (ad 0), .int (nI g)]) ++ List.replicate (3 - (lg_sl ([.ref (ad 0), .int (nI g)])).length) Slot.unset).toArray = ls at hl ⊢
  have hl : lv_has ls 3 [(0, .ref (ad 0)), (1, .int (nI g))] := hl
  refine lv_iload_n hx hb dX1_commentEnd_0 rfl (lv_at hl 1 rfl) ?_
  refine lv_iconst (v := nI 2) hx hb dX1_commentEnd_1 (by decide) ?_
  refine lv_iadd hx hb dX1_commentEnd_2 ?_
  refine lv_topi (fun x_1 e_2 => ?_)
  obtain rfl : x_1 = nI (g + 2) := e_2.trans (nI_add g 2)
  refine lv_istore_n (lv' := [(2, .int (nI (g + 2))), (0, .ref (ad 0)), (1, .int (nI g))]) hx hb dX1_commentEnd_3 rfl hl (by decide) rfl (fun ls hl => ?_)
  exact q_commentEnd_4 hx hb hr hml hown hts hlocks hK hP hlim h2 (fun r => r = oI (ceO x2 (Y 8) g)) (Y 8 + 1) (g + 2) (by omega) (by omega) rfl _ (lv_sub hl [1, 0] rfl)
