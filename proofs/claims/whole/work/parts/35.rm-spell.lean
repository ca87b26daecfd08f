def jI (t : Nat) : Int32 := match t with
  | 0 => -1
  | t + 1 => nI t
theorem jI_dec (t : Nat) : nI t + Int32.ofInt (-1) = jI t := by
  cases t with
  | zero => decide
  | succ t => exact pk_m1 t
def spv (a b : Nat) : Nat := a * 2 ^ 8 + b
theorem lor_low {a b : Nat} (hb : b < 256) (ha : a * 2 ^ 8 < 2 ^ 64) : lN (a * 2 ^ 8) ||| lN b = lN (spv a b) := by
  unfold spv
  rw [wb_or ha (by omega), Nat.mul_comm, ← Nat.two_pow_add_eq_or_of_lt (show b < 2 ^ 8 by omega)]
/-- spelling's loop with t bytes to go -/
def spF (x5 x6 x9 : Nat → Nat) (j q : Nat) : Nat → Nat → Nat
  | 0, a => a
  | t + 1, a => spF x5 x6 x9 j q t (spv a (if 8 * q + t < x6 j then x9 (x5 j + (8 * q + t)) else 0))
theorem sp_m {a t : Nat} (ht : t < 8) (ha : a < 2 ^ (8 * (7 - t))) : a * 2 ^ 8 < 2 ^ (8 * (8 - t)) := by
  have h1 : 2 ^ (8 * (8 - t)) = 2 ^ (8 * (7 - t)) * 2 ^ 8 := by rw [← Nat.pow_add]; congr 1; omega
  rw [h1]
  exact Nat.mul_lt_mul_of_pos_right ha (by decide)
theorem sp_64 {t : Nat} : 2 ^ (8 * (8 - t)) ≤ 2 ^ 64 := Nat.pow_le_pow_right (by decide) (by omega)
theorem sp_a {a b t : Nat} (ht : t < 8) (ha : a < 2 ^ (8 * (7 - t))) (hb : b < 256) : spv a b < 2 ^ (8 * (8 - t)) := by
  unfold spv
  have h1 : 2 ^ (8 * (8 - t)) = 2 ^ (8 * (7 - t)) * 2 ^ 8 := by rw [← Nat.pow_add]; congr 1; omega
  rw [h1]
  have h2 : (a + 1) * 2 ^ 8 ≤ 2 ^ (8 * (7 - t)) * 2 ^ 8 := Nat.mul_le_mul_right _ ha
  omega
set_option maxHeartbeats 4000000 in
set_option maxRecDepth 100000 in
theorem q_spelling_6 {p : Program} {l : Launch} {e : Env} {s : State} {m : MethodId} {args : Array Value} {below : List Frame} {meth : Method} {c : Code} (hx : p.tables.exec = Jvm.exec) (hb : c.code = cX1_spelling) (hr : meth.sig.returnType = (some .long)) (hml : c.maxLocals = 6) (hown : s.vm.findClass RX1 = some m.cls) (hts : ∀ w ∈ bw, w.before args s = true) (hlocks : meth.locks = false) {dC : Nat → ClassId} {dI : Nat → Nat → Nat} {ct : Nat → ClassId} {ad : Nat → Nat} {Y x1 x2 x3 x4 x5 x6 x7 x8 x9 : Nat → Nat} (hK : va_K (dC, dI) vwCl (rmT ct) s) (hP : va_P (dC, dI) vwCl (rmW ct ad (Y, x1, x2, x3, x4, x5, x6, x7, x8, x9)) s.heap) (j q : Nat) (hj : j < 8000) (hj13 : j < Y 13) (h13 : Y 13 ≤ 8000) (hs2 : x5 j + x6 j ≤ 32768) (hq : q < 4096) (h9 : ∀ j, x9 j < 256) (P : Int64 → Prop) : ∀ (t a : Nat), t ≤ 8 → a < 2 ^ (8 * (8 - t)) → P (lN (spF x5 x6 x9 j q t a)) → ∀ ls, lv_has ls 6 [(0, .ref (ad 0)), (1, .int (nI j)), (2, .int (nI q)), (3, .long (lN a)), (5, .int (jI t))] → W p l e (headSpec wX1_spelling ({ frames := 1, cells := 0, slots := 0, locals := 22 })).room s m args below meth c s.heap [] 0 0 (MQ below (vp_Sl P) args s 0 0 (fun _ => False)) (F0 m 6 ls []) := by
  intro t
  induction t with
  | zero =>
    intro a ht ha hQ ls hl
    have hl : lv_has ls 6 [(0, .ref (ad 0)), (1, .int (nI j)), (2, .int (nI q)), (3, .long (lN a)), (5, .int ((-1)))] := hl
    refine lv_iload hx hb dX1_spelling_6 (lv_at hl 4 rfl) ?_
    refine lv_if_lt (tgt := 79) hx hb dX1_spelling_8 (by decide) (fun c_1 => ?_) (fun c_1 => ?_)
    · refine lv_lload_n hx hb dX1_spelling_79 rfl (lv_at hl 3 rfl) ?_
      exact W.lret (v := lN a) hx hb hr (fun t ht hW => ⟨_, rfl, hQ, ht⟩) (fun q h => by cases h) dX1_spelling_80
    · exact absurd (by decide) c_1
  | succ t ih =>
    intro a ht ha hQ ls hl
    have ha : a < 2 ^ (8 * (7 - t)) := by rw [show 8 - (t + 1) = 7 - t by omega] at ha; exact ha
    have hm := sp_m (by omega) ha
    have h64 := @sp_64 t
    have hl : lv_has ls 6 [(0, .ref (ad 0)), (1, .int (nI j)), (2, .int (nI q)), (3, .long (lN a)), (5, .int (nI t))] := hl
    refine lv_iload hx hb dX1_spelling_6 (lv_at hl 4 rfl) ?_
    refine lv_if_lt (tgt := 79) hx hb dX1_spelling_8 (by decide) (fun c_1 => ?_) (fun c_1 => ?_)
    · have c_1 := (nI_ltI (a := t) (b := 0) (by omega) (by omega)).mp c_1
      omega
    · have c_1 := mt (nI_ltI (a := t) (b := 0) (by omega) (by omega)).mpr c_1
      refine lv_iload_n hx hb dX1_spelling_11 rfl (lv_at hl 1 rfl) ?_
      refine lv_if_lt (tgt := 79) hx hb dX1_spelling_12 (by decide) (fun c_2 => ?_) (fun c_2 => ?_)
      · have c_2 := (nI_ltI (a := j) (b := 0) (by omega) (by omega)).mp c_2
        omega
      · have c_2 := mt (nI_ltI (a := j) (b := 0) (by omega) (by omega)).mpr c_2
        refine lv_iload_n hx hb dX1_spelling_15 rfl (lv_at hl 1 rfl) ?_
        refine lv_aload_n hx hb dX1_spelling_16 rfl (lv_at hl 0 rfl) ?_
        refine va_get (D := (dC, dI)) (ci := 1) (v := .int (nI (Y 13))) (C := RX1) (T := TX1) (N := 20) hx hb hts inX1 hown hK hP 0 rfl rfl 13 (by decide) (hts _ fl_X1_66) (fun _ h9 => h9) rfl dX1_spelling_17 ?_
        refine lv_icmp_ge (tgt := 79) hx hb dX1_spelling_20 (by decide) (fun c_3 => ?_) (fun c_3 => ?_)
        · have c_3 := (nI_leI (a := Y 13) (b := j) (by omega) (by omega)).mp c_3
          omega
        · have c_3 := mt (nI_leI (a := Y 13) (b := j) (by omega) (by omega)).mpr c_3
          refine lv_iload_n hx hb dX1_spelling_23 rfl (lv_at hl 2 rfl) ?_
          refine lv_if_lt (tgt := 79) hx hb dX1_spelling_24 (by decide) (fun c_4 => ?_) (fun c_4 => ?_)
          · have c_4 := (nI_ltI (a := q) (b := 0) (by omega) (by omega)).mp c_4
            omega
          · have c_4 := mt (nI_ltI (a := q) (b := 0) (by omega) (by omega)).mpr c_4
            refine lv_iload_n hx hb dX1_spelling_27 rfl (lv_at hl 2 rfl) ?_
            refine lv_sipush (v := nI 4096) hx hb dX1_spelling_28 (by decide) ?_
            refine lv_icmp_ge (tgt := 79) hx hb dX1_spelling_31 (by decide) (fun c_5 => ?_) (fun c_5 => ?_)
            · have c_5 := (nI_leI (a := 4096) (b := q) (by omega) (by omega)).mp c_5
              omega
            · have c_5 := mt (nI_leI (a := 4096) (b := q) (by omega) (by omega)).mpr c_5
              refine lv_lload_n hx hb dX1_spelling_34 rfl (lv_at hl 3 rfl) ?_
              refine lv_bipush (v := nI 8) hx hb dX1_spelling_35 (by decide) ?_
              refine lv_lshl (v := lN (a * 2 ^ 8)) hx hb dX1_spelling_37 (wb_shl _ (by omega)) ?_
              refine lv_bipush (v := nI 8) hx hb dX1_spelling_38 (by decide) ?_
              refine lv_iload_n hx hb dX1_spelling_40 rfl (lv_at hl 2 rfl) ?_
              refine lv_imul hx hb dX1_spelling_41 ?_
              refine lv_topi (fun x_6 e_7 => ?_)
              obtain rfl : x_6 = nI (8 * q) := e_7.trans (pk_mul 8 q)
              refine lv_iload hx hb dX1_spelling_42 (lv_at hl 4 rfl) ?_
              refine lv_iadd hx hb dX1_spelling_44 ?_
              refine lv_topi (fun x_8 e_9 => ?_)
              obtain rfl : x_8 = nI (8 * q + t) := e_9.trans (nI_add (8 * q) t)
              refine lv_aload_n hx hb dX1_spelling_45 rfl (lv_at hl 0 rfl) ?_
              refine va_get (D := (dC, dI)) (ci := 1) (v := .ref (ad 6)) (C := RX1) (T := TX1) (N := 20) hx hb hts inX1 hown hK hP 0 rfl rfl 15 (by decide) (hts _ fl_X1_27) (fun _ h9 => h9) rfl dX1_spelling_46 ?_
              refine lv_iload_n hx hb dX1_spelling_49 rfl (lv_at hl 1 rfl) ?_
              refine va_iald hx hb hK hP 6 1 rfl rfl (vp_in_nI (by omega) (by decide)) dX1_spelling_50 ?_
              refine lv_topi (fun x_10 e_11 => ?_)
              obtain rfl : x_10 = nI (x6 j) := e_11.trans (by rw [nI_clamp (by omega)])
              refine lv_icmp_ge (tgt := 69) hx hb dX1_spelling_51 (by decide) (fun c_12 => ?_) (fun c_12 => ?_)
              · have c_12 := (nI_leI (a := x6 j) (b := 8 * q + t) (by omega) (by omega)).mp c_12
                refine lv_iconst (v := nI 0) hx hb dX1_spelling_69 (by decide) ?_
                refine lv_i2l (v := lN 0) hx hb dX1_spelling_70 (nI_l (by omega)) ?_
                refine lv_lor hx hb dX1_spelling_71 ?_
                refine lv_topl (fun x_13 e_14 => ?_)
                obtain rfl : x_13 = lN (spv a 0) := e_14.trans (lor_low (by omega) (by omega))
                refine lv_lstore_n (lv' := [(3, .long (lN (spv a 0))), (0, .ref (ad 0)), (1, .int (nI j)), (2, .int (nI q)), (5, .int (nI t))]) hx hb dX1_spelling_72 rfl hl (by decide) rfl (fun ls hl => ?_)
                refine lv_iinc (v := jI t) (lv' := [(5, .int (jI t)), (3, .long (lN (spv a 0))), (0, .ref (ad 0)), (1, .int (nI j)), (2, .int (nI q))]) hx hb dX1_spelling_73 hl (k := 4) rfl (jI_dec t) (by decide) rfl (fun ls hl => ?_)
                refine lv_goto (tgt := 6) hx hb dX1_spelling_76 (by decide) ?_
                rw [spF, if_neg (by omega)] at hQ
                exact ih (spv a 0) (by omega) (sp_a (by omega) ha (by omega)) hQ _ (lv_sub hl [2, 3, 4, 1, 0] rfl)
              · have c_12 := mt (nI_leI (a := x6 j) (b := 8 * q + t) (by omega) (by omega)).mpr c_12
                refine lv_aload_n hx hb dX1_spelling_54 rfl (lv_at hl 0 rfl) ?_
                refine lv_iload_n hx hb dX1_spelling_55 rfl (lv_at hl 1 rfl) ?_
                refine lv_bipush (v := nI 8) hx hb dX1_spelling_56 (by decide) ?_
                refine lv_iload_n hx hb dX1_spelling_58 rfl (lv_at hl 2 rfl) ?_
                refine lv_imul hx hb dX1_spelling_59 ?_
                refine lv_topi (fun x_15 e_16 => ?_)
                obtain rfl : x_15 = nI (8 * q) := e_16.trans (pk_mul 8 q)
                refine lv_iload hx hb dX1_spelling_60 (lv_at hl 4 rfl) ?_
                refine lv_iadd hx hb dX1_spelling_62 ?_
                refine lv_topi (fun x_17 e_18 => ?_)
                obtain rfl : x_17 = nI (8 * q + t) := e_18.trans (nI_add (8 * q) t)
                refine vp_callSi (va_Run.run (va_runV (As := [.int (nI j), .int (nI (8 * q + t))]) (rest := [.long (lN (a * 2 ^ 8))]) ⟨hx, hb, hml, hown, hts⟩ (r_byteOf l dC dI ct ad Y x1 x2 x3 x4 x5 x6 x7 x8 x9 j (8 * q + t) (show j < 8000 by omega) (show x5 j + (8 * q + t) < 32768 by omega) h9) (cwV 2 hts (gV (fun _ h => h) ml_X1_136 im_X1_byteOf se_X1_byteOf ini_X1 co_X1_byteOf) rfl rfl rfl pd_X1_byteOf ⟨Nat.le_of_ble_eq_true rfl, Nat.le_of_ble_eq_true rfl⟩) (rm_preR hK hP) rfl rfl hl.1 rfl (lv_room (Nat.le_of_ble_eq_true rfl)) dX1_spelling_63 ⟨Nat.zero_le _, Nat.zero_le _⟩)) (fun r_19 (e_20 : r_19 = nI (x9 (x5 j + (8 * q + t)))) => ?_)
                subst e_20
                have := h9 (x5 j + (8 * q + t))
                refine lv_goto (tgt := 70) hx hb dX1_spelling_66 (by decide) ?_
                refine lv_i2l (v := lN (x9 (x5 j + (8 * q + t)))) hx hb dX1_spelling_70 (nI_l (by omega)) ?_
                refine lv_lor hx hb dX1_spelling_71 ?_
                refine lv_topl (fun x_21 e_22 => ?_)
                obtain rfl : x_21 = lN (spv a (x9 (x5 j + (8 * q + t)))) := e_22.trans (lor_low (by omega) (by omega))
                refine lv_lstore_n (lv' := [(3, .long (lN (spv a (x9 (x5 j + (8 * q + t)))))), (0, .ref (ad 0)), (1, .int (nI j)), (2, .int (nI q)), (5, .int (nI t))]) hx hb dX1_spelling_72 rfl hl (by decide) rfl (fun ls hl => ?_)
                refine lv_iinc (v := jI t) (lv' := [(5, .int (jI t)), (3, .long (lN (spv a (x9 (x5 j + (8 * q + t)))))), (0, .ref (ad 0)), (1, .int (nI j)), (2, .int (nI q))]) hx hb dX1_spelling_73 hl (k := 4) rfl (jI_dec t) (by decide) rfl (fun ls hl => ?_)
                refine lv_goto (tgt := 6) hx hb dX1_spelling_76 (by decide) ?_
                rw [spF, if_pos (by omega)] at hQ
                exact ih (spv a (x9 (x5 j + (8 * q + t)))) (by omega) (sp_a (by omega) ha (by omega)) hQ _ (lv_sub hl [2, 3, 4, 1, 0] rfl)
set_option maxHeartbeats 4000000 in
set_option maxRecDepth 100000 in
theorem r_spelling_out (l : Launch) (dC : Nat → ClassId) (dI : Nat → Nat → Nat) (ct : Nat → ClassId) (ad : Nat → Nat) (Y x1 x2 x3 x4 x5 x6 x7 x8 x9 : Nat → Nat) (i : Int32) (w : Int32) (h : i < 0 ∨ nI (Y 13) ≤ i) : Met l yX1_spelling wX1_spelling ({ frames := 1, cells := 0, slots := 0, locals := 22 }) (va_Pc [.ref (ad 0), .int (i), .int (w)] (rmR dC dI ct ad (Y, x1, x2, x3, x4, x5, x6, x7, x8, x9))) (vp_Sl (fun r => r = lN 0)) 0 0 (fun _ => False) := by
  refine Met.ofW (cc := cX1_spelling) (maxL := 6) (ret := (some .long)) (by decide) rfl ?_
  intro p e s m args below meth c s₁ B hml hv
  obtain ⟨rfl, hP, hK⟩ := hv
  have hx := B.exec
  have hb := B.bytes
  have hr := B.returns
  have hts : ∀ w ∈ bw, w.before _ s = true := fun w h => atoms_spec (ws := wX1_spelling) B.pre w (bc w h)
  have hown : s.vm.findClass RX1 = some m.cls := findClass_of_methodNamed B.named
  have hlocks := B.notSynchronized
  have hl := lv_entry ([.ref (ad 0), .int (i), .int (w)]) (n := 6) (Nat.le_of_ble_eq_true rfl)
  rw [lg_entry_eq]
  generalize (lg_sl ([.ref (ad 0), .int (i), .int (w)]) ++ List.replicate (6 - (lg_sl ([.ref (ad 0), .int (i), .int (w)])).length) Slot.unset).toArray = ls at hl ⊢
  have hl : lv_has ls 6 [(0, .ref (ad 0)), (1, .int (i)), (2, .int (w))] := hl
  refine lv_lconst (v := lN 0) hx hb dX1_spelling_0 (by decide) ?_
  refine lv_lstore_n (lv' := [(3, .long (lN 0)), (0, .ref (ad 0)), (1, .int (i)), (2, .int (w))]) hx hb dX1_spelling_1 rfl hl (by decide) rfl (fun ls hl => ?_)
  refine lv_bipush (v := nI 7) hx hb dX1_spelling_2 (by decide) ?_
  refine lv_istore (lv' := [(5, .int (nI 7)), (3, .long (lN 0)), (0, .ref (ad 0)), (1, .int (i)), (2, .int (w))]) hx hb dX1_spelling_4 hl (by decide) rfl (fun ls hl => ?_)
  refine lv_iload hx hb dX1_spelling_6 (lv_at hl 0 rfl) ?_
  refine lv_if_lt (tgt := 79) hx hb dX1_spelling_8 (by decide) (fun c_1 => ?_) (fun c_1 => ?_)
  · have c_1 := (nI_ltI (a := 7) (b := 0) (by omega) (by omega)).mp c_1
    omega
  · have c_1 := mt (nI_ltI (a := 7) (b := 0) (by omega) (by omega)).mpr c_1
    refine lv_iload_n hx hb dX1_spelling_11 rfl (lv_at hl 3 rfl) ?_
    refine lv_if_lt (tgt := 79) hx hb dX1_spelling_12 (by decide) (fun c_2 => ?_) (fun c_2 => ?_)
    · refine lv_lload_n hx hb dX1_spelling_79 rfl (lv_at hl 1 rfl) ?_
      exact W.lret (v := lN 0) hx hb hr (fun t ht hW => ⟨_, rfl, rfl, ht⟩) (fun q h => by cases h) dX1_spelling_80
    · refine lv_iload_n hx hb dX1_spelling_15 rfl (lv_at hl 3 rfl) ?_
      refine lv_aload_n hx hb dX1_spelling_16 rfl (lv_at hl 2 rfl) ?_
      refine va_get (D := (dC, dI)) (ci := 1) (v := .int (nI (Y 13))) (C := RX1) (T := TX1) (N := 20) hx hb hts inX1 hown hK hP 0 rfl rfl 13 (by decide) (hts _ fl_X1_66) (fun _ h9 => h9) rfl dX1_spelling_17 ?_
      refine lv_icmp_ge (tgt := 79) hx hb dX1_spelling_20 (by decide) (fun c_3 => ?_) (fun c_3 => ?_)
      · refine lv_lload_n hx hb dX1_spelling_79 rfl (lv_at hl 1 rfl) ?_
        exact W.lret (v := lN 0) hx hb hr (fun t ht hW => ⟨_, rfl, rfl, ht⟩) (fun q h => by cases h) dX1_spelling_80
      · exact (h.elim c_2 c_3).elim
set_option maxHeartbeats 4000000 in
set_option maxRecDepth 100000 in
theorem r_spelling_far (l : Launch) (dC : Nat → ClassId) (dI : Nat → Nat → Nat) (ct : Nat → ClassId) (ad : Nat → Nat) (Y x1 x2 x3 x4 x5 x6 x7 x8 x9 : Nat → Nat) (j : Nat) (w : Int32) (hj13 : j < Y 13) (h13 : Y 13 ≤ 8000) (h : w < 0 ∨ nI 4096 ≤ w) : Met l yX1_spelling wX1_spelling ({ frames := 1, cells := 0, slots := 0, locals := 22 }) (va_Pc [.ref (ad 0), .int (nI j), .int (w)] (rmR dC dI ct ad (Y, x1, x2, x3, x4, x5, x6, x7, x8, x9))) (vp_Sl (fun r => r = lN 0)) 0 0 (fun _ => False) := by
  refine Met.ofW (cc := cX1_spelling) (maxL := 6) (ret := (some .long)) (by decide) rfl ?_
  intro p e s m args below meth c s₁ B hml hv
  obtain ⟨rfl, hP, hK⟩ := hv
  have hx := B.exec
  have hb := B.bytes
  have hr := B.returns
  have hts : ∀ w ∈ bw, w.before _ s = true := fun w h => atoms_spec (ws := wX1_spelling) B.pre w (bc w h)
  have hown : s.vm.findClass RX1 = some m.cls := findClass_of_methodNamed B.named
  have hlocks := B.notSynchronized
  have hl := lv_entry ([.ref (ad 0), .int (nI j), .int (w)]) (n := 6) (Nat.le_of_ble_eq_true rfl)
  rw [lg_entry_eq]
  generalize (lg_sl ([.ref (ad 0), .int (nI j), .int (w)]) ++ List.replicate (6 - (lg_sl ([.ref (ad 0), .int (nI j), .int (w)])).length) Slot.unset).toArray = ls at hl ⊢
  have hl : lv_has ls 6 [(0, .ref (ad 0)), (1, .int (nI j)), (2, .int (w))] := hl
  refine lv_lconst (v := lN 0) hx hb dX1_spelling_0 (by decide) ?_
  refine lv_lstore_n (lv' := [(3, .long (lN 0)), (0, .ref (ad 0)), (1, .int (nI j)), (2, .int (w))]) hx hb dX1_spelling_1 rfl hl (by decide) rfl (fun ls hl => ?_)
  refine lv_bipush (v := nI 7) hx hb dX1_spelling_2 (by decide) ?_
  refine lv_istore (lv' := [(5, .int (nI 7)), (3, .long (lN 0)), (0, .ref (ad 0)), (1, .int (nI j)), (2, .int (w))]) hx hb dX1_spelling_4 hl (by decide) rfl (fun ls hl => ?_)
  refine lv_iload hx hb dX1_spelling_6 (lv_at hl 0 rfl) ?_
  refine lv_if_lt (tgt := 79) hx hb dX1_spelling_8 (by decide) (fun c_1 => ?_) (fun c_1 => ?_)
  · have c_1 := (nI_ltI (a := 7) (b := 0) (by omega) (by omega)).mp c_1
    omega
  · have c_1 := mt (nI_ltI (a := 7) (b := 0) (by omega) (by omega)).mpr c_1
    refine lv_iload_n hx hb dX1_spelling_11 rfl (lv_at hl 3 rfl) ?_
    refine lv_if_lt (tgt := 79) hx hb dX1_spelling_12 (by decide) (fun c_2 => ?_) (fun c_2 => ?_)
    · have c_2 := (nI_ltI (a := j) (b := 0) (by omega) (by omega)).mp c_2
      refine lv_lload_n hx hb dX1_spelling_79 rfl (lv_at hl 1 rfl) ?_
      exact W.lret (v := lN 0) hx hb hr (fun t ht hW => ⟨_, rfl, rfl, ht⟩) (fun q h => by cases h) dX1_spelling_80
    · have c_2 := mt (nI_ltI (a := j) (b := 0) (by omega) (by omega)).mpr c_2
      refine lv_iload_n hx hb dX1_spelling_15 rfl (lv_at hl 3 rfl) ?_
      refine lv_aload_n hx hb dX1_spelling_16 rfl (lv_at hl 2 rfl) ?_
      refine va_get (D := (dC, dI)) (ci := 1) (v := .int (nI (Y 13))) (C := RX1) (T := TX1) (N := 20) hx hb hts inX1 hown hK hP 0 rfl rfl 13 (by decide) (hts _ fl_X1_66) (fun _ h9 => h9) rfl dX1_spelling_17 ?_
      refine lv_icmp_ge (tgt := 79) hx hb dX1_spelling_20 (by decide) (fun c_3 => ?_) (fun c_3 => ?_)
      · have c_3 := (nI_leI (a := Y 13) (b := j) (by omega) (by omega)).mp c_3
        refine lv_lload_n hx hb dX1_spelling_79 rfl (lv_at hl 1 rfl) ?_
        exact W.lret (v := lN 0) hx hb hr (fun t ht hW => ⟨_, rfl, rfl, ht⟩) (fun q h => by cases h) dX1_spelling_80
      · have c_3 := mt (nI_leI (a := Y 13) (b := j) (by omega) (by omega)).mpr c_3
        refine lv_iload_n hx hb dX1_spelling_23 rfl (lv_at hl 4 rfl) ?_
        refine lv_if_lt (tgt := 79) hx hb dX1_spelling_24 (by decide) (fun c_4 => ?_) (fun c_4 => ?_)
        · refine lv_lload_n hx hb dX1_spelling_79 rfl (lv_at hl 1 rfl) ?_
          exact W.lret (v := lN 0) hx hb hr (fun t ht hW => ⟨_, rfl, rfl, ht⟩) (fun q h => by cases h) dX1_spelling_80
        · refine lv_iload_n hx hb dX1_spelling_27 rfl (lv_at hl 4 rfl) ?_
          refine lv_sipush (v := nI 4096) hx hb dX1_spelling_28 (by decide) ?_
          refine lv_icmp_ge (tgt := 79) hx hb dX1_spelling_31 (by decide) (fun c_5 => ?_) (fun c_5 => ?_)
          · refine lv_lload_n hx hb dX1_spelling_79 rfl (lv_at hl 1 rfl) ?_
            exact W.lret (v := lN 0) hx hb hr (fun t ht hW => ⟨_, rfl, rfl, ht⟩) (fun q h => by cases h) dX1_spelling_80
          · exact (h.elim c_4 c_5).elim
set_option maxHeartbeats 4000000 in
set_option maxRecDepth 100000 in
theorem r_spelling_in (l : Launch) (dC : Nat → ClassId) (dI : Nat → Nat → Nat) (ct : Nat → ClassId) (ad : Nat → Nat) (Y x1 x2 x3 x4 x5 x6 x7 x8 x9 : Nat → Nat) (j : Nat) (q : Nat) (hj : j < 8000) (hj13 : j < Y 13) (h13 : Y 13 ≤ 8000) (hs2 : x5 j + x6 j ≤ 32768) (hq : q < 4096) (h9 : ∀ j, x9 j < 256) : Met l yX1_spelling wX1_spelling ({ frames := 1, cells := 0, slots := 0, locals := 22 }) (va_Pc [.ref (ad 0), .int (nI j), .int (nI q)] (rmR dC dI ct ad (Y, x1, x2, x3, x4, x5, x6, x7, x8, x9))) (vp_Sl (fun r => r = lN (spF x5 x6 x9 j q 8 0))) 0 0 (fun _ => False) := by
  refine Met.ofW (cc := cX1_spelling) (maxL := 6) (ret := (some .long)) (by decide) rfl ?_
  intro p e s m args below meth c s₁ B hml hv
  obtain ⟨rfl, hP, hK⟩ := hv
  have hx := B.exec
  have hb := B.bytes
  have hr := B.returns
  have hts : ∀ w ∈ bw, w.before _ s = true := fun w h => atoms_spec (ws := wX1_spelling) B.pre w (bc w h)
  have hown : s.vm.findClass RX1 = some m.cls := findClass_of_methodNamed B.named
  have hlocks := B.notSynchronized
  have hl := lv_entry ([.ref (ad 0), .int (nI j), .int (nI q)]) (n := 6) (Nat.le_of_ble_eq_true rfl)
  rw [lg_entry_eq]
  generalize (lg_sl ([.ref (ad 0), .int (nI j), .int (nI q)]) ++ List.replicate (6 - (lg_sl ([.ref (ad 0), .int (nI j), .int (nI q)])).length) Slot.unset).toArray = ls at hl ⊢
  have hl : lv_has ls 6 [(0, .ref (ad 0)), (1, .int (nI j)), (2, .int (nI q))] := hl
  refine lv_lconst (v := lN 0) hx hb dX1_spelling_0 (by decide) ?_
  refine lv_lstore_n (lv' := [(3, .long (lN 0)), (0, .ref (ad 0)), (1, .int (nI j)), (2, .int (nI q))]) hx hb dX1_spelling_1 rfl hl (by decide) rfl (fun ls hl => ?_)
  refine lv_bipush (v := nI 7) hx hb dX1_spelling_2 (by decide) ?_
  refine lv_istore (lv' := [(5, .int (nI 7)), (3, .long (lN 0)), (0, .ref (ad 0)), (1, .int (nI j)), (2, .int (nI q))]) hx hb dX1_spelling_4 hl (by decide) rfl (fun ls hl => ?_)
  exact q_spelling_6 hx hb hr hml hown hts hlocks hK hP j q hj hj13 h13 hs2 hq h9 (fun r => r = lN (spF x5 x6 x9 j q 8 0)) 8 0 (by decide) (by decide) rfl _ (lv_sub hl [2, 3, 4, 1, 0] rfl)
