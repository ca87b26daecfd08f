set_option maxHeartbeats 4000000 in
set_option maxRecDepth 100000 in
theorem c_byteAt (l : Launch) (dC : Nat → ClassId) (dI : Nat → Nat → Nat) (cA : ClassId) (a0 a1 a2 : Nat) (Z : Nat → Nat) (T K : Nat → Int64) (q : Nat) (hn : Z 2 ≤ 32768) (hq : q < 2 ^ 31) : Met l yX0_byteAt wX0_byteAt ({ frames := 0, cells := 0, slots := 0, locals := 0 }) (va_Pc [.ref a0, .int (nI q)] (lmR dC dI cA a0 a1 a2 (Z, T, K))) (vp_Si (fun r => r = bI (gb T (Z 2) q))) 0 0 (fun _ => False) := by
  refine Met.ofW (cc := cX0_byteAt) (maxL := 3) (ret := (some .int)) (by decide) rfl ?_
  intro p e s m args below meth c s₁ B hml hv
  obtain ⟨rfl, hP, hK⟩ := hv
  have hx := B.exec
  have hb := B.bytes
  have hr := B.returns
  have hts : ∀ w ∈ bw, w.before _ s = true := fun w h => atoms_spec (ws := wX0_byteAt) B.pre w (bc w h)
  have hown : s.vm.findClass RX0 = some m.cls := findClass_of_methodNamed B.named
  have hlocks := B.notSynchronized
  have hl := lv_entry ([.ref a0, .int (nI q)]) (n := 3) (Nat.le_of_ble_eq_true rfl)
  rw [lg_entry_eq]
  generalize (lg_sl ([.ref a0, .int (nI q)]) ++ List.replicate (3 - (lg_sl ([.ref a0, .int (nI q)])).length) Slot.unset).toArray = ls at hl ⊢
  have hl : lv_has ls 3 [(0, .ref a0), (1, .int (nI q))] := hl
  refine lv_iload_n hx hb dX0_byteAt_0 rfl (lv_at hl 1 rfl) ?_
  refine lv_iconst (v := nI 3) hx hb dX0_byteAt_1 (by decide) ?_
  refine lv_ishr hx hb dX0_byteAt_2 ?_
  refine lv_topi (fun x_1 e_2 => ?_)
  obtain rfl : x_1 = nI (q / 8) := e_2.trans (pk_shrN (by omega) _ 3 (by decide))
  refine lv_istore_n (lv' := [(2, .int (nI (q / 8))), (0, .ref a0), (1, .int (nI q))]) hx hb dX0_byteAt_3 rfl hl (by decide) rfl (fun ls hl => ?_)
  refine lv_iload_n hx hb dX0_byteAt_4 rfl (lv_at hl 2 rfl) ?_
  refine lv_if_lt (tgt := 25) hx hb dX0_byteAt_5 (by decide) (fun c_3 => ?_) (fun c_3 => ?_)
  · have c_3 := (nI_ltI (a := q) (b := 0) (by omega) (by omega)).mp c_3
    refine lv_iconst (v := (-1)) hx hb dX0_byteAt_25 (by decide) ?_
    exact W.iret (v := (-1)) hx hb hr (fun t ht hW => ⟨_, rfl, (by rw [gb_hi (by omega)]; rfl), ht⟩) (fun q h => by cases h) dX0_byteAt_26
  · have c_3 := mt (nI_ltI (a := q) (b := 0) (by omega) (by omega)).mpr c_3
    refine lv_iload_n hx hb dX0_byteAt_8 rfl (lv_at hl 2 rfl) ?_
    refine lv_aload_n hx hb dX0_byteAt_9 rfl (lv_at hl 1 rfl) ?_
    refine va_get (D := (dC, dI)) (ci := 0) (v := .int (nI (Z 2))) (C := RX0) (T := TX0) (N := 16) hx hb hts inX0 hown hK hP 0 rfl rfl 2 (by decide) (hts _ fl_X0_19) (fun _ h9 => h9) rfl dX0_byteAt_10 ?_
    refine lv_icmp_ge (tgt := 25) hx hb dX0_byteAt_13 (by decide) (fun c_4 => ?_) (fun c_4 => ?_)
    · have c_4 := (nI_leI (a := Z 2) (b := q) (by omega) (by omega)).mp c_4
      refine lv_iconst (v := (-1)) hx hb dX0_byteAt_25 (by decide) ?_
      exact W.iret (v := (-1)) hx hb hr (fun t ht hW => ⟨_, rfl, (by rw [gb_hi (by omega)]; rfl), ht⟩) (fun q h => by cases h) dX0_byteAt_26
    · have c_4 := mt (nI_leI (a := Z 2) (b := q) (by omega) (by omega)).mpr c_4
      refine lv_iload_n hx hb dX0_byteAt_16 rfl (lv_at hl 0 rfl) ?_
      refine lv_aload_n hx hb dX0_byteAt_17 rfl (lv_at hl 1 rfl) ?_
      refine va_get (D := (dC, dI)) (ci := 0) (v := .ref a1) (C := RX0) (T := TX0) (N := 16) hx hb hts inX0 hown hK hP 0 rfl rfl 0 (by decide) (hts _ fl_X0_9) (fun _ h9 => h9) rfl dX0_byteAt_18 ?_
      refine va_alen hx hb hK hP 1 0 rfl rfl (v := nI 4096) rfl dX0_byteAt_21 ?_
      refine lv_icmp_lt (tgt := 27) hx hb dX0_byteAt_22 (by decide) (fun c_5 => ?_) (fun c_5 => ?_)
      · have c_5 := (nI_ltI (a := q / 8) (b := 4096) (by omega) (by omega)).mp c_5
        refine lv_aload_n hx hb dX0_byteAt_27 rfl (lv_at hl 1 rfl) ?_
        refine va_get (D := (dC, dI)) (ci := 0) (v := .ref a1) (C := RX0) (T := TX0) (N := 16) hx hb hts inX0 hown hK hP 0 rfl rfl 0 (by decide) (hts _ fl_X0_9) (fun _ h9 => h9) rfl dX0_byteAt_28 ?_
        refine lv_iload_n hx hb dX0_byteAt_31 rfl (lv_at hl 0 rfl) ?_
        refine va_lald hx hb hK hP 1 0 rfl rfl (vp_in_nI (by omega) (by decide)) dX0_byteAt_32 ?_
        refine lv_topl (fun x_6 e_7 => ?_)
        obtain rfl : x_6 = lN (tn (T (q / 8))) := e_7.trans (by rw [nI_clamp (by omega), tn_lN])
        refine lv_iload_n hx hb dX0_byteAt_33 rfl (lv_at hl 2 rfl) ?_
        refine lv_bipush (v := nI 7) hx hb dX0_byteAt_34 (by decide) ?_
        refine lv_iand hx hb dX0_byteAt_36 ?_
        refine lv_topi (fun x_8 e_9 => ?_)
        obtain rfl : x_8 = nI (q % 8) := e_9.trans (nI_mask q 3 (by decide) (by decide))
        refine lv_iconst (v := nI 3) hx hb dX0_byteAt_37 (by decide) ?_
        refine lv_ishl hx hb dX0_byteAt_38 ?_
        refine lv_topi (fun x_10 e_11 => ?_)
        obtain rfl : x_10 = nI ((q % 8) * 8) := e_11.trans (pk_shlN _ 3 (by decide) (by omega))
        refine lv_lushr (v := lN ((tn (T (q / 8))) / 2 ^ ((q % 8) * 8))) hx hb dX0_byteAt_39 (wb_shr (by first | exact tn_lt _ | omega) (by omega)) ?_
        refine lv_l2i (v := nI ((tn (T (q / 8))) / 2 ^ ((q % 8) * 8))) hx hb dX0_byteAt_40 (lN_i _) ?_
        refine lv_sipush (v := nI 255) hx hb dX0_byteAt_41 (by decide) ?_
        refine lv_iand hx hb dX0_byteAt_44 ?_
        refine lv_topi (fun x_12 e_13 => ?_)
        obtain rfl : x_12 = nI (((tn (T (q / 8))) / 2 ^ ((q % 8) * 8)) % 256) := e_13.trans (nI_mask ((tn (T (q / 8))) / 2 ^ ((q % 8) * 8)) 8 (by decide) (by decide))
        exact W.iret (v := nI (((tn (T (q / 8))) / 2 ^ ((q % 8) * 8)) % 256)) hx hb hr (fun t ht hW => ⟨_, rfl, (by rw [gb_lo (by omega), bI_lo (byt_lt _ _), byt, Nat.mul_comm 8]), ht⟩) (fun q h => by cases h) dX0_byteAt_45
      · have c_5 := mt (nI_ltI (a := q / 8) (b := 4096) (by omega) (by omega)).mpr c_5
        refine lv_iconst (v := (-1)) hx hb dX0_byteAt_25 (by decide) ?_
        exact W.iret (v := (-1)) hx hb hr (fun t ht hW => ⟨_, rfl, (by rw [gb_hi (by omega)]; rfl), ht⟩) (fun q h => by cases h) dX0_byteAt_26
set_option maxHeartbeats 4000000 in
set_option maxRecDepth 100000 in
theorem k_leftFrom_2 {p : Program} {l : Launch} {e : Env} {s : State} {m : MethodId} {args : Array Value} {below : List Frame} {meth : Method} {c : Code} (hx : p.tables.exec = Jvm.exec) (hb : c.code = cX0_leftFrom) (hr : meth.sig.returnType = (some .int)) (hml : c.maxLocals = 3) (hown : s.vm.findClass RX0 = some m.cls) (hts : ∀ w ∈ bw, w.before args s = true) (hlocks : meth.locks = false) {dC : Nat → ClassId} {dI : Nat → Nat → Nat} {cA : ClassId} {a0 a1 a2 : Nat} {Z : Nat → Nat} {T K : Nat → Int64} (hK : va_K (dC, dI) vwCl [(cA, .long)] s) (hP : va_P (dC, dI) vwCl (lmW cA a0 a1 a2 (Z, T, K)) s.heap)  (hn : Z 2 ≤ 32768) (P : Int32 → Prop) : ∀ (k : Nat) (q : Nat), Z 2 - q < k → q < 2 ^ 30 → P (nI (lf T (Z 2) q)) → ∀ ls, lv_has ls 3 [(0, .ref a0), (2, .int (nI q))] → W p l e (headSpec wX0_leftFrom ({ frames := 1, cells := 0, slots := 0, locals := 22 })).room s m args below meth c s.heap [] 0 0 (MQ below (vp_Si P) args s 0 0 (fun _ => False)) (F0 m 2 ls []) := by
  intro k
  induction k with
  | zero => intro q hk; exact absurd hk (by omega)
  | succ k ih =>
    intro q hk hq hQ ls hl
    refine lv_iload_n hx hb dX0_leftFrom_2 rfl (lv_at hl 1 rfl) ?_
    refine lv_iconst (v := nI 1) hx hb dX0_leftFrom_3 (by decide) ?_
    refine lv_iadd hx hb dX0_leftFrom_4 ?_
    refine lv_topi (fun x_1 e_2 => ?_)
    obtain rfl : x_1 = nI (q + 1) := e_2.trans (nI_add q 1)
    refine lv_aload_n hx hb dX0_leftFrom_5 rfl (lv_at hl 0 rfl) ?_
    refine va_get (D := (dC, dI)) (ci := 0) (v := .int (nI (Z 2))) (C := RX0) (T := TX0) (N := 16) hx hb hts inX0 hown hK hP 0 rfl rfl 2 (by decide) (hts _ fl_X0_19) (fun _ h9 => h9) rfl dX0_leftFrom_6 ?_
    refine lv_icmp_ge (tgt := 40) hx hb dX0_leftFrom_9 (by decide) (fun c_3 => ?_) (fun c_3 => ?_)
    · have c_3 := (nI_leI (a := Z 2) (b := q + 1) (by omega) (by omega)).mp c_3
      refine lv_iload_n hx hb dX0_leftFrom_40 rfl (lv_at hl 1 rfl) ?_
      exact W.iret (v := nI q) hx hb hr (fun t ht hW => ⟨_, rfl, (by rw [lf, if_neg (by omega)] at hQ; exact hQ), ht⟩) (fun q h => by cases h) dX0_leftFrom_41
    · have c_3 := mt (nI_leI (a := Z 2) (b := q + 1) (by omega) (by omega)).mpr c_3
      refine lv_aload_n hx hb dX0_leftFrom_12 rfl (lv_at hl 0 rfl) ?_
      refine lv_iload_n hx hb dX0_leftFrom_13 rfl (lv_at hl 1 rfl) ?_
      refine vp_callSi (va_Run.run (va_runV (As := [.int (nI q)]) (rest := []) ⟨hx, hb, hml, hown, hts⟩ (c_byteAt l dC dI cA a0 a1 a2 Z T K q (show Z 2 ≤ 32768 by omega) (show q < 2 ^ 31 by omega)) (cwV 1 hts (gV (fun _ h => h) ml_X0_28 im_X0_byteAt se_X0_byteAt ini_X0 co_X0_byteAt) rfl rfl rfl pd_X0_byteAt ⟨Nat.le_of_ble_eq_true rfl, Nat.le_of_ble_eq_true rfl⟩) (lm_preR hK hP) rfl rfl hl.1 rfl (lv_room (Nat.le_of_ble_eq_true rfl)) dX0_leftFrom_14 ⟨Nat.zero_le _, Nat.zero_le _⟩)) (fun r_4 (e_5 : r_4 = bI (gb T (Z 2) q)) => ?_)
      subst e_5
      have := gb_in T (Z 2) q
      refine lv_bipush (v := nI 92) hx hb dX0_leftFrom_17 (by decide) ?_
      refine lv_icmp_ne (tgt := 40) hx hb dX0_leftFrom_19 (by decide) (fun c_6 => ?_) (fun c_6 => ?_)
      · have c_6 := mt (bI_eqN (by omega)).mpr c_6
        refine lv_iload_n hx hb dX0_leftFrom_40 rfl (lv_at hl 1 rfl) ?_
        exact W.iret (v := nI q) hx hb hr (fun t ht hW => ⟨_, rfl, (by rw [lf, if_neg (by omega)] at hQ; exact hQ), ht⟩) (fun q h => by cases h) dX0_leftFrom_41
      · have c_6 := (bI_eqN (by omega)).mp c_6
        refine lv_aload_n hx hb dX0_leftFrom_22 rfl (lv_at hl 0 rfl) ?_
        refine lv_iload_n hx hb dX0_leftFrom_23 rfl (lv_at hl 1 rfl) ?_
        refine lv_iconst (v := nI 1) hx hb dX0_leftFrom_24 (by decide) ?_
        refine lv_iadd hx hb dX0_leftFrom_25 ?_
        refine lv_topi (fun x_7 e_8 => ?_)
        obtain rfl : x_7 = nI (q + 1) := e_8.trans (nI_add q 1)
        refine vp_callSi (va_Run.run (va_runV (As := [.int (nI (q + 1))]) (rest := []) ⟨hx, hb, hml, hown, hts⟩ (c_byteAt l dC dI cA a0 a1 a2 Z T K (q + 1) (show Z 2 ≤ 32768 by omega) (show q + 1 < 2 ^ 31 by omega)) (cwV 1 hts (gV (fun _ h => h) ml_X0_28 im_X0_byteAt se_X0_byteAt ini_X0 co_X0_byteAt) rfl rfl rfl pd_X0_byteAt ⟨Nat.le_of_ble_eq_true rfl, Nat.le_of_ble_eq_true rfl⟩) (lm_preR hK hP) rfl rfl hl.1 rfl (lv_room (Nat.le_of_ble_eq_true rfl)) dX0_leftFrom_26 ⟨Nat.zero_le _, Nat.zero_le _⟩)) (fun r_9 (e_10 : r_9 = bI (gb T (Z 2) (q + 1))) => ?_)
        subst e_10
        have := gb_in T (Z 2) (q + 1)
        refine lv_bipush (v := nI 10) hx hb dX0_leftFrom_29 (by decide) ?_
        refine lv_icmp_ne (tgt := 40) hx hb dX0_leftFrom_31 (by decide) (fun c_11 => ?_) (fun c_11 => ?_)
        · have c_11 := mt (bI_eqN (by omega)).mpr c_11
          refine lv_iload_n hx hb dX0_leftFrom_40 rfl (lv_at hl 1 rfl) ?_
          exact W.iret (v := nI q) hx hb hr (fun t ht hW => ⟨_, rfl, (by rw [lf, if_neg (by omega)] at hQ; exact hQ), ht⟩) (fun q h => by cases h) dX0_leftFrom_41
        · have c_11 := (bI_eqN (by omega)).mp c_11
          refine lv_iinc (v := nI (q + 2)) (lv' := [(2, .int (nI (q + 2))), (0, .ref a0)]) hx hb dX0_leftFrom_34 hl (k := 1) rfl (by exact nI_add q 2) (by decide) rfl (fun ls hl => ?_)
          refine lv_goto (tgt := 2) hx hb dX0_leftFrom_37 (by decide) ?_
          exact ih (q + 2) (by omega) (by omega) (by rw [lf, if_pos (by omega)] at hQ; exact hQ) _ (lv_sub hl [1, 0] rfl)
set_option maxHeartbeats 4000000 in
set_option maxRecDepth 100000 in
theorem c_leftFrom (l : Launch) (dC : Nat → ClassId) (dI : Nat → Nat → Nat) (cA : ClassId) (a0 a1 a2 : Nat) (Z : Nat → Nat) (T K : Nat → Int64) (q : Nat) (hn : Z 2 ≤ 32768) (hq : q < 2 ^ 30) : Met l yX0_leftFrom wX0_leftFrom ({ frames := 1, cells := 0, slots := 0, locals := 22 }) (va_Pc [.ref a0, .int (nI q)] (lmR dC dI cA a0 a1 a2 (Z, T, K))) (vp_Si (fun r => r = nI (lf T (Z 2) q))) 0 0 (fun _ => False) := by
  refine Met.ofW (cc := cX0_leftFrom) (maxL := 3) (ret := (some .int)) (by decide) rfl ?_
  intro p e s m args below meth c s₁ B hml hv
  obtain ⟨rfl, hP, hK⟩ := hv
  have hx := B.exec
  have hb := B.bytes
  have hr := B.returns
  have hts : ∀ w ∈ bw, w.before _ s = true := fun w h => atoms_spec (ws := wX0_leftFrom) B.pre w (bc w h)
  have hown : s.vm.findClass RX0 = some m.cls := findClass_of_methodNamed B.named
  have hlocks := B.notSynchronized
  have hl := lv_entry ([.ref a0, .int (nI q)]) (n := 3) (Nat.le_of_ble_eq_true rfl)
  rw [lg_entry_eq]
  generalize (lg_sl ([.ref a0, .int (nI q)]) ++ List.replicate (3 - (lg_sl ([.ref a0, .int (nI q)])).length) Slot.unset).toArray = ls at hl ⊢
  have hl : lv_has ls 3 [(0, .ref a0), (1, .int (nI q))] := hl
  refine lv_iload_n hx hb dX0_leftFrom_0 rfl (lv_at hl 1 rfl) ?_
  refine lv_istore_n (lv' := [(2, .int (nI q)), (0, .ref a0), (1, .int (nI q))]) hx hb dX0_leftFrom_1 rfl hl (by decide) rfl (fun ls hl => ?_)
  exact k_leftFrom_2 hx hb hr hml hown hts hlocks hK hP hn (fun r => r = nI (lf T (Z 2) q)) (Z 2 - q + 1) q (by omega) hq rfl _ (lv_sub hl [1, 0] rfl)
set_option maxHeartbeats 4000000 in
set_option maxRecDepth 100000 in
theorem k_lineEnd_2 {p : Program} {l : Launch} {e : Env} {s : State} {m : MethodId} {args : Array Value} {below : List Frame} {meth : Method} {c : Code} (hx : p.tables.exec = Jvm.exec) (hb : c.code = cX0_lineEnd) (hr : meth.sig.returnType = (some .int)) (hml : c.maxLocals = 3) (hown : s.vm.findClass RX0 = some m.cls) (hts : ∀ w ∈ bw, w.before args s = true) (hlocks : meth.locks = false) {dC : Nat → ClassId} {dI : Nat → Nat → Nat} {cA : ClassId} {a0 a1 a2 : Nat} {Z : Nat → Nat} {T K : Nat → Int64} (hK : va_K (dC, dI) vwCl [(cA, .long)] s) (hP : va_P (dC, dI) vwCl (lmW cA a0 a1 a2 (Z, T, K)) s.heap)  (hn : Z 2 ≤ 32768) (P : Int32 → Prop) : ∀ (k : Nat) (q : Nat), Z 2 - q < k → q < 2 ^ 30 - 1 → P (nI (lnE T (Z 2) q)) → ∀ ls, lv_has ls 3 [(0, .ref a0), (2, .int (nI q))] → W p l e (headSpec wX0_lineEnd ({ frames := 2, cells := 0, slots := 0, locals := 44 })).room s m args below meth c s.heap [] 0 0 (MQ below (vp_Si P) args s 0 0 (fun _ => False)) (F0 m 2 ls []) := by
  intro k
  induction k with
  | zero => intro q hk; exact absurd hk (by omega)
  | succ k ih =>
    intro q hk hq hQ ls hl
    refine lv_iload_n hx hb dX0_lineEnd_2 rfl (lv_at hl 1 rfl) ?_
    refine lv_aload_n hx hb dX0_lineEnd_3 rfl (lv_at hl 0 rfl) ?_
    refine va_get (D := (dC, dI)) (ci := 0) (v := .int (nI (Z 2))) (C := RX0) (T := TX0) (N := 16) hx hb hts inX0 hown hK hP 0 rfl rfl 2 (by decide) (hts _ fl_X0_19) (fun _ h9 => h9) rfl dX0_lineEnd_4 ?_
    refine lv_icmp_ge (tgt := 31) hx hb dX0_lineEnd_7 (by decide) (fun c_1 => ?_) (fun c_1 => ?_)
    · have c_1 := (nI_leI (a := Z 2) (b := q) (by omega) (by omega)).mp c_1
      refine lv_iload_n hx hb dX0_lineEnd_31 rfl (lv_at hl 1 rfl) ?_
      exact W.iret (v := nI q) hx hb hr (fun t ht hW => ⟨_, rfl, (by rw [lnE, if_neg (by omega)] at hQ; exact hQ), ht⟩) (fun q h => by cases h) dX0_lineEnd_32
    · have c_1 := mt (nI_leI (a := Z 2) (b := q) (by omega) (by omega)).mpr c_1
      refine lv_aload_n hx hb dX0_lineEnd_10 rfl (lv_at hl 0 rfl) ?_
      refine lv_iload_n hx hb dX0_lineEnd_11 rfl (lv_at hl 1 rfl) ?_
      refine vp_callSi (va_Run.run (va_runV (As := [.int (nI q)]) (rest := []) ⟨hx, hb, hml, hown, hts⟩ (c_byteAt l dC dI cA a0 a1 a2 Z T K q (show Z 2 ≤ 32768 by omega) (show q < 2 ^ 31 by omega)) (cwV 1 hts (gV (fun _ h => h) ml_X0_28 im_X0_byteAt se_X0_byteAt ini_X0 co_X0_byteAt) rfl rfl rfl pd_X0_byteAt ⟨Nat.le_of_ble_eq_true rfl, Nat.le_of_ble_eq_true rfl⟩) (lm_preR hK hP) rfl rfl hl.1 rfl (lv_room (Nat.le_of_ble_eq_true rfl)) dX0_lineEnd_12 ⟨Nat.zero_le _, Nat.zero_le _⟩)) (fun r_2 (e_3 : r_2 = bI (gb T (Z 2) q)) => ?_)
      subst e_3
      have := gb_in T (Z 2) q
      refine lv_bipush (v := nI 10) hx hb dX0_lineEnd_15 (by decide) ?_
      refine lv_icmp_eq (tgt := 31) hx hb dX0_lineEnd_17 (by decide) (fun c_4 => ?_) (fun c_4 => ?_)
      · have c_4 := (bI_eqN (by omega)).mp c_4
        refine lv_iload_n hx hb dX0_lineEnd_31 rfl (lv_at hl 1 rfl) ?_
        exact W.iret (v := nI q) hx hb hr (fun t ht hW => ⟨_, rfl, (by rw [lnE, if_neg (by omega)] at hQ; exact hQ), ht⟩) (fun q h => by cases h) dX0_lineEnd_32
      · have c_4 := mt (bI_eqN (by omega)).mpr c_4
        refine lv_aload_n hx hb dX0_lineEnd_20 rfl (lv_at hl 0 rfl) ?_
        refine lv_iload_n hx hb dX0_lineEnd_21 rfl (lv_at hl 1 rfl) ?_
        refine lv_iconst (v := nI 1) hx hb dX0_lineEnd_22 (by decide) ?_
        refine lv_iadd hx hb dX0_lineEnd_23 ?_
        refine lv_topi (fun x_5 e_6 => ?_)
        obtain rfl : x_5 = nI (q + 1) := e_6.trans (nI_add q 1)
        refine vp_callSi (va_Run.run (va_runV (As := [.int (nI (q + 1))]) (rest := []) ⟨hx, hb, hml, hown, hts⟩ (c_leftFrom l dC dI cA a0 a1 a2 Z T K (q + 1) (show Z 2 ≤ 32768 by omega) (show q + 1 < 2 ^ 30 by omega)) (cwV 1 hts (gV (fun _ h => h) ml_X0_42 im_X0_leftFrom se_X0_leftFrom ini_X0 co_X0_leftFrom) rfl rfl rfl pd_X0_leftFrom ⟨Nat.le_of_ble_eq_true rfl, Nat.le_of_ble_eq_true rfl⟩) (lm_preR hK hP) rfl rfl hl.1 rfl (lv_room (Nat.le_of_ble_eq_true rfl)) dX0_lineEnd_24 ⟨Nat.zero_le _, Nat.zero_le _⟩)) (fun r_7 (e_8 : r_7 = nI (lf T (Z 2) (q + 1))) => ?_)
        subst e_8
        have := lf_b T (Z 2) (q + 1)
        refine lv_istore_n (lv' := [(2, .int (nI (lf T (Z 2) (q + 1)))), (0, .ref a0)]) hx hb dX0_lineEnd_27 rfl hl (by decide) rfl (fun ls hl => ?_)
        refine lv_goto (tgt := 2) hx hb dX0_lineEnd_28 (by decide) ?_
        exact ih (lf T (Z 2) (q + 1)) (by omega) (by omega) (by rw [lnE, if_pos (by omega)] at hQ; exact hQ) _ (lv_sub hl [1, 0] rfl)
set_option maxHeartbeats 4000000 in
set_option maxRecDepth 100000 in
theorem c_lineEnd (l : Launch) (dC : Nat → ClassId) (dI : Nat → Nat → Nat) (cA : ClassId) (a0 a1 a2 : Nat) (Z : Nat → Nat) (T K : Nat → Int64) (q : Nat) (hn : Z 2 ≤ 32768) (hq : q < 2 ^ 30 - 1) : Met l yX0_lineEnd wX0_lineEnd ({ frames := 2, cells := 0, slots := 0, locals := 44 }) (va_Pc [.ref a0, .int (nI q)] (lmR dC dI cA a0 a1 a2 (Z, T, K))) (vp_Si (fun r => r = nI (lnE T (Z 2) q))) 0 0 (fun _ => False) := by
  refine Met.ofW (cc := cX0_lineEnd) (maxL := 3) (ret := (some .int)) (by decide) rfl ?_
  intro p e s m args below meth c s₁ B hml hv
  obtain ⟨rfl, hP, hK⟩ := hv
  have hx := B.exec
  have hb := B.bytes
  have hr := B.returns
  have hts : ∀ w ∈ bw, w.before _ s = true := fun w h => atoms_spec (ws := wX0_lineEnd) B.pre w (bc w h)
  have hown : s.vm.findClass RX0 = some m.cls := findClass_of_methodNamed B.named
  have hlocks := B.notSynchronized
  have hl := lv_entry ([.ref a0, .int (nI q)]) (n := 3) (Nat.le_of_ble_eq_true rfl)
  rw [lg_entry_eq]
  generalize (lg_sl ([.ref a0, .int (nI q)]) ++ List.replicate (3 - (lg_sl ([.ref a0, .int (nI q)])).length) Slot.unset).toArray = ls at hl ⊢
  have hl : lv_has ls 3 [(0, .ref a0), (1, .int (nI q))] := hl
  refine lv_iload_n hx hb dX0_lineEnd_0 rfl (lv_at hl 1 rfl) ?_
  refine lv_istore_n (lv' := [(2, .int (nI q)), (0, .ref a0), (1, .int (nI q))]) hx hb dX0_lineEnd_1 rfl hl (by decide) rfl (fun ls hl => ?_)
  exact k_lineEnd_2 hx hb hr hml hown hts hlocks hK hP hn (fun r => r = nI (lnE T (Z 2) q)) (Z 2 - q + 1) q (by omega) hq rfl _ (lv_sub hl [1, 0] rfl)
set_option maxHeartbeats 4000000 in
set_option maxRecDepth 100000 in
theorem k_nameEnd_2 {p : Program} {l : Launch} {e : Env} {s : State} {m : MethodId} {args : Array Value} {below : List Frame} {meth : Method} {c : Code} (hx : p.tables.exec = Jvm.exec) (hb : c.code = cX0_nameEnd) (hr : meth.sig.returnType = (some .int)) (hml : c.maxLocals = 3) (hown : s.vm.findClass RX0 = some m.cls) (hts : ∀ w ∈ bw, w.before args s = true) (hlocks : meth.locks = false) {dC : Nat → ClassId} {dI : Nat → Nat → Nat} {cA : ClassId} {a0 a1 a2 : Nat} {Z : Nat → Nat} {T K : Nat → Int64} (hK : va_K (dC, dI) vwCl [(cA, .long)] s) (hP : va_P (dC, dI) vwCl (lmW cA a0 a1 a2 (Z, T, K)) s.heap)  (hn : Z 2 ≤ 32768) (P : Int32 → Prop) : ∀ (k : Nat) (q : Nat), Z 2 - q < k → q < 2 ^ 30 - 1 → P (nI (nmE T (Z 2) q)) → ∀ ls, lv_has ls 3 [(0, .ref a0), (2, .int (nI q))] → W p l e (headSpec wX0_nameEnd ({ frames := 2, cells := 0, slots := 0, locals := 44 })).room s m args below meth c s.heap [] 0 0 (MQ below (vp_Si P) args s 0 0 (fun _ => False)) (F0 m 2 ls []) := by
  intro k
  induction k with
  | zero => intro q hk; exact absurd hk (by omega)
  | succ k ih =>
    intro q hk hq hQ ls hl
    refine lv_iload_n hx hb dX0_nameEnd_2 rfl (lv_at hl 1 rfl) ?_
    refine lv_aload_n hx hb dX0_nameEnd_3 rfl (lv_at hl 0 rfl) ?_
    refine va_get (D := (dC, dI)) (ci := 0) (v := .int (nI (Z 2))) (C := RX0) (T := TX0) (N := 16) hx hb hts inX0 hown hK hP 0 rfl rfl 2 (by decide) (hts _ fl_X0_19) (fun _ h9 => h9) rfl dX0_nameEnd_4 ?_
    refine lv_icmp_ge (tgt := 43) hx hb dX0_nameEnd_7 (by decide) (fun c_1 => ?_) (fun c_1 => ?_)
    · have c_1 := (nI_leI (a := Z 2) (b := q) (by omega) (by omega)).mp c_1
      refine lv_iload_n hx hb dX0_nameEnd_43 rfl (lv_at hl 1 rfl) ?_
      exact W.iret (v := nI q) hx hb hr (fun t ht hW => ⟨_, rfl, (by rw [nmE, if_neg (fun z => by have := z.1; omega)] at hQ; exact hQ), ht⟩) (fun q h => by cases h) dX0_nameEnd_44
    · have c_1 := mt (nI_leI (a := Z 2) (b := q) (by omega) (by omega)).mpr c_1
      refine lv_aload_n hx hb dX0_nameEnd_10 rfl (lv_at hl 0 rfl) ?_
      refine lv_iload_n hx hb dX0_nameEnd_11 rfl (lv_at hl 1 rfl) ?_
      refine vp_callSi (va_Run.run (va_runV (As := [.int (nI q)]) (rest := []) ⟨hx, hb, hml, hown, hts⟩ (c_byteAt l dC dI cA a0 a1 a2 Z T K q (show Z 2 ≤ 32768 by omega) (show q < 2 ^ 31 by omega)) (cwV 1 hts (gV (fun _ h => h) ml_X0_28 im_X0_byteAt se_X0_byteAt ini_X0 co_X0_byteAt) rfl rfl rfl pd_X0_byteAt ⟨Nat.le_of_ble_eq_true rfl, Nat.le_of_ble_eq_true rfl⟩) (lm_preR hK hP) rfl rfl hl.1 rfl (lv_room (Nat.le_of_ble_eq_true rfl)) dX0_nameEnd_12 ⟨Nat.zero_le _, Nat.zero_le _⟩)) (fun r_2 (e_3 : r_2 = bI (gb T (Z 2) q)) => ?_)
      subst e_3
      have := gb_in T (Z 2) q
      refine vp_callSi (va_Run.run (va_runS (As := [.int (bI (gb T (Z 2) q))]) (rest := []) ⟨hx, hb, hml, hown, hts⟩ (c_isLetter l (gb T (Z 2) q)) (cwS 1 hts (gS (fun _ h => h) ml_X0_133 sm_X0_isLetter ini_X0 co_X0_isLetter) rfl rfl rfl pd_X0_isLetter ⟨Nat.le_of_ble_eq_true rfl, Nat.le_of_ble_eq_true rfl⟩) st_pre rfl rfl hl.1 rfl (lv_room (Nat.le_of_ble_eq_true rfl)) dX0_nameEnd_15 ⟨Nat.zero_le _, Nat.zero_le _⟩)) (fun r_4 (e_5 : r_4 = b2i (isL (gb T (Z 2) q))) => ?_)
      subst e_5
      refine lv_if_ne (tgt := 32) hx hb dX0_nameEnd_18 (by decide) (fun c_6 => ?_) (fun c_6 => ?_)
      · have c_6 := mt (b2i_z (isL (gb T (Z 2) q))).mpr c_6
        refine lv_aload_n hx hb dX0_nameEnd_32 rfl (lv_at hl 0 rfl) ?_
        refine lv_iload_n hx hb dX0_nameEnd_33 rfl (lv_at hl 1 rfl) ?_
        refine lv_iconst (v := nI 1) hx hb dX0_nameEnd_34 (by decide) ?_
        refine lv_iadd hx hb dX0_nameEnd_35 ?_
        refine lv_topi (fun x_7 e_8 => ?_)
        obtain rfl : x_7 = nI (q + 1) := e_8.trans (nI_add q 1)
        refine vp_callSi (va_Run.run (va_runV (As := [.int (nI (q + 1))]) (rest := []) ⟨hx, hb, hml, hown, hts⟩ (c_leftFrom l dC dI cA a0 a1 a2 Z T K (q + 1) (show Z 2 ≤ 32768 by omega) (show q + 1 < 2 ^ 30 by omega)) (cwV 1 hts (gV (fun _ h => h) ml_X0_42 im_X0_leftFrom se_X0_leftFrom ini_X0 co_X0_leftFrom) rfl rfl rfl pd_X0_leftFrom ⟨Nat.le_of_ble_eq_true rfl, Nat.le_of_ble_eq_true rfl⟩) (lm_preR hK hP) rfl rfl hl.1 rfl (lv_room (Nat.le_of_ble_eq_true rfl)) dX0_nameEnd_36 ⟨Nat.zero_le _, Nat.zero_le _⟩)) (fun r_9 (e_10 : r_9 = nI (lf T (Z 2) (q + 1))) => ?_)
        subst e_10
        have := lf_b T (Z 2) (q + 1)
        refine lv_istore_n (lv' := [(2, .int (nI (lf T (Z 2) (q + 1)))), (0, .ref a0)]) hx hb dX0_nameEnd_39 rfl hl (by decide) rfl (fun ls hl => ?_)
        refine lv_goto (tgt := 2) hx hb dX0_nameEnd_40 (by decide) ?_
        exact ih (lf T (Z 2) (q + 1)) (by omega) (by omega) (by rw [nmE, if_pos ⟨by omega, Or.inl (by simpa using c_6)⟩] at hQ; exact hQ) _ (lv_sub hl [1, 0] rfl)
      · have c_6 := (b2i_z (isL (gb T (Z 2) q))).mp c_6
        refine lv_aload_n hx hb dX0_nameEnd_21 rfl (lv_at hl 0 rfl) ?_
        refine lv_iload_n hx hb dX0_nameEnd_22 rfl (lv_at hl 1 rfl) ?_
        refine vp_callSi (va_Run.run (va_runV (As := [.int (nI q)]) (rest := []) ⟨hx, hb, hml, hown, hts⟩ (c_byteAt l dC dI cA a0 a1 a2 Z T K q (show Z 2 ≤ 32768 by omega) (show q < 2 ^ 31 by omega)) (cwV 1 hts (gV (fun _ h => h) ml_X0_28 im_X0_byteAt se_X0_byteAt ini_X0 co_X0_byteAt) rfl rfl rfl pd_X0_byteAt ⟨Nat.le_of_ble_eq_true rfl, Nat.le_of_ble_eq_true rfl⟩) (lm_preR hK hP) rfl rfl hl.1 rfl (lv_room (Nat.le_of_ble_eq_true rfl)) dX0_nameEnd_23 ⟨Nat.zero_le _, Nat.zero_le _⟩)) (fun r_11 (e_12 : r_11 = bI (gb T (Z 2) q)) => ?_)
        subst e_12
        have := gb_in T (Z 2) q
        refine vp_callSi (va_Run.run (va_runS (As := [.int (bI (gb T (Z 2) q))]) (rest := []) ⟨hx, hb, hml, hown, hts⟩ (c_isDigit l (gb T (Z 2) q)) (cwS 1 hts (gS (fun _ h => h) ml_X0_142 sm_X0_isDigit ini_X0 co_X0_isDigit) rfl rfl rfl pd_X0_isDigit ⟨Nat.le_of_ble_eq_true rfl, Nat.le_of_ble_eq_true rfl⟩) st_pre rfl rfl hl.1 rfl (lv_room (Nat.le_of_ble_eq_true rfl)) dX0_nameEnd_26 ⟨Nat.zero_le _, Nat.zero_le _⟩)) (fun r_13 (e_14 : r_13 = b2i (isD (gb T (Z 2) q))) => ?_)
        subst e_14
        refine lv_if_eq (tgt := 43) hx hb dX0_nameEnd_29 (by decide) (fun c_15 => ?_) (fun c_15 => ?_)
        · have c_15 := (b2i_z (isD (gb T (Z 2) q))).mp c_15
          refine lv_iload_n hx hb dX0_nameEnd_43 rfl (lv_at hl 1 rfl) ?_
          exact W.iret (v := nI q) hx hb hr (fun t ht hW => ⟨_, rfl, (by rw [nmE, if_neg (fun z => by rcases z.2 with h | h; exact absurd h (by rw [c_6]; decide); exact absurd h (by rw [c_15]; decide))] at hQ; exact hQ), ht⟩) (fun q h => by cases h) dX0_nameEnd_44
        · have c_15 := mt (b2i_z (isD (gb T (Z 2) q))).mpr c_15
          refine lv_aload_n hx hb dX0_nameEnd_32 rfl (lv_at hl 0 rfl) ?_
          refine lv_iload_n hx hb dX0_nameEnd_33 rfl (lv_at hl 1 rfl) ?_
          refine lv_iconst (v := nI 1) hx hb dX0_nameEnd_34 (by decide) ?_
          refine lv_iadd hx hb dX0_nameEnd_35 ?_
          refine lv_topi (fun x_16 e_17 => ?_)
          obtain rfl : x_16 = nI (q + 1) := e_17.trans (nI_add q 1)
          refine vp_callSi (va_Run.run (va_runV (As := [.int (nI (q + 1))]) (rest := []) ⟨hx, hb, hml, hown, hts⟩ (c_leftFrom l dC dI cA a0 a1 a2 Z T K (q + 1) (show Z 2 ≤ 32768 by omega) (show q + 1 < 2 ^ 30 by omega)) (cwV 1 hts (gV (fun _ h => h) ml_X0_42 im_X0_leftFrom se_X0_leftFrom ini_X0 co_X0_leftFrom) rfl rfl rfl pd_X0_leftFrom ⟨Nat.le_of_ble_eq_true rfl, Nat.le_of_ble_eq_true rfl⟩) (lm_preR hK hP) rfl rfl hl.1 rfl (lv_room (Nat.le_of_ble_eq_true rfl)) dX0_nameEnd_36 ⟨Nat.zero_le _, Nat.zero_le _⟩)) (fun r_18 (e_19 : r_18 = nI (lf T (Z 2) (q + 1))) => ?_)
          subst e_19
          have := lf_b T (Z 2) (q + 1)
          refine lv_istore_n (lv' := [(2, .int (nI (lf T (Z 2) (q + 1)))), (0, .ref a0)]) hx hb dX0_nameEnd_39 rfl hl (by decide) rfl (fun ls hl => ?_)
          refine lv_goto (tgt := 2) hx hb dX0_nameEnd_40 (by decide) ?_
          exact ih (lf T (Z 2) (q + 1)) (by omega) (by omega) (by rw [nmE, if_pos ⟨by omega, Or.inr (by simpa using c_15)⟩] at hQ; exact hQ) _ (lv_sub hl [1, 0] rfl)
set_option maxHeartbeats 4000000 in
set_option maxRecDepth 100000 in
theorem c_nameEnd (l : Launch) (dC : Nat → ClassId) (dI : Nat → Nat → Nat) (cA : ClassId) (a0 a1 a2 : Nat) (Z : Nat → Nat) (T K : Nat → Int64) (q : Nat) (hn : Z 2 ≤ 32768) (hq : q < 2 ^ 30 - 1) : Met l yX0_nameEnd wX0_nameEnd ({ frames := 2, cells := 0, slots := 0, locals := 44 }) (va_Pc [.ref a0, .int (nI q)] (lmR dC dI cA a0 a1 a2 (Z, T, K))) (vp_Si (fun r => r = nI (nmE T (Z 2) q))) 0 0 (fun _ => False) := by
  refine Met.ofW (cc := cX0_nameEnd) (maxL := 3) (ret := (some .int)) (by decide) rfl ?_
  intro p e s m args below meth c s₁ B hml hv
  obtain ⟨rfl, hP, hK⟩ := hv
  have hx := B.exec
  have hb := B.bytes
  have hr := B.returns
  have hts : ∀ w ∈ bw, w.before _ s = true := fun w h => atoms_spec (ws := wX0_nameEnd) B.pre w (bc w h)
  have hown : s.vm.findClass RX0 = some m.cls := findClass_of_methodNamed B.named
  have hlocks := B.notSynchronized
  have hl := lv_entry ([.ref a0, .int (nI q)]) (n := 3) (Nat.le_of_ble_eq_true rfl)
  rw [lg_entry_eq]
  generalize (lg_sl ([.ref a0, .int (nI q)]) ++ List.replicate (3 - (lg_sl ([.ref a0, .int (nI q)])).length) Slot.unset).toArray = ls at hl ⊢
  have hl : lv_has ls 3 [(0, .ref a0), (1, .int (nI q))] := hl
  refine lv_iload_n hx hb dX0_nameEnd_0 rfl (lv_at hl 1 rfl) ?_
  refine lv_istore_n (lv' := [(2, .int (nI q)), (0, .ref a0), (1, .int (nI q))]) hx hb dX0_nameEnd_1 rfl hl (by decide) rfl (fun ls hl => ?_)
  exact k_nameEnd_2 hx hb hr hml hown hts hlocks hK hP hn (fun r => r = nI (nmE T (Z 2) q)) (Z 2 - q + 1) q (by omega) hq rfl _ (lv_sub hl [1, 0] rfl)
set_option maxHeartbeats 4000000 in
set_option maxRecDepth 100000 in
theorem k_numberEnd_5 {p : Program} {l : Launch} {e : Env} {s : State} {m : MethodId} {args : Array Value} {below : List Frame} {meth : Method} {c : Code} (hx : p.tables.exec = Jvm.exec) (hb : c.code = cX0_numberEnd) (hr : meth.sig.returnType = (some .int)) (hml : c.maxLocals = 5) (hown : s.vm.findClass RX0 = some m.cls) (hts : ∀ w ∈ bw, w.before args s = true) (hlocks : meth.locks = false) {dC : Nat → ClassId} {dI : Nat → Nat → Nat} {cA : ClassId} {a0 a1 a2 : Nat} {Z : Nat → Nat} {T K : Nat → Int64} (hK : va_K (dC, dI) vwCl [(cA, .long)] s) (hP : va_P (dC, dI) vwCl (lmW cA a0 a1 a2 (Z, T, K)) s.heap)  (hn : Z 2 ≤ 32768) (P : Int32 → Prop) : ∀ (k : Nat) (q : Nat) (y : Nat), Z 2 - q < k → q < 2 ^ 30 - 1 → P (nI (nuE T (Z 2) q y)) → ∀ ls, lv_has ls 5 [(0, .ref a0), (3, .int (nI q)), (4, .int (bI y))] → W p l e (headSpec wX0_numberEnd ({ frames := 2, cells := 0, slots := 0, locals := 44 })).room s m args below meth c s.heap [] 0 0 (MQ below (vp_Si P) args s 0 0 (fun _ => False)) (F0 m 5 ls []) := by
  intro k
  induction k with
  | zero => intro q y hk; exact absurd hk (by omega)
  | succ k ih =>
    intro q y hk hq hQ ls hl
    refine lv_iload_n hx hb dX0_numberEnd_5 rfl (lv_at hl 1 rfl) ?_
    refine lv_aload_n hx hb dX0_numberEnd_6 rfl (lv_at hl 0 rfl) ?_
    refine va_get (D := (dC, dI)) (ci := 0) (v := .int (nI (Z 2))) (C := RX0) (T := TX0) (N := 16) hx hb hts inX0 hown hK hP 0 rfl rfl 2 (by decide) (hts _ fl_X0_19) (fun _ h9 => h9) rfl dX0_numberEnd_7 ?_
    refine lv_icmp_ge (tgt := 44) hx hb dX0_numberEnd_10 (by decide) (fun c_1 => ?_) (fun c_1 => ?_)
    · have c_1 := (nI_leI (a := Z 2) (b := q) (by omega) (by omega)).mp c_1
      refine lv_iload_n hx hb dX0_numberEnd_44 rfl (lv_at hl 1 rfl) ?_
      exact W.iret (v := nI q) hx hb hr (fun t ht hW => ⟨_, rfl, (by rw [nuE, if_neg (fun z => by have := z.1; omega)] at hQ; exact hQ), ht⟩) (fun q h => by cases h) dX0_numberEnd_45
    · have c_1 := mt (nI_leI (a := Z 2) (b := q) (by omega) (by omega)).mpr c_1
      refine lv_aload_n hx hb dX0_numberEnd_13 rfl (lv_at hl 0 rfl) ?_
      refine lv_iload_n hx hb dX0_numberEnd_14 rfl (lv_at hl 1 rfl) ?_
      refine vp_callSi (va_Run.run (va_runV (As := [.int (nI q)]) (rest := []) ⟨hx, hb, hml, hown, hts⟩ (c_byteAt l dC dI cA a0 a1 a2 Z T K q (show Z 2 ≤ 32768 by omega) (show q < 2 ^ 31 by omega)) (cwV 1 hts (gV (fun _ h => h) ml_X0_28 im_X0_byteAt se_X0_byteAt ini_X0 co_X0_byteAt) rfl rfl rfl pd_X0_byteAt ⟨Nat.le_of_ble_eq_true rfl, Nat.le_of_ble_eq_true rfl⟩) (lm_preR hK hP) rfl rfl hl.1 rfl (lv_room (Nat.le_of_ble_eq_true rfl)) dX0_numberEnd_15 ⟨Nat.zero_le _, Nat.zero_le _⟩)) (fun r_2 (e_3 : r_2 = bI (gb T (Z 2) q)) => ?_)
      subst e_3
      have := gb_in T (Z 2) q
      refine lv_iload hx hb dX0_numberEnd_18 (lv_at hl 2 rfl) ?_
      refine vp_callSi (va_Run.run (va_runS (As := [.int (bI (gb T (Z 2) q)), .int (bI y)]) (rest := []) ⟨hx, hb, hml, hown, hts⟩ (c_goesOnNumber l (gb T (Z 2) q) y) (cwS 2 hts (gS (fun _ h => h) ml_X0_171 sm_X0_goesOnNumber ini_X0 co_X0_goesOnNumber) rfl rfl rfl pd_X0_goesOnNumber ⟨Nat.le_of_ble_eq_true rfl, Nat.le_of_ble_eq_true rfl⟩) st_pre rfl rfl hl.1 rfl (lv_room (Nat.le_of_ble_eq_true rfl)) dX0_numberEnd_20 ⟨Nat.zero_le _, Nat.zero_le _⟩)) (fun r_4 (e_5 : r_4 = b2i (goN (gb T (Z 2) q) y)) => ?_)
      subst e_5
      refine lv_if_eq (tgt := 44) hx hb dX0_numberEnd_23 (by decide) (fun c_6 => ?_) (fun c_6 => ?_)
      · have c_6 := (b2i_z (goN (gb T (Z 2) q) y)).mp c_6
        refine lv_iload_n hx hb dX0_numberEnd_44 rfl (lv_at hl 1 rfl) ?_
        exact W.iret (v := nI q) hx hb hr (fun t ht hW => ⟨_, rfl, (by rw [nuE, if_neg (fun z => absurd z.2 (by rw [c_6]; decide))] at hQ; exact hQ), ht⟩) (fun q h => by cases h) dX0_numberEnd_45
      · have c_6 := mt (b2i_z (goN (gb T (Z 2) q) y)).mpr c_6
        refine lv_aload_n hx hb dX0_numberEnd_26 rfl (lv_at hl 0 rfl) ?_
        refine lv_iload_n hx hb dX0_numberEnd_27 rfl (lv_at hl 1 rfl) ?_
        refine vp_callSi (va_Run.run (va_runV (As := [.int (nI q)]) (rest := []) ⟨hx, hb, hml, hown, hts⟩ (c_byteAt l dC dI cA a0 a1 a2 Z T K q (show Z 2 ≤ 32768 by omega) (show q < 2 ^ 31 by omega)) (cwV 1 hts (gV (fun _ h => h) ml_X0_28 im_X0_byteAt se_X0_byteAt ini_X0 co_X0_byteAt) rfl rfl rfl pd_X0_byteAt ⟨Nat.le_of_ble_eq_true rfl, Nat.le_of_ble_eq_true rfl⟩) (lm_preR hK hP) rfl rfl hl.1 rfl (lv_room (Nat.le_of_ble_eq_true rfl)) dX0_numberEnd_28 ⟨Nat.zero_le _, Nat.zero_le _⟩)) (fun r_7 (e_8 : r_7 = bI (gb T (Z 2) q)) => ?_)
        subst e_8
        have := gb_in T (Z 2) q
        refine lv_istore (lv' := [(4, .int (bI (gb T (Z 2) q))), (0, .ref a0), (3, .int (nI q))]) hx hb dX0_numberEnd_31 hl (by decide) rfl (fun ls hl => ?_)
        refine lv_aload_n hx hb dX0_numberEnd_33 rfl (lv_at hl 1 rfl) ?_
        refine lv_iload_n hx hb dX0_numberEnd_34 rfl (lv_at hl 2 rfl) ?_
        refine lv_iconst (v := nI 1) hx hb dX0_numberEnd_35 (by decide) ?_
        refine lv_iadd hx hb dX0_numberEnd_36 ?_
        refine lv_topi (fun x_9 e_10 => ?_)
        obtain rfl : x_9 = nI (q + 1) := e_10.trans (nI_add q 1)
        refine vp_callSi (va_Run.run (va_runV (As := [.int (nI (q + 1))]) (rest := []) ⟨hx, hb, hml, hown, hts⟩ (c_leftFrom l dC dI cA a0 a1 a2 Z T K (q + 1) (show Z 2 ≤ 32768 by omega) (show q + 1 < 2 ^ 30 by omega)) (cwV 1 hts (gV (fun _ h => h) ml_X0_42 im_X0_leftFrom se_X0_leftFrom ini_X0 co_X0_leftFrom) rfl rfl rfl pd_X0_leftFrom ⟨Nat.le_of_ble_eq_true rfl, Nat.le_of_ble_eq_true rfl⟩) (lm_preR hK hP) rfl rfl hl.1 rfl (lv_room (Nat.le_of_ble_eq_true rfl)) dX0_numberEnd_37 ⟨Nat.zero_le _, Nat.zero_le _⟩)) (fun r_11 (e_12 : r_11 = nI (lf T (Z 2) (q + 1))) => ?_)
        subst e_12
        have := lf_b T (Z 2) (q + 1)
        refine lv_istore_n (lv' := [(3, .int (nI (lf T (Z 2) (q + 1)))), (4, .int (bI (gb T (Z 2) q))), (0, .ref a0)]) hx hb dX0_numberEnd_40 rfl hl (by decide) rfl (fun ls hl => ?_)
        refine lv_goto (tgt := 5) hx hb dX0_numberEnd_41 (by decide) ?_
        exact ih (lf T (Z 2) (q + 1)) (gb T (Z 2) q) (by omega) (by omega) (by rw [nuE, if_pos ⟨by omega, by simpa using c_6⟩] at hQ; exact hQ) _ (lv_sub hl [2, 0, 1] rfl)
set_option maxHeartbeats 4000000 in
set_option maxRecDepth 100000 in
theorem c_numberEnd (l : Launch) (dC : Nat → ClassId) (dI : Nat → Nat → Nat) (cA : ClassId) (a0 a1 a2 : Nat) (Z : Nat → Nat) (T K : Nat → Int64) (q : Nat) (y : Nat) (hn : Z 2 ≤ 32768) (hq : q < 2 ^ 30 - 1) : Met l yX0_numberEnd wX0_numberEnd ({ frames := 2, cells := 0, slots := 0, locals := 44 }) (va_Pc [.ref a0, .int (nI q), .int (bI y)] (lmR dC dI cA a0 a1 a2 (Z, T, K))) (vp_Si (fun r => r = nI (nuE T (Z 2) q y))) 0 0 (fun _ => False) := by
  refine Met.ofW (cc := cX0_numberEnd) (maxL := 5) (ret := (some .int)) (by decide) rfl ?_
  intro p e s m args below meth c s₁ B hml hv
  obtain ⟨rfl, hP, hK⟩ := hv
  have hx := B.exec
  have hb := B.bytes
  have hr := B.returns
  have hts : ∀ w ∈ bw, w.before _ s = true := fun w h => atoms_spec (ws := wX0_numberEnd) B.pre w (bc w h)
  have hown : s.vm.findClass RX0 = some m.cls := findClass_of_methodNamed B.named
  have hlocks := B.notSynchronized
  have hl := lv_entry ([.ref a0, .int (nI q), .int (bI y)]) (n := 5) (Nat.le_of_ble_eq_true rfl)
  rw [lg_entry_eq]
  generalize (lg_sl ([.ref a0, .int (nI q), .int (bI y)]) ++ List.replicate (5 - (lg_sl ([.ref a0, .int (nI q), .int (bI y)])).length) Slot.unset).toArray = ls at hl ⊢
  have hl : lv_has ls 5 [(0, .ref a0), (1, .int (nI q)), (2, .int (bI y))] := hl
  refine lv_iload_n hx hb dX0_numberEnd_0 rfl (lv_at hl 1 rfl) ?_
  refine lv_istore_n (lv' := [(3, .int (nI q)), (0, .ref a0), (1, .int (nI q)), (2, .int (bI y))]) hx hb dX0_numberEnd_1 rfl hl (by decide) rfl (fun ls hl => ?_)
  refine lv_iload_n hx hb dX0_numberEnd_2 rfl (lv_at hl 3 rfl) ?_
  refine lv_istore (lv' := [(4, .int (bI y)), (3, .int (nI q)), (0, .ref a0), (1, .int (nI q)), (2, .int (bI y))]) hx hb dX0_numberEnd_3 hl (by decide) rfl (fun ls hl => ?_)
  exact k_numberEnd_5 hx hb hr hml hown hts hlocks hK hP hn (fun r => r = nI (nuE T (Z 2) q y)) (Z 2 - q + 1) q y (by omega) hq rfl _ (lv_sub hl [2, 1, 0] rfl)
set_option maxHeartbeats 4000000 in
set_option maxRecDepth 100000 in
theorem k_commentEnd_4 {p : Program} {l : Launch} {e : Env} {s : State} {m : MethodId} {args : Array Value} {below : List Frame} {meth : Method} {c : Code} (hx : p.tables.exec = Jvm.exec) (hb : c.code = cX0_commentEnd) (hr : meth.sig.returnType = (some .int)) (hml : c.maxLocals = 5) (hown : s.vm.findClass RX0 = some m.cls) (hts : ∀ w ∈ bw, w.before args s = true) (hlocks : meth.locks = false) {dC : Nat → ClassId} {dI : Nat → Nat → Nat} {cA : ClassId} {a0 a1 a2 : Nat} {Z : Nat → Nat} {T K : Nat → Int64} (hK : va_K (dC, dI) vwCl [(cA, .long)] s) (hP : va_P (dC, dI) vwCl (lmW cA a0 a1 a2 (Z, T, K)) s.heap)  (hn : Z 2 ≤ 32768) (P : Int32 → Prop) : ∀ (k : Nat) (q : Nat) (b : Bool), Z 2 - q < k → q < 2 ^ 30 - 1 → P (oI (cmE T (Z 2) q b)) → ∀ ls, lv_has ls 5 [(0, .ref a0), (2, .int (nI q)), (3, .int (b2i b))] → W p l e (headSpec wX0_commentEnd ({ frames := 2, cells := 0, slots := 0, locals := 44 })).room s m args below meth c s.heap [] 0 0 (MQ below (vp_Si P) args s 0 0 (fun _ => False)) (F0 m 4 ls []) := by
  intro k
  induction k with
  | zero => intro q b hk; exact absurd hk (by omega)
  | succ k ih =>
    intro q b hk hq hQ ls hl
    refine lv_iload_n hx hb dX0_commentEnd_4 rfl (lv_at hl 1 rfl) ?_
    refine lv_aload_n hx hb dX0_commentEnd_5 rfl (lv_at hl 0 rfl) ?_
    refine va_get (D := (dC, dI)) (ci := 0) (v := .int (nI (Z 2))) (C := RX0) (T := TX0) (N := 16) hx hb hts inX0 hown hK hP 0 rfl rfl 2 (by decide) (hts _ fl_X0_19) (fun _ h9 => h9) rfl dX0_commentEnd_6 ?_
    refine lv_icmp_ge (tgt := 56) hx hb dX0_commentEnd_9 (by decide) (fun c_1 => ?_) (fun c_1 => ?_)
    · have c_1 := (nI_leI (a := Z 2) (b := q) (by omega) (by omega)).mp c_1
      refine lv_iconst (v := (-1)) hx hb dX0_commentEnd_56 (by decide) ?_
      exact W.iret (v := (-1)) hx hb hr (fun t ht hW => ⟨_, rfl, (by rw [cmE, if_neg (by omega)] at hQ; exact hQ), ht⟩) (fun q h => by cases h) dX0_commentEnd_57
    · have c_1 := mt (nI_leI (a := Z 2) (b := q) (by omega) (by omega)).mpr c_1
      refine lv_aload_n hx hb dX0_commentEnd_12 rfl (lv_at hl 0 rfl) ?_
      refine lv_iload_n hx hb dX0_commentEnd_13 rfl (lv_at hl 1 rfl) ?_
      refine vp_callSi (va_Run.run (va_runV (As := [.int (nI q)]) (rest := []) ⟨hx, hb, hml, hown, hts⟩ (c_byteAt l dC dI cA a0 a1 a2 Z T K q (show Z 2 ≤ 32768 by omega) (show q < 2 ^ 31 by omega)) (cwV 1 hts (gV (fun _ h => h) ml_X0_28 im_X0_byteAt se_X0_byteAt ini_X0 co_X0_byteAt) rfl rfl rfl pd_X0_byteAt ⟨Nat.le_of_ble_eq_true rfl, Nat.le_of_ble_eq_true rfl⟩) (lm_preR hK hP) rfl rfl hl.1 rfl (lv_room (Nat.le_of_ble_eq_true rfl)) dX0_commentEnd_14 ⟨Nat.zero_le _, Nat.zero_le _⟩)) (fun r_2 (e_3 : r_2 = bI (gb T (Z 2) q)) => ?_)
      subst e_3
      have := gb_in T (Z 2) q
      refine lv_istore (lv' := [(4, .int (bI (gb T (Z 2) q))), (0, .ref a0), (2, .int (nI q)), (3, .int (b2i b))]) hx hb dX0_commentEnd_17 hl (by decide) rfl (fun ls hl => ?_)
      refine lv_aload_n hx hb dX0_commentEnd_19 rfl (lv_at hl 1 rfl) ?_
      refine lv_iload_n hx hb dX0_commentEnd_20 rfl (lv_at hl 2 rfl) ?_
      refine lv_iconst (v := nI 1) hx hb dX0_commentEnd_21 (by decide) ?_
      refine lv_iadd hx hb dX0_commentEnd_22 ?_
      refine lv_topi (fun x_4 e_5 => ?_)
      obtain rfl : x_4 = nI (q + 1) := e_5.trans (nI_add q 1)
      refine vp_callSi (va_Run.run (va_runV (As := [.int (nI (q + 1))]) (rest := []) ⟨hx, hb, hml, hown, hts⟩ (c_leftFrom l dC dI cA a0 a1 a2 Z T K (q + 1) (show Z 2 ≤ 32768 by omega) (show q + 1 < 2 ^ 30 by omega)) (cwV 1 hts (gV (fun _ h => h) ml_X0_42 im_X0_leftFrom se_X0_leftFrom ini_X0 co_X0_leftFrom) rfl rfl rfl pd_X0_leftFrom ⟨Nat.le_of_ble_eq_true rfl, Nat.le_of_ble_eq_true rfl⟩) (lm_preR hK hP) rfl rfl hl.1 rfl (lv_room (Nat.le_of_ble_eq_true rfl)) dX0_commentEnd_23 ⟨Nat.zero_le _, Nat.zero_le _⟩)) (fun r_6 (e_7 : r_6 = nI (lf T (Z 2) (q + 1))) => ?_)
      subst e_7
      have := lf_b T (Z 2) (q + 1)
      refine lv_istore_n (lv' := [(2, .int (nI (lf T (Z 2) (q + 1)))), (4, .int (bI (gb T (Z 2) q))), (0, .ref a0), (3, .int (b2i b))]) hx hb dX0_commentEnd_26 rfl hl (by decide) rfl (fun ls hl => ?_)
      refine lv_iload_n hx hb dX0_commentEnd_27 rfl (lv_at hl 3 rfl) ?_
      refine lv_if_eq (tgt := 40) hx hb dX0_commentEnd_28 (by decide) (fun c_8 => ?_) (fun c_8 => ?_)
      · have c_8 := (b2i_z b).mp c_8
        refine lv_iload hx hb dX0_commentEnd_40 (lv_at hl 1 rfl) ?_
        refine lv_bipush (v := nI 42) hx hb dX0_commentEnd_42 (by decide) ?_
        refine lv_icmp_ne (tgt := 51) hx hb dX0_commentEnd_44 (by decide) (fun c_9 => ?_) (fun c_9 => ?_)
        · have c_9 := mt (bI_eqN (by omega)).mpr c_9
          refine lv_iconst (v := nI 0) hx hb dX0_commentEnd_51 (by decide) ?_
          refine lv_istore_n (lv' := [(3, .int (nI 0)), (2, .int (nI (lf T (Z 2) (q + 1)))), (4, .int (bI (gb T (Z 2) q))), (0, .ref a0)]) hx hb dX0_commentEnd_52 rfl hl (by decide) rfl (fun ls hl => ?_)
          refine lv_goto (tgt := 4) hx hb dX0_commentEnd_53 (by decide) ?_
          exact ih (lf T (Z 2) (q + 1)) false (by omega) (by omega) (by rw [cmE, if_pos (by omega), if_neg (fun z => absurd z.1 (by rw [c_8]; decide)), show decide (gb T (Z 2) q = 42) = false by simp; omega] at hQ; exact hQ) _ (lv_sub hl [3, 1, 0] rfl)
        · have c_9 := (bI_eqN (by omega)).mp c_9
          refine lv_iconst (v := nI 1) hx hb dX0_commentEnd_47 (by decide) ?_
          refine lv_goto (tgt := 52) hx hb dX0_commentEnd_48 (by decide) ?_
          refine lv_istore_n (lv' := [(3, .int (nI 1)), (2, .int (nI (lf T (Z 2) (q + 1)))), (4, .int (bI (gb T (Z 2) q))), (0, .ref a0)]) hx hb dX0_commentEnd_52 rfl hl (by decide) rfl (fun ls hl => ?_)
          refine lv_goto (tgt := 4) hx hb dX0_commentEnd_53 (by decide) ?_
          exact ih (lf T (Z 2) (q + 1)) true (by omega) (by omega) (by rw [cmE, if_pos (by omega), if_neg (fun z => absurd z.1 (by rw [c_8]; decide)), show decide (gb T (Z 2) q = 42) = true by simp; omega] at hQ; exact hQ) _ (lv_sub hl [3, 1, 0] rfl)
      · have c_8 := mt (b2i_z b).mpr c_8
        refine lv_iload hx hb dX0_commentEnd_31 (lv_at hl 1 rfl) ?_
        refine lv_bipush (v := nI 47) hx hb dX0_commentEnd_33 (by decide) ?_
        refine lv_icmp_ne (tgt := 40) hx hb dX0_commentEnd_35 (by decide) (fun c_10 => ?_) (fun c_10 => ?_)
        · have c_10 := mt (bI_eqN (by omega)).mpr c_10
          refine lv_iload hx hb dX0_commentEnd_40 (lv_at hl 1 rfl) ?_
          refine lv_bipush (v := nI 42) hx hb dX0_commentEnd_42 (by decide) ?_
          refine lv_icmp_ne (tgt := 51) hx hb dX0_commentEnd_44 (by decide) (fun c_11 => ?_) (fun c_11 => ?_)
          · have c_11 := mt (bI_eqN (by omega)).mpr c_11
            refine lv_iconst (v := nI 0) hx hb dX0_commentEnd_51 (by decide) ?_
            refine lv_istore_n (lv' := [(3, .int (nI 0)), (2, .int (nI (lf T (Z 2) (q + 1)))), (4, .int (bI (gb T (Z 2) q))), (0, .ref a0)]) hx hb dX0_commentEnd_52 rfl hl (by decide) rfl (fun ls hl => ?_)
            refine lv_goto (tgt := 4) hx hb dX0_commentEnd_53 (by decide) ?_
            exact ih (lf T (Z 2) (q + 1)) false (by omega) (by omega) (by rw [cmE, if_pos (by omega), if_neg (fun z => by have := z.2; omega), show decide (gb T (Z 2) q = 42) = false by simp; omega] at hQ; exact hQ) _ (lv_sub hl [3, 1, 0] rfl)
          · have c_11 := (bI_eqN (by omega)).mp c_11
            refine lv_iconst (v := nI 1) hx hb dX0_commentEnd_47 (by decide) ?_
            refine lv_goto (tgt := 52) hx hb dX0_commentEnd_48 (by decide) ?_
            refine lv_istore_n (lv' := [(3, .int (nI 1)), (2, .int (nI (lf T (Z 2) (q + 1)))), (4, .int (bI (gb T (Z 2) q))), (0, .ref a0)]) hx hb dX0_commentEnd_52 rfl hl (by decide) rfl (fun ls hl => ?_)
            refine lv_goto (tgt := 4) hx hb dX0_commentEnd_53 (by decide) ?_
            exact ih (lf T (Z 2) (q + 1)) true (by omega) (by omega) (by rw [cmE, if_pos (by omega), if_neg (fun z => by have := z.2; omega), show decide (gb T (Z 2) q = 42) = true by simp; omega] at hQ; exact hQ) _ (lv_sub hl [3, 1, 0] rfl)
        · have c_10 := (bI_eqN (by omega)).mp c_10
          refine lv_iload_n hx hb dX0_commentEnd_38 rfl (lv_at hl 0 rfl) ?_
          exact W.iret (v := nI (lf T (Z 2) (q + 1))) hx hb hr (fun t ht hW => ⟨_, rfl, (by rw [cmE, if_pos (by omega), if_pos ⟨by simpa using c_8, by omega⟩] at hQ; exact hQ), ht⟩) (fun q h => by cases h) dX0_commentEnd_39
set_option maxHeartbeats 4000000 in
set_option maxRecDepth 100000 in
theorem c_commentEnd (l : Launch) (dC : Nat → ClassId) (dI : Nat → Nat → Nat) (cA : ClassId) (a0 a1 a2 : Nat) (Z : Nat → Nat) (T K : Nat → Int64) (q : Nat) (hn : Z 2 ≤ 32768) (hq : q < 2 ^ 30 - 1) : Met l yX0_commentEnd wX0_commentEnd ({ frames := 2, cells := 0, slots := 0, locals := 44 }) (va_Pc [.ref a0, .int (nI q)] (lmR dC dI cA a0 a1 a2 (Z, T, K))) (vp_Si (fun r => r = oI (cmE T (Z 2) q false))) 0 0 (fun _ => False) := by
  refine Met.ofW (cc := cX0_commentEnd) (maxL := 5) (ret := (some .int)) (by decide) rfl ?_
  intro p e s m args below meth c s₁ B hml hv
  obtain ⟨rfl, hP, hK⟩ := hv
  have hx := B.exec
  have hb := B.bytes
  have hr := B.returns
  have hts : ∀ w ∈ bw, w.before _ s = true := fun w h => atoms_spec (ws := wX0_commentEnd) B.pre w (bc w h)
  have hown : s.vm.findClass RX0 = some m.cls := findClass_of_methodNamed B.named
  have hlocks := B.notSynchronized
  have hl := lv_entry ([.ref a0, .int (nI q)]) (n := 5) (Nat.le_of_ble_eq_true rfl)
  rw [lg_entry_eq]
  generalize (lg_sl ([.ref a0, .int (nI q)]) ++ List.replicate (5 - (lg_sl ([.ref a0, .int (nI q)])).length) Slot.unset).toArray = ls at hl ⊢
  have hl : lv_has ls 5 [(0, .ref a0), (1, .int (nI q))] := hl
  refine lv_iload_n hx hb dX0_commentEnd_0 rfl (lv_at hl 1 rfl) ?_
  refine lv_istore_n (lv' := [(2, .int (nI q)), (0, .ref a0), (1, .int (nI q))]) hx hb dX0_commentEnd_1 rfl hl (by decide) rfl (fun ls hl => ?_)
  refine lv_iconst (v := nI 0) hx hb dX0_commentEnd_2 (by decide) ?_
  refine lv_istore_n (lv' := [(3, .int (nI 0)), (2, .int (nI q)), (0, .ref a0), (1, .int (nI q))]) hx hb dX0_commentEnd_3 rfl hl (by decide) rfl (fun ls hl => ?_)
  exact k_commentEnd_4 hx hb hr hml hown hts hlocks hK hP hn (fun r => r = oI (cmE T (Z 2) q false)) (Z 2 - q + 1) q false (by omega) hq rfl _ (lv_sub hl [2, 1, 0] rfl)
