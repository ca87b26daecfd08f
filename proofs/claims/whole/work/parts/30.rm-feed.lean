theorem fd_b {x i : Nat} (hi : i < 8) : ((lN x >>> ((nI (8 * i)).toInt64 &&& 63)).toInt32).toInt8.toInt32 = sb_b (x / 2 ^ (8 * i) % 256) := by
  unfold sb_b
  apply congrArg Int8.toInt32
  apply Int8.toBitVec_inj.mp
  apply BitVec.eq_of_getLsbD_eq
  intro j hj
  rw [wb_c (8 * i) (by omega)]
  rw [Int32.toBitVec_toInt8, Int32.toBitVec_toInt8, Int64.toBitVec_toInt32, Int64.toBitVec_shiftRight, wb_tb, wb_tb, wb_sm (8 * i) (by omega)]
  have e : (nI (x / 2 ^ (8 * i) % 256)).toBitVec = BitVec.ofNat 32 (x / 2 ^ (8 * i) % 256) := rfl
  rw [e, BitVec.getLsbD_signExtend, BitVec.getLsbD_signExtend, BitVec.getLsbD_signExtend]
  simp only [hj, decide_true, Bool.true_and, show j < 32 by omega, if_true]
  rw [BitVec.sshiftRight_eq', BitVec.toNat_ofNat, Nat.mod_eq_of_lt (show 8 * i < 2 ^ 64 by omega), BitVec.getLsbD_sshiftRight, BitVec.getLsbD_ofNat, BitVec.getLsbD_ofNat]
  rw [show (256 : Nat) = 2 ^ 8 by decide, Nat.testBit_mod_two_pow, Nat.testBit_div_two_pow]
  have h1 : ¬ 64 ≤ j := by omega
  have h2 : 8 * i + j < 64 := by omega
  have h3 : j + 8 * i < 64 := by omega
  simp [h1, h2, h3, hj, show j < 32 by omega, show j < 64 by omega, Nat.add_comm]
theorem sub_T {a b : Nat} (ha : a < 2 ^ 31) (hb : b < 2 ^ 31) : (nI a - nI b).toInt = (a : Int) - b := by
  rw [Int32.toInt_sub, nI_toInt ha, nI_toInt hb]
  apply Int.bmod_eq_of_le_mul_two <;> omega
set_option maxHeartbeats 4000000 in
set_option maxRecDepth 100000 in
theorem r_feed_bad (l : Launch) (dC : Nat → ClassId) (dI : Nat → Nat → Nat) (ct : Nat → ClassId) (ad : Nat → Nat) (sz : Nat) (Y x1 x2 x3 x4 x5 x6 x7 x8 x9 : Nat → Nat) (x : Nat) (n : Int32) (h : n < nI 1 ∨ nI 8 < n) : Met l yX1_feed wX1_feed ({ frames := 0, cells := 0, slots := 0, locals := 0 }) (va_Pc [.ref (ad 0), .long (lN x), .int (n)] (rmP dC dI ct ad sz (Y, x1, x2, x3, x4, x5, x6, x7, x8, x9))) (va_Qi (fun (r : Int32) (u : rmU) => r = (-1) ∧ u = (Y, x1, x2, x3, x4, x5, x6, x7, x8, x9)) (rmB dC dI ct ad (va_A (rmW ct ad (Y, x1, x2, x3, x4, x5, x6, x7, x8, x9)) sz)) (va_A (rmW ct ad (Y, x1, x2, x3, x4, x5, x6, x7, x8, x9)) sz)) 0 0 (va_A (rmW ct ad (Y, x1, x2, x3, x4, x5, x6, x7, x8, x9)) sz) := by
  refine Met.ofW (cc := cX1_feed) (maxL := 5) (ret := (some .int)) (by decide) rfl ?_
  intro p e s m args below meth c s₁ B hml hv
  obtain ⟨rfl, hsz, hP, hK, hD0⟩ := hv
  have hx := B.exec
  have hb := B.bytes
  have hr := B.returns
  have hts : ∀ w ∈ bw, w.before _ s = true := fun w h => atoms_spec (ws := wX1_feed) B.pre w (bc w h)
  have hown : s.vm.findClass RX1 = some m.cls := findClass_of_methodNamed B.named
  have hlocks := B.notSynchronized
  subst hsz
  have hD := hD0.self (sz := s.heap.size)
  generalize hAe : va_A (rmW ct ad (Y, x1, x2, x3, x4, x5, x6, x7, x8, x9)) s.heap.size = A at hD ⊢
  have hA : ∀ q : Nat, s.heap.size ≤ q → A q := fun q h => by rw [← hAe]; exact Or.inr h
  have hS : va_S A s.heap s.heap [] := va_S.rf
  have hl := lv_entry ([.ref (ad 0), .long (lN x), .int (n)]) (n := 5) (Nat.le_of_ble_eq_true rfl)
  rw [lg_entry_eq]
  generalize (lg_sl ([.ref (ad 0), .long (lN x), .int (n)]) ++ List.replicate (5 - (lg_sl ([.ref (ad 0), .long (lN x), .int (n)])).length) Slot.unset).toArray = ls at hl ⊢
  have hl : lv_has ls 5 [(0, .ref (ad 0)), (1, .long (lN x)), (3, .int (n))] := hl
  refine lv_iload_n hx hb dX1_feed_0 rfl (lv_at hl 2 rfl) ?_
  refine lv_iconst (v := nI 1) hx hb dX1_feed_1 (by decide) ?_
  refine lv_icmp_lt (tgt := 11) hx hb dX1_feed_2 (by decide) (fun c_1 => ?_) (fun c_1 => ?_)
  · refine lv_iconst (v := (-1)) hx hb dX1_feed_11 (by decide) ?_
    exact W.iret (v := (-1)) hx hb hr (fun t ht hW => ⟨⟨_, (Y, x1, x2, x3, x4, x5, x6, x7, x8, x9), rfl, ⟨rfl, rfl⟩, by rw [ht]; exact hP, va_K.moved hW.alike hK, hD⟩, hS.F ht⟩) hS.2.2 dX1_feed_12
  · refine lv_iload_n hx hb dX1_feed_5 rfl (lv_at hl 2 rfl) ?_
    refine lv_bipush (v := nI 8) hx hb dX1_feed_6 (by decide) ?_
    refine lv_icmp_le (tgt := 13) hx hb dX1_feed_8 (by decide) (fun c_2 => ?_) (fun c_2 => ?_)
    · exact (h.elim c_1 (fun q => Int32.not_lt.mpr c_2 q)).elim
    · refine lv_iconst (v := (-1)) hx hb dX1_feed_11 (by decide) ?_
      exact W.iret (v := (-1)) hx hb hr (fun t ht hW => ⟨⟨_, (Y, x1, x2, x3, x4, x5, x6, x7, x8, x9), rfl, ⟨rfl, rfl⟩, by rw [ht]; exact hP, va_K.moved hW.alike hK, hD⟩, hS.F ht⟩) hS.2.2 dX1_feed_12
set_option maxHeartbeats 4000000 in
set_option maxRecDepth 100000 in
theorem r_feed_full (l : Launch) (dC : Nat → ClassId) (dI : Nat → Nat → Nat) (ct : Nat → ClassId) (ad : Nat → Nat) (sz : Nat) (Y x1 x2 x3 x4 x5 x6 x7 x8 x9 : Nat → Nat) (x : Nat) (k0 : Nat) (hn : Y 0 ≤ 32768) (hk1 : 1 ≤ k0) (hk8 : k0 ≤ 8) (hfit : 32768 < Y 0 + k0) : Met l yX1_feed wX1_feed ({ frames := 0, cells := 0, slots := 0, locals := 0 }) (va_Pc [.ref (ad 0), .long (lN x), .int (nI k0)] (rmP dC dI ct ad sz (Y, x1, x2, x3, x4, x5, x6, x7, x8, x9))) (va_Qi (fun (r : Int32) (u : rmU) => r = (-3) ∧ u = (Y, x1, x2, x3, x4, x5, x6, x7, x8, x9)) (rmB dC dI ct ad (va_A (rmW ct ad (Y, x1, x2, x3, x4, x5, x6, x7, x8, x9)) sz)) (va_A (rmW ct ad (Y, x1, x2, x3, x4, x5, x6, x7, x8, x9)) sz)) 0 0 (va_A (rmW ct ad (Y, x1, x2, x3, x4, x5, x6, x7, x8, x9)) sz) := by
  refine Met.ofW (cc := cX1_feed) (maxL := 5) (ret := (some .int)) (by decide) rfl ?_
  intro p e s m args below meth c s₁ B hml hv
  obtain ⟨rfl, hsz, hP, hK, hD0⟩ := hv
  have hx := B.exec
  have hb := B.bytes
  have hr := B.returns
  have hts : ∀ w ∈ bw, w.before _ s = true := fun w h => atoms_spec (ws := wX1_feed) B.pre w (bc w h)
  have hown : s.vm.findClass RX1 = some m.cls := findClass_of_methodNamed B.named
  have hlocks := B.notSynchronized
  subst hsz
  have hD := hD0.self (sz := s.heap.size)
  generalize hAe : va_A (rmW ct ad (Y, x1, x2, x3, x4, x5, x6, x7, x8, x9)) s.heap.size = A at hD ⊢
  have hA : ∀ q : Nat, s.heap.size ≤ q → A q := fun q h => by rw [← hAe]; exact Or.inr h
  have hS : va_S A s.heap s.heap [] := va_S.rf
  have hl := lv_entry ([.ref (ad 0), .long (lN x), .int (nI k0)]) (n := 5) (Nat.le_of_ble_eq_true rfl)
  rw [lg_entry_eq]
  generalize (lg_sl ([.ref (ad 0), .long (lN x), .int (nI k0)]) ++ List.replicate (5 - (lg_sl ([.ref (ad 0), .long (lN x), .int (nI k0)])).length) Slot.unset).toArray = ls at hl ⊢
  have hl : lv_has ls 5 [(0, .ref (ad 0)), (1, .long (lN x)), (3, .int (nI k0))] := hl
  refine lv_iload_n hx hb dX1_feed_0 rfl (lv_at hl 2 rfl) ?_
  refine lv_iconst (v := nI 1) hx hb dX1_feed_1 (by decide) ?_
  refine lv_icmp_lt (tgt := 11) hx hb dX1_feed_2 (by decide) (fun c_1 => ?_) (fun c_1 => ?_)
  · have c_1 := (nI_ltI (a := k0) (b := 1) (by omega) (by omega)).mp c_1
    omega
  · have c_1 := mt (nI_ltI (a := k0) (b := 1) (by omega) (by omega)).mpr c_1
    refine lv_iload_n hx hb dX1_feed_5 rfl (lv_at hl 2 rfl) ?_
    refine lv_bipush (v := nI 8) hx hb dX1_feed_6 (by decide) ?_
    refine lv_icmp_le (tgt := 13) hx hb dX1_feed_8 (by decide) (fun c_2 => ?_) (fun c_2 => ?_)
    · have c_2 := (nI_leI (a := k0) (b := 8) (by omega) (by omega)).mp c_2
      refine lv_aload_n hx hb dX1_feed_13 rfl (lv_at hl 0 rfl) ?_
      refine va_get (D := (dC, dI)) (ci := 1) (v := .int (nI (Y 0))) (C := RX1) (T := TX1) (N := 20) hx hb hts inX1 hown hK hP 0 rfl rfl 0 (by decide) (hts _ fl_X1_43) (fun _ h9 => h9) rfl dX1_feed_14 ?_
      refine lv_iload_n hx hb dX1_feed_17 rfl (lv_at hl 2 rfl) ?_
      refine lv_iadd hx hb dX1_feed_18 ?_
      refine lv_topi (fun x_3 e_4 => ?_)
      obtain rfl : x_3 = nI (Y 0 + k0) := e_4.trans (nI_add (Y 0) k0)
      refine lv_ldc (v := nI 32768) hx hb hown (hts _ cn_X1_9) dX1_feed_19 ?_
      refine lv_icmp_le (tgt := 27) hx hb dX1_feed_21 (by decide) (fun c_5 => ?_) (fun c_5 => ?_)
      · have c_5 := (nI_leI (a := Y 0 + k0) (b := 32768) (by omega) (by omega)).mp c_5
        omega
      · have c_5 := mt (nI_leI (a := Y 0 + k0) (b := 32768) (by omega) (by omega)).mpr c_5
        refine lv_bipush (v := (-3)) hx hb dX1_feed_24 (by decide) ?_
        exact W.iret (v := (-3)) hx hb hr (fun t ht hW => ⟨⟨_, (Y, x1, x2, x3, x4, x5, x6, x7, x8, x9), rfl, ⟨rfl, rfl⟩, by rw [ht]; exact hP, va_K.moved hW.alike hK, hD⟩, hS.F ht⟩) hS.2.2 dX1_feed_26
    · have c_2 := mt (nI_leI (a := k0) (b := 8) (by omega) (by omega)).mpr c_2
      omega
set_option maxHeartbeats 4000000 in
set_option maxRecDepth 100000 in
theorem q_feed_30 {p : Program} {l : Launch} {e : Env} {s : State} {m : MethodId} {args : Array Value} {below : List Frame} {meth : Method} {c : Code} (hx : p.tables.exec = Jvm.exec) (hb : c.code = cX1_feed) (hr : meth.sig.returnType = (some .int)) (hml : c.maxLocals = 5) (hown : s.vm.findClass RX1 = some m.cls) (hts : ∀ w ∈ bw, w.before args s = true) (hlocks : meth.locks = false) {A : Nat → Prop} {dC : Nat → ClassId} {dI : Nat → Nat → Nat} {ct : Nat → ClassId} {ad : Nat → Nat} {Y x1 x2 x3 x4 x5 x6 x7 x8 x9 : Nat → Nat} (hK : va_K (dC, dI) vwCl (rmT ct) s) (hA : ∀ q, s.heap.size ≤ q → A q) (x k0 : Nat) (hk8 : k0 ≤ 8) (hfit : Y 0 + k0 ≤ 32768) (P : Int32 → rmU → Prop) : ∀ (k : Nat) (i : Nat), (k0 - i) < k → (i ≤ k0) → P (nI (Y 0 + k0)) (zu Y 0 (Y 0 + k0), cpG (fun i => x / 2 ^ (8 * i) % 256) (Y 0) k0 x1, x2, x3, x4, x5, x6, x7, x8, x9) → ∀ (H : Heap) (locs : List Loc), va_P (dC, dI) vwCl (rmW ct ad ((zu Y 0 (Y 0 + i)), (cpG (fun i => x / 2 ^ (8 * i) % 256) (Y 0) i x1), x2, x3, x4, x5, x6, x7, x8, x9)) H → va_D A (rmW ct ad ((zu Y 0 (Y 0 + i)), (cpG (fun i => x / 2 ^ (8 * i) % 256) (Y 0) i x1), x2, x3, x4, x5, x6, x7, x8, x9)) → va_S A s.heap H locs → ∀ ls, lv_has ls 5 [(0, .ref (ad 0)), (1, .long (lN x)), (3, .int (nI k0)), (4, .int (nI i))] → W p l e (headSpec wX1_feed ({ frames := 0, cells := 0, slots := 0, locals := 0 })).room s m args below meth c H locs 0 0 (MQ below (va_Qi P (rmB dC dI ct ad A) A) args s 0 0 A) (F0 m 30 ls []) := by
  intro k
  induction k with
  | zero => intro i hk; exact absurd hk (by omega)
  | succ k ih =>
    intro i hk hi hQ H locs hP hD hS ls hl
    refine lv_iload hx hb dX1_feed_30 (lv_at hl 3 rfl) ?_
    refine lv_iload_n hx hb dX1_feed_32 rfl (lv_at hl 2 rfl) ?_
    refine lv_icmp_ge (tgt := 70) hx hb dX1_feed_33 (by decide) (fun c_1 => ?_) (fun c_1 => ?_)
    · have c_1 := (nI_leI (a := k0) (b := i) (by omega) (by omega)).mp c_1
      refine lv_aload_n hx hb dX1_feed_70 rfl (lv_at hl 0 rfl) ?_
      refine va_get (D := (dC, dI)) (ci := 1) (v := .int (nI (Y 0 + i))) (C := RX1) (T := TX1) (N := 20) hx hb hts inX1 hown hK hP 0 rfl rfl 0 (by decide) (hts _ fl_X1_43) (fun _ h9 => h9) rfl dX1_feed_71 ?_
      exact W.iret (v := nI (Y 0 + i)) hx hb hr (fun t ht hW => ⟨⟨_, ((zu Y 0 (Y 0 + i)), (cpG (fun i => x / 2 ^ (8 * i) % 256) (Y 0) i x1), x2, x3, x4, x5, x6, x7, x8, x9), rfl, (by rw [show k0 = i by omega] at hQ; exact hQ), by rw [ht]; exact hP, va_K.moved hW.alike hK, hD⟩, hS.F ht⟩) hS.2.2 dX1_feed_74
    · have c_1 := mt (nI_leI (a := k0) (b := i) (by omega) (by omega)).mpr c_1
      refine lv_aload_n hx hb dX1_feed_36 rfl (lv_at hl 0 rfl) ?_
      refine va_get (D := (dC, dI)) (ci := 1) (v := .ref (ad 1)) (C := RX1) (T := TX1) (N := 20) hx hb hts inX1 hown hK hP 0 rfl rfl 1 (by decide) (hts _ fl_X1_10) (fun _ h9 => h9) rfl dX1_feed_37 ?_
      refine lv_aload_n hx hb dX1_feed_40 rfl (lv_at hl 0 rfl) ?_
      refine va_get (D := (dC, dI)) (ci := 1) (v := .int (nI (Y 0 + i))) (C := RX1) (T := TX1) (N := 20) hx hb hts inX1 hown hK hP 0 rfl rfl 0 (by decide) (hts _ fl_X1_43) (fun _ h9 => h9) rfl dX1_feed_41 ?_
      refine lv_lload_n hx hb dX1_feed_44 rfl (lv_at hl 1 rfl) ?_
      refine lv_bipush (v := nI 8) hx hb dX1_feed_45 (by decide) ?_
      refine lv_iload hx hb dX1_feed_47 (lv_at hl 3 rfl) ?_
      refine lv_imul hx hb dX1_feed_49 ?_
      refine lv_topi (fun x_2 e_3 => ?_)
      obtain rfl : x_2 = nI (8 * i) := e_3.trans (pk_mul 8 i)
      refine lv_lshr hx hb dX1_feed_50 rfl ?_
      refine lv_l2i hx hb dX1_feed_51 rfl ?_
      refine lv_i2b (v := sb_b (x / 2 ^ (8 * i) % 256)) hx hb dX1_feed_52 (fd_b (by omega)) ?_
      refine va_bast hx hb hK hP hD hS 1 0 rfl rfl (vp_in_nI (by omega) (by decide)) dX1_feed_53 (fun H locs hP hD hS => ?_)
      rw [nI_clamp (by omega), nu_b] at hP hD
      have hP : va_P (dC, dI) vwCl (rmW ct ad ((zu Y 0 (Y 0 + i)), (nu ((cpG (fun i => x / 2 ^ (8 * i) % 256) (Y 0) i x1)) (Y 0 + i) (x / 2 ^ (8 * i) % 256)), x2, x3, x4, x5, x6, x7, x8, x9)) H := hP
      have hD : va_D A (rmW ct ad ((zu Y 0 (Y 0 + i)), (nu ((cpG (fun i => x / 2 ^ (8 * i) % 256) (Y 0) i x1)) (Y 0 + i) (x / 2 ^ (8 * i) % 256)), x2, x3, x4, x5, x6, x7, x8, x9)) := hD
      refine lv_aload_n hx hb dX1_feed_54 rfl (lv_at hl 0 rfl) ?_
      refine lv_dup hx hb dX1_feed_55 rfl ?_
      refine va_get (D := (dC, dI)) (ci := 1) (v := .int (nI (Y 0 + i))) (C := RX1) (T := TX1) (N := 20) hx hb hts inX1 hown hK hP 0 rfl rfl 0 (by decide) (hts _ fl_X1_43) (fun _ h9 => h9) rfl dX1_feed_56 ?_
      refine lv_iconst (v := nI 1) hx hb dX1_feed_59 (by decide) ?_
      refine lv_iadd hx hb dX1_feed_60 ?_
      refine lv_topi (fun x_4 e_5 => ?_)
      obtain rfl : x_4 = nI (Y 0 + i + 1) := e_5.trans (nI_add (Y 0 + i) 1)
      refine va_put (D := (dC, dI)) (ci := 1) (v := .int (nI (Y 0 + i + 1))) (ty := .int) (C := RX1) (T := TX1) (N := 20) hx hb hts inX1 tyX1 okX1 nmX1 hown hK hP hD hS 0 rfl rfl 0 (by decide) (hts _ fl_X1_43) (fun _ h9 => h9) rfl (by decide +kernel) rfl rfl (Nat.le_of_ble_eq_true rfl) dX1_feed_61 (fun H locs hP hD hS => ?_)
      have hP : va_P (dC, dI) vwCl (rmW ct ad ((zu Y 0 (Y 0 + i + 1)), (nu ((cpG (fun i => x / 2 ^ (8 * i) % 256) (Y 0) i x1)) (Y 0 + i) (x / 2 ^ (8 * i) % 256)), x2, x3, x4, x5, x6, x7, x8, x9)) H := hP
      have hD : va_D A (rmW ct ad ((zu Y 0 (Y 0 + i + 1)), (nu ((cpG (fun i => x / 2 ^ (8 * i) % 256) (Y 0) i x1)) (Y 0 + i) (x / 2 ^ (8 * i) % 256)), x2, x3, x4, x5, x6, x7, x8, x9)) := hD
      refine lv_iinc (v := nI (i + 1)) (lv' := [(4, .int (nI (i + 1))), (0, .ref (ad 0)), (1, .long (lN x)), (3, .int (nI k0))]) hx hb dX1_feed_64 hl (k := 3) rfl (by exact nI_add i 1) (by decide) rfl (fun ls hl => ?_)
      refine lv_goto (tgt := 30) hx hb dX1_feed_67 (by decide) ?_
      rw [cpG_s (fun i => x / 2 ^ (8 * i) % 256)] at hP hD
      exact ih (i + 1) (by omega) (by omega) hQ _ _ hP hD hS _ (lv_sub hl [1, 2, 3, 0] rfl)
set_option maxHeartbeats 4000000 in
set_option maxRecDepth 100000 in
theorem r_feed_ok (l : Launch) (dC : Nat → ClassId) (dI : Nat → Nat → Nat) (ct : Nat → ClassId) (ad : Nat → Nat) (sz : Nat) (Y x1 x2 x3 x4 x5 x6 x7 x8 x9 : Nat → Nat) (x : Nat) (k0 : Nat) (hk1 : 1 ≤ k0) (hk8 : k0 ≤ 8) (hfit : Y 0 + k0 ≤ 32768) : Met l yX1_feed wX1_feed ({ frames := 0, cells := 0, slots := 0, locals := 0 }) (va_Pc [.ref (ad 0), .long (lN x), .int (nI k0)] (rmP dC dI ct ad sz (Y, x1, x2, x3, x4, x5, x6, x7, x8, x9))) (va_Qi (fun (r : Int32) (u : rmU) => r = nI (Y 0 + k0) ∧ u = (zu Y 0 (Y 0 + k0), cpG (fun i => x / 2 ^ (8 * i) % 256) (Y 0) k0 x1, x2, x3, x4, x5, x6, x7, x8, x9)) (rmB dC dI ct ad (va_A (rmW ct ad (Y, x1, x2, x3, x4, x5, x6, x7, x8, x9)) sz)) (va_A (rmW ct ad (Y, x1, x2, x3, x4, x5, x6, x7, x8, x9)) sz)) 0 0 (va_A (rmW ct ad (Y, x1, x2, x3, x4, x5, x6, x7, x8, x9)) sz) := by
  refine Met.ofW (cc := cX1_feed) (maxL := 5) (ret := (some .int)) (by decide) rfl ?_
  intro p e s m args below meth c s₁ B hml hv
  obtain ⟨rfl, hsz, hP, hK, hD0⟩ := hv
  have hx := B.exec
  have hb := B.bytes
  have hr := B.returns
  have hts : ∀ w ∈ bw, w.before _ s = true := fun w h => atoms_spec (ws := wX1_feed) B.pre w (bc w h)
  have hown : s.vm.findClass RX1 = some m.cls := findClass_of_methodNamed B.named
  have hlocks := B.notSynchronized
  subst hsz
  have hD := hD0.self (sz := s.heap.size)
  generalize hAe : va_A (rmW ct ad (Y, x1, x2, x3, x4, x5, x6, x7, x8, x9)) s.heap.size = A at hD ⊢
  have hA : ∀ q : Nat, s.heap.size ≤ q → A q := fun q h => by rw [← hAe]; exact Or.inr h
  have hS : va_S A s.heap s.heap [] := va_S.rf
  have hl := lv_entry ([.ref (ad 0), .long (lN x), .int (nI k0)]) (n := 5) (Nat.le_of_ble_eq_true rfl)
  rw [lg_entry_eq]
  generalize (lg_sl ([.ref (ad 0), .long (lN x), .int (nI k0)]) ++ List.replicate (5 - (lg_sl ([.ref (ad 0), .long (lN x), .int (nI k0)])).length) Slot.unset).toArray = ls at hl ⊢
  have hl : lv_has ls 5 [(0, .ref (ad 0)), (1, .long (lN x)), (3, .int (nI k0))] := hl
  refine lv_iload_n hx hb dX1_feed_0 rfl (lv_at hl 2 rfl) ?_
  refine lv_iconst (v := nI 1) hx hb dX1_feed_1 (by decide) ?_
  refine lv_icmp_lt (tgt := 11) hx hb dX1_feed_2 (by decide) (fun c_1 => ?_) (fun c_1 => ?_)
  · have c_1 := (nI_ltI (a := k0) (b := 1) (by omega) (by omega)).mp c_1
    omega
  · have c_1 := mt (nI_ltI (a := k0) (b := 1) (by omega) (by omega)).mpr c_1
    refine lv_iload_n hx hb dX1_feed_5 rfl (lv_at hl 2 rfl) ?_
    refine lv_bipush (v := nI 8) hx hb dX1_feed_6 (by decide) ?_
    refine lv_icmp_le (tgt := 13) hx hb dX1_feed_8 (by decide) (fun c_2 => ?_) (fun c_2 => ?_)
    · have c_2 := (nI_leI (a := k0) (b := 8) (by omega) (by omega)).mp c_2
      refine lv_aload_n hx hb dX1_feed_13 rfl (lv_at hl 0 rfl) ?_
      refine va_get (D := (dC, dI)) (ci := 1) (v := .int (nI (Y 0))) (C := RX1) (T := TX1) (N := 20) hx hb hts inX1 hown hK hP 0 rfl rfl 0 (by decide) (hts _ fl_X1_43) (fun _ h9 => h9) rfl dX1_feed_14 ?_
      refine lv_iload_n hx hb dX1_feed_17 rfl (lv_at hl 2 rfl) ?_
      refine lv_iadd hx hb dX1_feed_18 ?_
      refine lv_topi (fun x_3 e_4 => ?_)
      obtain rfl : x_3 = nI (Y 0 + k0) := e_4.trans (nI_add (Y 0) k0)
      refine lv_ldc (v := nI 32768) hx hb hown (hts _ cn_X1_9) dX1_feed_19 ?_
      refine lv_icmp_le (tgt := 27) hx hb dX1_feed_21 (by decide) (fun c_5 => ?_) (fun c_5 => ?_)
      · have c_5 := (nI_leI (a := Y 0 + k0) (b := 32768) (by omega) (by omega)).mp c_5
        refine lv_iconst (v := nI 0) hx hb dX1_feed_27 (by decide) ?_
        refine lv_istore (lv' := [(4, .int (nI 0)), (0, .ref (ad 0)), (1, .long (lN x)), (3, .int (nI k0))]) hx hb dX1_feed_28 hl (by decide) rfl (fun ls hl => ?_)
        have hP : va_P (dC, dI) vwCl (rmW ct ad (zu Y 0 (Y 0 + 0), cpG (fun i => x / 2 ^ (8 * i) % 256) (Y 0) 0 x1, x2, x3, x4, x5, x6, x7, x8, x9)) s.heap := by rw [cpG_0]; exact hP
        have hD : va_D A (rmW ct ad (zu Y 0 (Y 0 + 0), cpG (fun i => x / 2 ^ (8 * i) % 256) (Y 0) 0 x1, x2, x3, x4, x5, x6, x7, x8, x9)) := by rw [cpG_0]; exact hD
        exact q_feed_30 hx hb hr hml hown hts hlocks hK hA x k0 hk8 hfit (fun r u => r = nI (Y 0 + k0) ∧ u = (zu Y 0 (Y 0 + k0), cpG (fun i => x / 2 ^ (8 * i) % 256) (Y 0) k0 x1, x2, x3, x4, x5, x6, x7, x8, x9)) (k0 + 1) 0 (by omega) (by omega) ⟨rfl, rfl⟩ _ _ hP hD hS _ (lv_sub hl [1, 2, 3, 0] rfl)
      · have c_5 := mt (nI_leI (a := Y 0 + k0) (b := 32768) (by omega) (by omega)).mpr c_5
        omega
    · have c_2 := mt (nI_leI (a := k0) (b := 8) (by omega) (by omega)).mpr c_2
      omega
set_option maxHeartbeats 4000000 in
set_option maxRecDepth 100000 in
theorem r_again_neg (l : Launch) (dC : Nat → ClassId) (dI : Nat → Nat → Nat) (ct : Nat → ClassId) (ad : Nat → Nat) (sz : Nat) (Y x1 x2 x3 x4 x5 x6 x7 x8 x9 : Nat → Nat) (f : Int32) (n : Int32) (h : f < 0) : Met l yX1_again wX1_again ({ frames := 0, cells := 0, slots := 0, locals := 0 }) (va_Pc [.ref (ad 0), .int (f), .int (n)] (rmP dC dI ct ad sz (Y, x1, x2, x3, x4, x5, x6, x7, x8, x9))) (va_Qi (fun (r : Int32) (u : rmU) => r = (-1) ∧ u = (Y, x1, x2, x3, x4, x5, x6, x7, x8, x9)) (rmB dC dI ct ad (va_A (rmW ct ad (Y, x1, x2, x3, x4, x5, x6, x7, x8, x9)) sz)) (va_A (rmW ct ad (Y, x1, x2, x3, x4, x5, x6, x7, x8, x9)) sz)) 0 0 (va_A (rmW ct ad (Y, x1, x2, x3, x4, x5, x6, x7, x8, x9)) sz) := by
  refine Met.ofW (cc := cX1_again) (maxL := 4) (ret := (some .int)) (by decide) rfl ?_
  intro p e s m args below meth c s₁ B hml hv
  obtain ⟨rfl, hsz, hP, hK, hD0⟩ := hv
  have hx := B.exec
  have hb := B.bytes
  have hr := B.returns
  have hts : ∀ w ∈ bw, w.before _ s = true := fun w h => atoms_spec (ws := wX1_again) B.pre w (bc w h)
  have hown : s.vm.findClass RX1 = some m.cls := findClass_of_methodNamed B.named
  have hlocks := B.notSynchronized
  subst hsz
  have hD := hD0.self (sz := s.heap.size)
  generalize hAe : va_A (rmW ct ad (Y, x1, x2, x3, x4, x5, x6, x7, x8, x9)) s.heap.size = A at hD ⊢
  have hA : ∀ q : Nat, s.heap.size ≤ q → A q := fun q h => by rw [← hAe]; exact Or.inr h
  have hS : va_S A s.heap s.heap [] := va_S.rf
  have hl := lv_entry ([.ref (ad 0), .int (f), .int (n)]) (n := 4) (Nat.le_of_ble_eq_true rfl)
  rw [lg_entry_eq]
  generalize (lg_sl ([.ref (ad 0), .int (f), .int (n)]) ++ List.replicate (4 - (lg_sl ([.ref (ad 0), .int (f), .int (n)])).length) Slot.unset).toArray = ls at hl ⊢
  have hl : lv_has ls 4 [(0, .ref (ad 0)), (1, .int (f)), (2, .int (n))] := hl
  refine lv_iload_n hx hb dX1_again_0 rfl (lv_at hl 1 rfl) ?_
  refine lv_if_lt (tgt := 19) hx hb dX1_again_1 (by decide) (fun c_1 => ?_) (fun c_1 => ?_)
  · refine lv_iconst (v := (-1)) hx hb dX1_again_19 (by decide) ?_
    exact W.iret (v := (-1)) hx hb hr (fun t ht hW => ⟨⟨_, (Y, x1, x2, x3, x4, x5, x6, x7, x8, x9), rfl, ⟨rfl, rfl⟩, by rw [ht]; exact hP, va_K.moved hW.alike hK, hD⟩, hS.F ht⟩) hS.2.2 dX1_again_20
  · exact absurd h c_1
set_option maxHeartbeats 4000000 in
set_option maxRecDepth 100000 in
theorem r_again_cnt (l : Launch) (dC : Nat → ClassId) (dI : Nat → Nat → Nat) (ct : Nat → ClassId) (ad : Nat → Nat) (sz : Nat) (Y x1 x2 x3 x4 x5 x6 x7 x8 x9 : Nat → Nat) (f : Nat) (n : Int32) (hf : f < 2 ^ 31) (hn : Y 0 ≤ 32768) (h : n < nI 1 ∨ nI (Y 0) < n) : Met l yX1_again wX1_again ({ frames := 0, cells := 0, slots := 0, locals := 0 }) (va_Pc [.ref (ad 0), .int (nI f), .int (n)] (rmP dC dI ct ad sz (Y, x1, x2, x3, x4, x5, x6, x7, x8, x9))) (va_Qi (fun (r : Int32) (u : rmU) => r = (-1) ∧ u = (Y, x1, x2, x3, x4, x5, x6, x7, x8, x9)) (rmB dC dI ct ad (va_A (rmW ct ad (Y, x1, x2, x3, x4, x5, x6, x7, x8, x9)) sz)) (va_A (rmW ct ad (Y, x1, x2, x3, x4, x5, x6, x7, x8, x9)) sz)) 0 0 (va_A (rmW ct ad (Y, x1, x2, x3, x4, x5, x6, x7, x8, x9)) sz) := by
  refine Met.ofW (cc := cX1_again) (maxL := 4) (ret := (some .int)) (by decide) rfl ?_
  intro p e s m args below meth c s₁ B hml hv
  obtain ⟨rfl, hsz, hP, hK, hD0⟩ := hv
  have hx := B.exec
  have hb := B.bytes
  have hr := B.returns
  have hts : ∀ w ∈ bw, w.before _ s = true := fun w h => atoms_spec (ws := wX1_again) B.pre w (bc w h)
  have hown : s.vm.findClass RX1 = some m.cls := findClass_of_methodNamed B.named
  have hlocks := B.notSynchronized
  subst hsz
  have hD := hD0.self (sz := s.heap.size)
  generalize hAe : va_A (rmW ct ad (Y, x1, x2, x3, x4, x5, x6, x7, x8, x9)) s.heap.size = A at hD ⊢
  have hA : ∀ q : Nat, s.heap.size ≤ q → A q := fun q h => by rw [← hAe]; exact Or.inr h
  have hS : va_S A s.heap s.heap [] := va_S.rf
  have hl := lv_entry ([.ref (ad 0), .int (nI f), .int (n)]) (n := 4) (Nat.le_of_ble_eq_true rfl)
  rw [lg_entry_eq]
  generalize (lg_sl ([.ref (ad 0), .int (nI f), .int (n)]) ++ List.replicate (4 - (lg_sl ([.ref (ad 0), .int (nI f), .int (n)])).length) Slot.unset).toArray = ls at hl ⊢
  have hl : lv_has ls 4 [(0, .ref (ad 0)), (1, .int (nI f)), (2, .int (n))] := hl
  refine lv_iload_n hx hb dX1_again_0 rfl (lv_at hl 1 rfl) ?_
  refine lv_if_lt (tgt := 19) hx hb dX1_again_1 (by decide) (fun c_1 => ?_) (fun c_1 => ?_)
  · have c_1 := (nI_ltI (a := f) (b := 0) (by omega) (by omega)).mp c_1
    omega
  · have c_1 := mt (nI_ltI (a := f) (b := 0) (by omega) (by omega)).mpr c_1
    refine lv_iload_n hx hb dX1_again_4 rfl (lv_at hl 2 rfl) ?_
    refine lv_iconst (v := nI 1) hx hb dX1_again_5 (by decide) ?_
    refine lv_icmp_lt (tgt := 19) hx hb dX1_again_6 (by decide) (fun c_2 => ?_) (fun c_2 => ?_)
    · refine lv_iconst (v := (-1)) hx hb dX1_again_19 (by decide) ?_
      exact W.iret (v := (-1)) hx hb hr (fun t ht hW => ⟨⟨_, (Y, x1, x2, x3, x4, x5, x6, x7, x8, x9), rfl, ⟨rfl, rfl⟩, by rw [ht]; exact hP, va_K.moved hW.alike hK, hD⟩, hS.F ht⟩) hS.2.2 dX1_again_20
    · refine lv_iload_n hx hb dX1_again_9 rfl (lv_at hl 2 rfl) ?_
      refine lv_aload_n hx hb dX1_again_10 rfl (lv_at hl 0 rfl) ?_
      refine va_get (D := (dC, dI)) (ci := 1) (v := .int (nI (Y 0))) (C := RX1) (T := TX1) (N := 20) hx hb hts inX1 hown hK hP 0 rfl rfl 0 (by decide) (hts _ fl_X1_43) (fun _ h9 => h9) rfl dX1_again_11 ?_
      refine lv_iload_n hx hb dX1_again_14 rfl (lv_at hl 1 rfl) ?_
      refine lv_isub hx hb dX1_again_15 ?_
      refine lv_icmp_le (tgt := 21) hx hb dX1_again_16 (by decide) (fun c_3 => ?_) (fun c_3 => ?_)
      · exact (h.elim c_2 (fun q => by
          rw [Int32.le_iff_toInt_le, sub_T (by omega) (by omega)] at c_3
          rw [Int32.lt_iff_toInt_lt, nI_toInt (by omega)] at q
          omega)).elim
      · refine lv_iconst (v := (-1)) hx hb dX1_again_19 (by decide) ?_
        exact W.iret (v := (-1)) hx hb hr (fun t ht hW => ⟨⟨_, (Y, x1, x2, x3, x4, x5, x6, x7, x8, x9), rfl, ⟨rfl, rfl⟩, by rw [ht]; exact hP, va_K.moved hW.alike hK, hD⟩, hS.F ht⟩) hS.2.2 dX1_again_20
set_option maxHeartbeats 4000000 in
set_option maxRecDepth 100000 in
theorem r_again_far (l : Launch) (dC : Nat → ClassId) (dI : Nat → Nat → Nat) (ct : Nat → ClassId) (ad : Nat → Nat) (sz : Nat) (Y x1 x2 x3 x4 x5 x6 x7 x8 x9 : Nat → Nat) (f : Nat) (k0 : Nat) (hn : Y 0 ≤ 32768) (hf : f < 2 ^ 31) (hk1 : 1 ≤ k0) (hk8 : k0 ≤ Y 0) (h : Y 0 < f + k0) : Met l yX1_again wX1_again ({ frames := 0, cells := 0, slots := 0, locals := 0 }) (va_Pc [.ref (ad 0), .int (nI f), .int (nI k0)] (rmP dC dI ct ad sz (Y, x1, x2, x3, x4, x5, x6, x7, x8, x9))) (va_Qi (fun (r : Int32) (u : rmU) => r = (-1) ∧ u = (Y, x1, x2, x3, x4, x5, x6, x7, x8, x9)) (rmB dC dI ct ad (va_A (rmW ct ad (Y, x1, x2, x3, x4, x5, x6, x7, x8, x9)) sz)) (va_A (rmW ct ad (Y, x1, x2, x3, x4, x5, x6, x7, x8, x9)) sz)) 0 0 (va_A (rmW ct ad (Y, x1, x2, x3, x4, x5, x6, x7, x8, x9)) sz) := by
  refine Met.ofW (cc := cX1_again) (maxL := 4) (ret := (some .int)) (by decide) rfl ?_
  intro p e s m args below meth c s₁ B hml hv
  obtain ⟨rfl, hsz, hP, hK, hD0⟩ := hv
  have hx := B.exec
  have hb := B.bytes
  have hr := B.returns
  have hts : ∀ w ∈ bw, w.before _ s = true := fun w h => atoms_spec (ws := wX1_again) B.pre w (bc w h)
  have hown : s.vm.findClass RX1 = some m.cls := findClass_of_methodNamed B.named
  have hlocks := B.notSynchronized
  subst hsz
  have hD := hD0.self (sz := s.heap.size)
  generalize hAe : va_A (rmW ct ad (Y, x1, x2, x3, x4, x5, x6, x7, x8, x9)) s.heap.size = A at hD ⊢
  have hA : ∀ q : Nat, s.heap.size ≤ q → A q := fun q h => by rw [← hAe]; exact Or.inr h
  have hS : va_S A s.heap s.heap [] := va_S.rf
  have hl := lv_entry ([.ref (ad 0), .int (nI f), .int (nI k0)]) (n := 4) (Nat.le_of_ble_eq_true rfl)
  rw [lg_entry_eq]
  generalize (lg_sl ([.ref (ad 0), .int (nI f), .int (nI k0)]) ++ List.replicate (4 - (lg_sl ([.ref (ad 0), .int (nI f), .int (nI k0)])).length) Slot.unset).toArray = ls at hl ⊢
  have hl : lv_has ls 4 [(0, .ref (ad 0)), (1, .int (nI f)), (2, .int (nI k0))] := hl
  refine lv_iload_n hx hb dX1_again_0 rfl (lv_at hl 1 rfl) ?_
  refine lv_if_lt (tgt := 19) hx hb dX1_again_1 (by decide) (fun c_1 => ?_) (fun c_1 => ?_)
  · have c_1 := (nI_ltI (a := f) (b := 0) (by omega) (by omega)).mp c_1
    omega
  · have c_1 := mt (nI_ltI (a := f) (b := 0) (by omega) (by omega)).mpr c_1
    refine lv_iload_n hx hb dX1_again_4 rfl (lv_at hl 2 rfl) ?_
    refine lv_iconst (v := nI 1) hx hb dX1_again_5 (by decide) ?_
    refine lv_icmp_lt (tgt := 19) hx hb dX1_again_6 (by decide) (fun c_2 => ?_) (fun c_2 => ?_)
    · have c_2 := (nI_ltI (a := k0) (b := 1) (by omega) (by omega)).mp c_2
      omega
    · have c_2 := mt (nI_ltI (a := k0) (b := 1) (by omega) (by omega)).mpr c_2
      refine lv_iload_n hx hb dX1_again_9 rfl (lv_at hl 2 rfl) ?_
      refine lv_aload_n hx hb dX1_again_10 rfl (lv_at hl 0 rfl) ?_
      refine va_get (D := (dC, dI)) (ci := 1) (v := .int (nI (Y 0))) (C := RX1) (T := TX1) (N := 20) hx hb hts inX1 hown hK hP 0 rfl rfl 0 (by decide) (hts _ fl_X1_43) (fun _ h9 => h9) rfl dX1_again_11 ?_
      refine lv_iload_n hx hb dX1_again_14 rfl (lv_at hl 1 rfl) ?_
      refine lv_isub hx hb dX1_again_15 ?_
      refine lv_icmp_le (tgt := 21) hx hb dX1_again_16 (by decide) (fun c_3 => ?_) (fun c_3 => ?_)
      · (rw [Int32.le_iff_toInt_le, sub_T (by omega) (by omega), nI_toInt (by omega)] at c_3; omega)
      · refine lv_iconst (v := (-1)) hx hb dX1_again_19 (by decide) ?_
        exact W.iret (v := (-1)) hx hb hr (fun t ht hW => ⟨⟨_, (Y, x1, x2, x3, x4, x5, x6, x7, x8, x9), rfl, ⟨rfl, rfl⟩, by rw [ht]; exact hP, va_K.moved hW.alike hK, hD⟩, hS.F ht⟩) hS.2.2 dX1_again_20
set_option maxHeartbeats 4000000 in
set_option maxRecDepth 100000 in
theorem r_again_full (l : Launch) (dC : Nat → ClassId) (dI : Nat → Nat → Nat) (ct : Nat → ClassId) (ad : Nat → Nat) (sz : Nat) (Y x1 x2 x3 x4 x5 x6 x7 x8 x9 : Nat → Nat) (f : Nat) (k0 : Nat) (hn : Y 0 ≤ 32768) (hk1 : 1 ≤ k0) (h : f + k0 ≤ Y 0) (hfit : 32768 < Y 0 + k0) : Met l yX1_again wX1_again ({ frames := 0, cells := 0, slots := 0, locals := 0 }) (va_Pc [.ref (ad 0), .int (nI f), .int (nI k0)] (rmP dC dI ct ad sz (Y, x1, x2, x3, x4, x5, x6, x7, x8, x9))) (va_Qi (fun (r : Int32) (u : rmU) => r = (-3) ∧ u = (Y, x1, x2, x3, x4, x5, x6, x7, x8, x9)) (rmB dC dI ct ad (va_A (rmW ct ad (Y, x1, x2, x3, x4, x5, x6, x7, x8, x9)) sz)) (va_A (rmW ct ad (Y, x1, x2, x3, x4, x5, x6, x7, x8, x9)) sz)) 0 0 (va_A (rmW ct ad (Y, x1, x2, x3, x4, x5, x6, x7, x8, x9)) sz) := by
  refine Met.ofW (cc := cX1_again) (maxL := 4) (ret := (some .int)) (by decide) rfl ?_
  intro p e s m args below meth c s₁ B hml hv
  obtain ⟨rfl, hsz, hP, hK, hD0⟩ := hv
  have hx := B.exec
  have hb := B.bytes
  have hr := B.returns
  have hts : ∀ w ∈ bw, w.before _ s = true := fun w h => atoms_spec (ws := wX1_again) B.pre w (bc w h)
  have hown : s.vm.findClass RX1 = some m.cls := findClass_of_methodNamed B.named
  have hlocks := B.notSynchronized
  subst hsz
  have hD := hD0.self (sz := s.heap.size)
  generalize hAe : va_A (rmW ct ad (Y, x1, x2, x3, x4, x5, x6, x7, x8, x9)) s.heap.size = A at hD ⊢
  have hA : ∀ q : Nat, s.heap.size ≤ q → A q := fun q h => by rw [← hAe]; exact Or.inr h
  have hS : va_S A s.heap s.heap [] := va_S.rf
  have hl := lv_entry ([.ref (ad 0), .int (nI f), .int (nI k0)]) (n := 4) (Nat.le_of_ble_eq_true rfl)
  rw [lg_entry_eq]
  generalize (lg_sl ([.ref (ad 0), .int (nI f), .int (nI k0)]) ++ List.replicate (4 - (lg_sl ([.ref (ad 0), .int (nI f), .int (nI k0)])).length) Slot.unset).toArray = ls at hl ⊢
  have hl : lv_has ls 4 [(0, .ref (ad 0)), (1, .int (nI f)), (2, .int (nI k0))] := hl
  refine lv_iload_n hx hb dX1_again_0 rfl (lv_at hl 1 rfl) ?_
  refine lv_if_lt (tgt := 19) hx hb dX1_again_1 (by decide) (fun c_1 => ?_) (fun c_1 => ?_)
  · have c_1 := (nI_ltI (a := f) (b := 0) (by omega) (by omega)).mp c_1
    omega
  · have c_1 := mt (nI_ltI (a := f) (b := 0) (by omega) (by omega)).mpr c_1
    refine lv_iload_n hx hb dX1_again_4 rfl (lv_at hl 2 rfl) ?_
    refine lv_iconst (v := nI 1) hx hb dX1_again_5 (by decide) ?_
    refine lv_icmp_lt (tgt := 19) hx hb dX1_again_6 (by decide) (fun c_2 => ?_) (fun c_2 => ?_)
    · have c_2 := (nI_ltI (a := k0) (b := 1) (by omega) (by omega)).mp c_2
      omega
    · have c_2 := mt (nI_ltI (a := k0) (b := 1) (by omega) (by omega)).mpr c_2
      refine lv_iload_n hx hb dX1_again_9 rfl (lv_at hl 2 rfl) ?_
      refine lv_aload_n hx hb dX1_again_10 rfl (lv_at hl 0 rfl) ?_
      refine va_get (D := (dC, dI)) (ci := 1) (v := .int (nI (Y 0))) (C := RX1) (T := TX1) (N := 20) hx hb hts inX1 hown hK hP 0 rfl rfl 0 (by decide) (hts _ fl_X1_43) (fun _ h9 => h9) rfl dX1_again_11 ?_
      refine lv_iload_n hx hb dX1_again_14 rfl (lv_at hl 1 rfl) ?_
      refine lv_isub hx hb dX1_again_15 ?_
      refine lv_topi (fun x_3 e_4 => ?_)
      obtain rfl : x_3 = nI (Y 0 - f) := e_4.trans (pk_sub (by omega))
      refine lv_icmp_le (tgt := 21) hx hb dX1_again_16 (by decide) (fun c_5 => ?_) (fun c_5 => ?_)
      · have c_5 := (nI_leI (a := k0) (b := Y 0 - f) (by omega) (by omega)).mp c_5
        refine lv_aload_n hx hb dX1_again_21 rfl (lv_at hl 0 rfl) ?_
        refine va_get (D := (dC, dI)) (ci := 1) (v := .int (nI (Y 0))) (C := RX1) (T := TX1) (N := 20) hx hb hts inX1 hown hK hP 0 rfl rfl 0 (by decide) (hts _ fl_X1_43) (fun _ h9 => h9) rfl dX1_again_22 ?_
        refine lv_iload_n hx hb dX1_again_25 rfl (lv_at hl 2 rfl) ?_
        refine lv_iadd hx hb dX1_again_26 ?_
        refine lv_topi (fun x_6 e_7 => ?_)
        obtain rfl : x_6 = nI (Y 0 + k0) := e_7.trans (nI_add (Y 0) k0)
        refine lv_ldc (v := nI 32768) hx hb hown (hts _ cn_X1_9) dX1_again_27 ?_
        refine lv_icmp_le (tgt := 35) hx hb dX1_again_29 (by decide) (fun c_8 => ?_) (fun c_8 => ?_)
        · have c_8 := (nI_leI (a := Y 0 + k0) (b := 32768) (by omega) (by omega)).mp c_8
          omega
        · have c_8 := mt (nI_leI (a := Y 0 + k0) (b := 32768) (by omega) (by omega)).mpr c_8
          refine lv_bipush (v := (-3)) hx hb dX1_again_32 (by decide) ?_
          exact W.iret (v := (-3)) hx hb hr (fun t ht hW => ⟨⟨_, (Y, x1, x2, x3, x4, x5, x6, x7, x8, x9), rfl, ⟨rfl, rfl⟩, by rw [ht]; exact hP, va_K.moved hW.alike hK, hD⟩, hS.F ht⟩) hS.2.2 dX1_again_34
      · have c_5 := mt (nI_leI (a := k0) (b := Y 0 - f) (by omega) (by omega)).mpr c_5
        omega
set_option maxHeartbeats 4000000 in
set_option maxRecDepth 100000 in
theorem q_again_37 {p : Program} {l : Launch} {e : Env} {s : State} {m : MethodId} {args : Array Value} {below : List Frame} {meth : Method} {c : Code} (hx : p.tables.exec = Jvm.exec) (hb : c.code = cX1_again) (hr : meth.sig.returnType = (some .int)) (hml : c.maxLocals = 4) (hown : s.vm.findClass RX1 = some m.cls) (hts : ∀ w ∈ bw, w.before args s = true) (hlocks : meth.locks = false) {A : Nat → Prop} {dC : Nat → ClassId} {dI : Nat → Nat → Nat} {ct : Nat → ClassId} {ad : Nat → Nat} {Y x1 x2 x3 x4 x5 x6 x7 x8 x9 : Nat → Nat} (hK : va_K (dC, dI) vwCl (rmT ct) s) (hA : ∀ q, s.heap.size ≤ q → A q) (f k0 : Nat) (h : f + k0 ≤ Y 0) (hfit : Y 0 + k0 ≤ 32768) (P : Int32 → rmU → Prop) : ∀ (k : Nat) (i : Nat), (k0 - i) < k → (i ≤ k0) → P (nI (Y 0 + k0)) (zu Y 0 (Y 0 + k0), cpG (fun i => x1 (f + i)) (Y 0) k0 x1, x2, x3, x4, x5, x6, x7, x8, x9) → ∀ (H : Heap) (locs : List Loc), va_P (dC, dI) vwCl (rmW ct ad (Y, (cpG (fun i => x1 (f + i)) (Y 0) i x1), x2, x3, x4, x5, x6, x7, x8, x9)) H → va_D A (rmW ct ad (Y, (cpG (fun i => x1 (f + i)) (Y 0) i x1), x2, x3, x4, x5, x6, x7, x8, x9)) → va_S A s.heap H locs → ∀ ls, lv_has ls 4 [(0, .ref (ad 0)), (1, .int (nI f)), (2, .int (nI k0)), (3, .int (nI i))] → W p l e (headSpec wX1_again ({ frames := 0, cells := 0, slots := 0, locals := 0 })).room s m args below meth c H locs 0 0 (MQ below (va_Qi P (rmB dC dI ct ad A) A) args s 0 0 A) (F0 m 37 ls []) := by
  intro k
  induction k with
  | zero => intro i hk; exact absurd hk (by omega)
  | succ k ih =>
    intro i hk hi hQ H locs hP hD hS ls hl
    refine lv_iload_n hx hb dX1_again_37 rfl (lv_at hl 3 rfl) ?_
    refine lv_iload_n hx hb dX1_again_38 rfl (lv_at hl 2 rfl) ?_
    refine lv_icmp_ge (tgt := 67) hx hb dX1_again_39 (by decide) (fun c_1 => ?_) (fun c_1 => ?_)
    · have c_1 := (nI_leI (a := k0) (b := i) (by omega) (by omega)).mp c_1
      refine lv_aload_n hx hb dX1_again_67 rfl (lv_at hl 0 rfl) ?_
      refine lv_aload_n hx hb dX1_again_68 rfl (lv_at hl 0 rfl) ?_
      refine va_get (D := (dC, dI)) (ci := 1) (v := .int (nI (Y 0))) (C := RX1) (T := TX1) (N := 20) hx hb hts inX1 hown hK hP 0 rfl rfl 0 (by decide) (hts _ fl_X1_43) (fun _ h9 => h9) rfl dX1_again_69 ?_
      refine lv_iload_n hx hb dX1_again_72 rfl (lv_at hl 2 rfl) ?_
      refine lv_iadd hx hb dX1_again_73 ?_
      refine lv_topi (fun x_2 e_3 => ?_)
      obtain rfl : x_2 = nI (Y 0 + k0) := e_3.trans (nI_add (Y 0) k0)
      refine va_put (D := (dC, dI)) (ci := 1) (v := .int (nI (Y 0 + k0))) (ty := .int) (C := RX1) (T := TX1) (N := 20) hx hb hts inX1 tyX1 okX1 nmX1 hown hK hP hD hS 0 rfl rfl 0 (by decide) (hts _ fl_X1_43) (fun _ h9 => h9) rfl (by decide +kernel) rfl rfl (Nat.le_of_ble_eq_true rfl) dX1_again_74 (fun H locs hP hD hS => ?_)
      have hP : va_P (dC, dI) vwCl (rmW ct ad ((zu Y 0 (Y 0 + k0)), (cpG (fun i => x1 (f + i)) (Y 0) i x1), x2, x3, x4, x5, x6, x7, x8, x9)) H := hP
      have hD : va_D A (rmW ct ad ((zu Y 0 (Y 0 + k0)), (cpG (fun i => x1 (f + i)) (Y 0) i x1), x2, x3, x4, x5, x6, x7, x8, x9)) := hD
      refine lv_aload_n hx hb dX1_again_77 rfl (lv_at hl 0 rfl) ?_
      refine va_get (D := (dC, dI)) (ci := 1) (v := .int (nI (Y 0 + k0))) (C := RX1) (T := TX1) (N := 20) hx hb hts inX1 hown hK hP 0 rfl rfl 0 (by decide) (hts _ fl_X1_43) (fun _ h9 => h9) rfl dX1_again_78 ?_
      exact W.iret (v := nI (Y 0 + k0)) hx hb hr (fun t ht hW => ⟨⟨_, ((zu Y 0 (Y 0 + k0)), (cpG (fun i => x1 (f + i)) (Y 0) i x1), x2, x3, x4, x5, x6, x7, x8, x9), rfl, (by rw [show i = k0 by omega]; exact hQ), by rw [ht]; exact hP, va_K.moved hW.alike hK, hD⟩, hS.F ht⟩) hS.2.2 dX1_again_81
    · have c_1 := mt (nI_leI (a := k0) (b := i) (by omega) (by omega)).mpr c_1
      refine lv_aload_n hx hb dX1_again_42 rfl (lv_at hl 0 rfl) ?_
      refine va_get (D := (dC, dI)) (ci := 1) (v := .ref (ad 1)) (C := RX1) (T := TX1) (N := 20) hx hb hts inX1 hown hK hP 0 rfl rfl 1 (by decide) (hts _ fl_X1_10) (fun _ h9 => h9) rfl dX1_again_43 ?_
      refine lv_aload_n hx hb dX1_again_46 rfl (lv_at hl 0 rfl) ?_
      refine va_get (D := (dC, dI)) (ci := 1) (v := .int (nI (Y 0))) (C := RX1) (T := TX1) (N := 20) hx hb hts inX1 hown hK hP 0 rfl rfl 0 (by decide) (hts _ fl_X1_43) (fun _ h9 => h9) rfl dX1_again_47 ?_
      refine lv_iload_n hx hb dX1_again_50 rfl (lv_at hl 3 rfl) ?_
      refine lv_iadd hx hb dX1_again_51 ?_
      refine lv_topi (fun x_4 e_5 => ?_)
      obtain rfl : x_4 = nI (Y 0 + i) := e_5.trans (nI_add (Y 0) i)
      refine lv_aload_n hx hb dX1_again_52 rfl (lv_at hl 0 rfl) ?_
      refine va_get (D := (dC, dI)) (ci := 1) (v := .ref (ad 1)) (C := RX1) (T := TX1) (N := 20) hx hb hts inX1 hown hK hP 0 rfl rfl 1 (by decide) (hts _ fl_X1_10) (fun _ h9 => h9) rfl dX1_again_53 ?_
      refine lv_iload_n hx hb dX1_again_56 rfl (lv_at hl 1 rfl) ?_
      refine lv_iload_n hx hb dX1_again_57 rfl (lv_at hl 3 rfl) ?_
      refine lv_iadd hx hb dX1_again_58 ?_
      refine lv_topi (fun x_6 e_7 => ?_)
      obtain rfl : x_6 = nI (f + i) := e_7.trans (nI_add f i)
      refine va_bald hx hb hK hP 1 0 rfl rfl (vp_in_nI (by omega) (by decide)) dX1_again_59 ?_
      refine lv_topi (fun x_8 e_9 => ?_)
      obtain rfl : x_8 = sb_b (((cpG (fun i => x1 (f + i)) (Y 0) i x1)) (f + i)) := e_9.trans (by rw [nI_clamp (by omega)])
      refine lv_topi (fun x_10 e_11 => ?_)
      obtain rfl : x_10 = sb_b (x1 (f + i)) := e_11.trans (by rw [show cpG (fun i => x1 (f + i)) (Y 0) i x1 (f + i) = x1 (f + i) by unfold cpG; rw [if_neg (by omega)]])
      refine va_bast hx hb hK hP hD hS 1 0 rfl rfl (vp_in_nI (by omega) (by decide)) dX1_again_60 (fun H locs hP hD hS => ?_)
      rw [nI_clamp (by omega), nu_b] at hP hD
      have hP : va_P (dC, dI) vwCl (rmW ct ad (Y, (nu ((cpG (fun i => x1 (f + i)) (Y 0) i x1)) (Y 0 + i) (x1 (f + i))), x2, x3, x4, x5, x6, x7, x8, x9)) H := hP
      have hD : va_D A (rmW ct ad (Y, (nu ((cpG (fun i => x1 (f + i)) (Y 0) i x1)) (Y 0 + i) (x1 (f + i))), x2, x3, x4, x5, x6, x7, x8, x9)) := hD
      refine lv_iinc (v := nI (i + 1)) (lv' := [(3, .int (nI (i + 1))), (0, .ref (ad 0)), (1, .int (nI f)), (2, .int (nI k0))]) hx hb dX1_again_61 hl (k := 3) rfl (by exact nI_add i 1) (by decide) rfl (fun ls hl => ?_)
      refine lv_goto (tgt := 37) hx hb dX1_again_64 (by decide) ?_
      rw [cpG_s (fun i => x1 (f + i))] at hP hD
      exact ih (i + 1) (by omega) (by omega) hQ _ _ hP hD hS _ (lv_sub hl [1, 2, 3, 0] rfl)
set_option maxHeartbeats 4000000 in
set_option maxRecDepth 100000 in
theorem r_again_ok (l : Launch) (dC : Nat → ClassId) (dI : Nat → Nat → Nat) (ct : Nat → ClassId) (ad : Nat → Nat) (sz : Nat) (Y x1 x2 x3 x4 x5 x6 x7 x8 x9 : Nat → Nat) (f : Nat) (k0 : Nat) (hk1 : 1 ≤ k0) (h : f + k0 ≤ Y 0) (hfit : Y 0 + k0 ≤ 32768) : Met l yX1_again wX1_again ({ frames := 0, cells := 0, slots := 0, locals := 0 }) (va_Pc [.ref (ad 0), .int (nI f), .int (nI k0)] (rmP dC dI ct ad sz (Y, x1, x2, x3, x4, x5, x6, x7, x8, x9))) (va_Qi (fun (r : Int32) (u : rmU) => r = nI (Y 0 + k0) ∧ u = (zu Y 0 (Y 0 + k0), cpG (fun i => x1 (f + i)) (Y 0) k0 x1, x2, x3, x4, x5, x6, x7, x8, x9)) (rmB dC dI ct ad (va_A (rmW ct ad (Y, x1, x2, x3, x4, x5, x6, x7, x8, x9)) sz)) (va_A (rmW ct ad (Y, x1, x2, x3, x4, x5, x6, x7, x8, x9)) sz)) 0 0 (va_A (rmW ct ad (Y, x1, x2, x3, x4, x5, x6, x7, x8, x9)) sz) := by
  refine Met.ofW (cc := cX1_again) (maxL := 4) (ret := (some .int)) (by decide) rfl ?_
  intro p e s m args below meth c s₁ B hml hv
  obtain ⟨rfl, hsz, hP, hK, hD0⟩ := hv
  have hx := B.exec
  have hb := B.bytes
  have hr := B.returns
  have hts : ∀ w ∈ bw, w.before _ s = true := fun w h => atoms_spec (ws := wX1_again) B.pre w (bc w h)
  have hown : s.vm.findClass RX1 = some m.cls := findClass_of_methodNamed B.named
  have hlocks := B.notSynchronized
  subst hsz
  have hD := hD0.self (sz := s.heap.size)
  generalize hAe : va_A (rmW ct ad (Y, x1, x2, x3, x4, x5, x6, x7, x8, x9)) s.heap.size = A at hD ⊢
  have hA : ∀ q : Nat, s.heap.size ≤ q → A q := fun q h => by rw [← hAe]; exact Or.inr h
  have hS : va_S A s.heap s.heap [] := va_S.rf
  have hl := lv_entry ([.ref (ad 0), .int (nI f), .int (nI k0)]) (n := 4) (Nat.le_of_ble_eq_true rfl)
  rw [lg_entry_eq]
  generalize (lg_sl ([.ref (ad 0), .int (nI f), .int (nI k0)]) ++ List.replicate (4 - (lg_sl ([.ref (ad 0), .int (nI f), .int (nI k0)])).length) Slot.unset).toArray = ls at hl ⊢
  have hl : lv_has ls 4 [(0, .ref (ad 0)), (1, .int (nI f)), (2, .int (nI k0))] := hl
  refine lv_iload_n hx hb dX1_again_0 rfl (lv_at hl 1 rfl) ?_
  refine lv_if_lt (tgt := 19) hx hb dX1_again_1 (by decide) (fun c_1 => ?_) (fun c_1 => ?_)
  · have c_1 := (nI_ltI (a := f) (b := 0) (by omega) (by omega)).mp c_1
    omega
  · have c_1 := mt (nI_ltI (a := f) (b := 0) (by omega) (by omega)).mpr c_1
    refine lv_iload_n hx hb dX1_again_4 rfl (lv_at hl 2 rfl) ?_
    refine lv_iconst (v := nI 1) hx hb dX1_again_5 (by decide) ?_
    refine lv_icmp_lt (tgt := 19) hx hb dX1_again_6 (by decide) (fun c_2 => ?_) (fun c_2 => ?_)
    · have c_2 := (nI_ltI (a := k0) (b := 1) (by omega) (by omega)).mp c_2
      omega
    · have c_2 := mt (nI_ltI (a := k0) (b := 1) (by omega) (by omega)).mpr c_2
      refine lv_iload_n hx hb dX1_again_9 rfl (lv_at hl 2 rfl) ?_
      refine lv_aload_n hx hb dX1_again_10 rfl (lv_at hl 0 rfl) ?_
      refine va_get (D := (dC, dI)) (ci := 1) (v := .int (nI (Y 0))) (C := RX1) (T := TX1) (N := 20) hx hb hts inX1 hown hK hP 0 rfl rfl 0 (by decide) (hts _ fl_X1_43) (fun _ h9 => h9) rfl dX1_again_11 ?_
      refine lv_iload_n hx hb dX1_again_14 rfl (lv_at hl 1 rfl) ?_
      refine lv_isub hx hb dX1_again_15 ?_
      refine lv_topi (fun x_3 e_4 => ?_)
      obtain rfl : x_3 = nI (Y 0 - f) := e_4.trans (pk_sub (by omega))
      refine lv_icmp_le (tgt := 21) hx hb dX1_again_16 (by decide) (fun c_5 => ?_) (fun c_5 => ?_)
      · have c_5 := (nI_leI (a := k0) (b := Y 0 - f) (by omega) (by omega)).mp c_5
        refine lv_aload_n hx hb dX1_again_21 rfl (lv_at hl 0 rfl) ?_
        refine va_get (D := (dC, dI)) (ci := 1) (v := .int (nI (Y 0))) (C := RX1) (T := TX1) (N := 20) hx hb hts inX1 hown hK hP 0 rfl rfl 0 (by decide) (hts _ fl_X1_43) (fun _ h9 => h9) rfl dX1_again_22 ?_
        refine lv_iload_n hx hb dX1_again_25 rfl (lv_at hl 2 rfl) ?_
        refine lv_iadd hx hb dX1_again_26 ?_
        refine lv_topi (fun x_6 e_7 => ?_)
        obtain rfl : x_6 = nI (Y 0 + k0) := e_7.trans (nI_add (Y 0) k0)
        refine lv_ldc (v := nI 32768) hx hb hown (hts _ cn_X1_9) dX1_again_27 ?_
        refine lv_icmp_le (tgt := 35) hx hb dX1_again_29 (by decide) (fun c_8 => ?_) (fun c_8 => ?_)
        · have c_8 := (nI_leI (a := Y 0 + k0) (b := 32768) (by omega) (by omega)).mp c_8
          refine lv_iconst (v := nI 0) hx hb dX1_again_35 (by decide) ?_
          refine lv_istore_n (lv' := [(3, .int (nI 0)), (0, .ref (ad 0)), (1, .int (nI f)), (2, .int (nI k0))]) hx hb dX1_again_36 rfl hl (by decide) rfl (fun ls hl => ?_)
          have hP : va_P (dC, dI) vwCl (rmW ct ad (Y, cpG (fun i => x1 (f + i)) (Y 0) 0 x1, x2, x3, x4, x5, x6, x7, x8, x9)) s.heap := by rw [cpG_0]; exact hP
          have hD : va_D A (rmW ct ad (Y, cpG (fun i => x1 (f + i)) (Y 0) 0 x1, x2, x3, x4, x5, x6, x7, x8, x9)) := by rw [cpG_0]; exact hD
          exact q_again_37 hx hb hr hml hown hts hlocks hK hA f k0 h hfit (fun r u => r = nI (Y 0 + k0) ∧ u = (zu Y 0 (Y 0 + k0), cpG (fun i => x1 (f + i)) (Y 0) k0 x1, x2, x3, x4, x5, x6, x7, x8, x9)) (k0 + 1) 0 (by omega) (by omega) ⟨rfl, rfl⟩ _ _ hP hD hS _ (lv_sub hl [1, 2, 3, 0] rfl)
        · have c_8 := mt (nI_leI (a := Y 0 + k0) (b := 32768) (by omega) (by omega)).mpr c_8
          omega
      · have c_5 := mt (nI_leI (a := k0) (b := Y 0 - f) (by omega) (by omega)).mpr c_5
        omega
