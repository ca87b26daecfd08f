/-- bytes g 0 .. g (i - 1) come behind place a -/
theorem fd_step {g : Nat → Nat} {a i b p : Nat} : (if p = a + i then g i else if a ≤ p ∧ p < a + i then g (p - a) else b) = if a ≤ p ∧ p < a + (i + 1) then g (p - a) else b := by
  by_cases h : p = a + i
  · rw [if_pos h, if_pos (by omega), show p - a = i by omega]
  · rw [if_neg h]
    by_cases h2 : a ≤ p ∧ p < a + i
    · rw [if_pos h2, if_pos (by omega)]
    · rw [if_neg h2, if_neg (by omega)]
set_option maxHeartbeats 4000000 in
set_option maxRecDepth 100000 in
theorem c_feed_bad (l : Launch) (dC : Nat → ClassId) (dI : Nat → Nat → Nat) (cA : ClassId) (a0 a1 a2 : Nat) (sz : Nat) (Z : Nat → Nat) (T K : Nat → Int64) (x : Nat) (n : Int32) (h : n < nI 1 ∨ nI 8 < n) : Met l yX0_feed wX0_feed ({ frames := 1, cells := 0, slots := 0, locals := 23 }) (va_Pc [.ref a0, .long (lN x), .int (n)] (lmP dC dI cA a0 a1 a2 sz (Z, T, K))) (va_Qi (fun (r : Int32) (u : lmU) => r = (-1) ∧ u = (Z, T, K)) (lmB dC dI cA a0 a1 a2 (va_A (lmW cA a0 a1 a2 (Z, T, K)) sz)) (va_A (lmW cA a0 a1 a2 (Z, T, K)) sz)) 0 0 (va_A (lmW cA a0 a1 a2 (Z, T, K)) sz) := by
  refine Met.ofW (cc := cX0_feed) (maxL := 5) (ret := (some .int)) (by decide) rfl ?_
  intro p e s m args below meth c s₁ B hml hv
  obtain ⟨rfl, hsz, hP, hK, hD0⟩ := hv
  have hx := B.exec
  have hb := B.bytes
  have hr := B.returns
  have hts : ∀ w ∈ bw, w.before _ s = true := fun w h => atoms_spec (ws := wX0_feed) B.pre w (bc w h)
  have hown : s.vm.findClass RX0 = some m.cls := findClass_of_methodNamed B.named
  have hlocks := B.notSynchronized
  subst hsz
  have hD := hD0.self (sz := s.heap.size)
  generalize hAe : va_A (lmW cA a0 a1 a2 (Z, T, K)) s.heap.size = A at hD ⊢
  have hA : ∀ q : Nat, s.heap.size ≤ q → A q := fun q h => by rw [← hAe]; exact Or.inr h
  have hS : va_S A s.heap s.heap [] := va_S.rf
  have hl := lv_entry ([.ref a0, .long (lN x), .int (n)]) (n := 5) (Nat.le_of_ble_eq_true rfl)
  rw [lg_entry_eq]
  generalize (lg_sl ([.ref a0, .long (lN x), .int (n)]) ++ List.replicate (5 - (lg_sl ([.ref a0, .long (lN x), .int (n)])).length) Slot.unset).toArray = ls at hl ⊢
  have hl : lv_has ls 5 [(0, .ref a0), (1, .long (lN x)), (3, .int (n))] := hl
  refine lv_iload_n hx hb dX0_feed_0 rfl (lv_at hl 2 rfl) ?_
  refine lv_iconst (v := nI 1) hx hb dX0_feed_1 (by decide) ?_
  refine lv_icmp_lt (tgt := 11) hx hb dX0_feed_2 (by decide) (fun c_1 => ?_) (fun c_1 => ?_)
  · refine lv_iconst (v := (-1)) hx hb dX0_feed_11 (by decide) ?_
    exact W.iret (v := (-1)) hx hb hr (fun t ht hW => ⟨⟨_, (Z, T, K), rfl, ⟨rfl, rfl⟩, by rw [ht]; exact hP, va_K.moved hW.alike hK, hD⟩, hS.F ht⟩) hS.2.2 dX0_feed_12
  · refine lv_iload_n hx hb dX0_feed_5 rfl (lv_at hl 2 rfl) ?_
    refine lv_bipush (v := nI 8) hx hb dX0_feed_6 (by decide) ?_
    refine lv_icmp_le (tgt := 13) hx hb dX0_feed_8 (by decide) (fun c_2 => ?_) (fun c_2 => ?_)
    · exact (h.elim c_1 (fun q => Int32.not_lt.mpr c_2 q)).elim
    · refine lv_iconst (v := (-1)) hx hb dX0_feed_11 (by decide) ?_
      exact W.iret (v := (-1)) hx hb hr (fun t ht hW => ⟨⟨_, (Z, T, K), rfl, ⟨rfl, rfl⟩, by rw [ht]; exact hP, va_K.moved hW.alike hK, hD⟩, hS.F ht⟩) hS.2.2 dX0_feed_12
set_option maxHeartbeats 4000000 in
set_option maxRecDepth 100000 in
theorem k_feed_30 {p : Program} {l : Launch} {e : Env} {s : State} {m : MethodId} {args : Array Value} {below : List Frame} {meth : Method} {c : Code} {A : Nat → Prop} (hx : p.tables.exec = Jvm.exec) (hb : c.code = cX0_feed) (hr : meth.sig.returnType = (some .int)) (hml : c.maxLocals = 5) (hown : s.vm.findClass RX0 = some m.cls) (hts : ∀ w ∈ bw, w.before args s = true) (hlocks : meth.locks = false) {dC : Nat → ClassId} {dI : Nat → Nat → Nat} {cA : ClassId} {a0 a1 a2 : Nat} {Z : Nat → Nat} {T K : Nat → Int64} (hK : va_K (dC, dI) vwCl [(cA, .long)] s) (hA : ∀ q, s.heap.size ≤ q → A q) (x k0 : Nat) (hx64 : x < 2 ^ 64) (hk8 : k0 ≤ 8) (hfit : Z 2 + k0 ≤ 32768) : ∀ (k : Nat) (T1 : Nat → Int64) (i : Nat), k0 - i < k → i ≤ k0 → (∀ q, byt T1 q = if Z 2 ≤ q ∧ q < Z 2 + i then x / 2 ^ (8 * (q - Z 2)) % 256 else byt T q) → ∀ (H : Heap) (locs : List Loc), va_P (dC, dI) vwCl (lmW cA a0 a1 a2 ((zu Z 2 (Z 2 + i)), T1, K)) H → va_D A (lmW cA a0 a1 a2 ((zu Z 2 (Z 2 + i)), T1, K)) → va_S A s.heap H locs → ∀ ls, lv_has ls 5 [(0, .ref a0), (1, .long (lN x)), (3, .int (nI k0)), (4, .int (nI i))] → W p l e (headSpec wX0_feed ({ frames := 1, cells := 0, slots := 0, locals := 23 })).room s m args below meth c H locs 0 0 (MQ below (va_Qi (fun (r : Int32) (u : lmU) => ∃ T1, r = nI (Z 2 + k0) ∧ u = (zu Z 2 (Z 2 + k0), T1, K) ∧ ∀ q, byt T1 q = if Z 2 ≤ q ∧ q < Z 2 + k0 then x / 2 ^ (8 * (q - Z 2)) % 256 else byt T q) (lmB dC dI cA a0 a1 a2 A) A) args s 0 0 A) (F0 m 30 ls []) := by
  intro k
  induction k with
  | zero => intro T1 i hk; exact absurd hk (by omega)
  | succ k ih =>
    intro T1 i hk hi hT H locs hP hD hS ls hl
    refine lv_iload hx hb dX0_feed_30 (lv_at hl 3 rfl) ?_
    refine lv_iload_n hx hb dX0_feed_32 rfl (lv_at hl 2 rfl) ?_
    refine lv_icmp_ge (tgt := 58) hx hb dX0_feed_33 (by decide) (fun c_1 => ?_) (fun c_1 => ?_)
    · have c_1 := (nI_leI (a := k0) (b := i) (by omega) (by omega)).mp c_1
      refine lv_aload_n hx hb dX0_feed_58 rfl (lv_at hl 0 rfl) ?_
      refine va_get (D := (dC, dI)) (ci := 0) (v := .int (nI (Z 2 + i))) (C := RX0) (T := TX0) (N := 16) hx hb hts inX0 hown hK hP 0 rfl rfl 2 (by decide) (hts _ fl_X0_19) (fun _ h9 => h9) rfl dX0_feed_59 ?_
      exact W.iret (v := nI (Z 2 + i)) hx hb hr (fun t ht hW => ⟨⟨_, ((zu Z 2 (Z 2 + i)), T1, K), rfl, ⟨T1, by rw [show k0 = i by omega], by rw [show k0 = i by omega], by rw [show k0 = i by omega]; exact hT⟩, by rw [ht]; exact hP, va_K.moved hW.alike hK, hD⟩, hS.F ht⟩) hS.2.2 dX0_feed_62
    · have c_1 := mt (nI_leI (a := k0) (b := i) (by omega) (by omega)).mpr c_1
      refine lv_aload_n hx hb dX0_feed_36 rfl (lv_at hl 0 rfl) ?_
      refine lv_lload_n hx hb dX0_feed_37 rfl (lv_at hl 1 rfl) ?_
      refine lv_bipush (v := nI 8) hx hb dX0_feed_38 (by decide) ?_
      refine lv_iload hx hb dX0_feed_40 (lv_at hl 3 rfl) ?_
      refine lv_imul hx hb dX0_feed_42 ?_
      refine lv_topi (fun x_2 e_3 => ?_)
      obtain rfl : x_2 = nI (8 * i) := e_3.trans (pk_mul 8 i)
      refine lv_lushr (v := lN (x / 2 ^ (8 * i))) hx hb dX0_feed_43 (wb_shr (by first | exact tn_lt _ | omega) (by omega)) ?_
      refine lv_l2i (v := nI (x / 2 ^ (8 * i))) hx hb dX0_feed_44 (lN_i _) ?_
      refine lv_sipush (v := nI 255) hx hb dX0_feed_45 (by decide) ?_
      refine lv_iand hx hb dX0_feed_48 ?_
      refine lv_topi (fun x_4 e_5 => ?_)
      obtain rfl : x_4 = nI ((x / 2 ^ (8 * i)) % 256) := e_5.trans (nI_mask (x / 2 ^ (8 * i)) 8 (by decide) (by decide))
      refine lm_callv (va_runV (As := [.int (nI ((x / 2 ^ (8 * i)) % 256))]) (rest := []) ⟨hx, hb, hml, hown, hts⟩ (c_append l dC dI cA a0 a1 a2 H.size (zu Z 2 (Z 2 + i)) T1 K ((x / 2 ^ (8 * i)) % 256) (show Z 2 + i < 32768 by omega) (show (x / 2 ^ (8 * i)) % 256 < 256 by omega)) (cwV 1 hts (gV (fun _ h => h) ml_X0_24 im_X0_append se_X0_append ini_X0 co_X0_append) rfl rfl rfl pd_X0_append ⟨Nat.le_of_ble_eq_true rfl, Nat.le_of_ble_eq_true rfl⟩) (lm_preS hK hP hD) rfl rfl hl.1 rfl (lv_room (Nat.le_of_ble_eq_true rfl)) dX0_feed_49 ⟨Nat.zero_le _, Nat.zero_le _⟩) hD hS hA (fun u_7 H locs q_6 hP hD hS => ?_)
      obtain ⟨T_9, rfl, hT_10⟩ := q_6
      have hT_10 : ∀ p, byt T_9 p = if p = Z 2 + i then (x / 2 ^ (8 * i)) % 256 else byt T1 p := hT_10
      have hP : va_P (dC, dI) vwCl (lmW cA a0 a1 a2 ((zu Z 2 (Z 2 + i + 1)), T_9, K)) H := hP
      have hD : va_D A (lmW cA a0 a1 a2 ((zu Z 2 (Z 2 + i + 1)), T_9, K)) := hD
      refine lv_iinc (v := nI (i + 1)) (lv' := [(4, .int (nI (i + 1))), (0, .ref a0), (1, .long (lN x)), (3, .int (nI k0))]) hx hb dX0_feed_52 hl (k := 3) rfl (by exact nI_add i 1) (by decide) rfl (fun ls hl => ?_)
      refine lv_goto (tgt := 30) hx hb dX0_feed_55 (by decide) ?_
      exact ih T_9 (i + 1) (by omega) (by omega) (fun q => by rw [hT_10 q, hT q]; exact fd_step (g := fun j => x / 2 ^ (8 * j) % 256)) _ _ hP hD hS _ (lv_sub hl [1, 2, 3, 0] rfl)
set_option maxHeartbeats 4000000 in
set_option maxRecDepth 100000 in
theorem c_feed_ok (l : Launch) (dC : Nat → ClassId) (dI : Nat → Nat → Nat) (cA : ClassId) (a0 a1 a2 : Nat) (sz : Nat) (Z : Nat → Nat) (T K : Nat → Int64) (x : Nat) (k0 : Nat) (hx64 : x < 2 ^ 64) (hk1 : 1 ≤ k0) (hk8 : k0 ≤ 8) (hfit : Z 2 + k0 ≤ 32768) : Met l yX0_feed wX0_feed ({ frames := 1, cells := 0, slots := 0, locals := 23 }) (va_Pc [.ref a0, .long (lN x), .int (nI k0)] (lmP dC dI cA a0 a1 a2 sz (Z, T, K))) (va_Qi (fun (r : Int32) (u : lmU) => ∃ T1, r = nI (Z 2 + k0) ∧ u = (zu Z 2 (Z 2 + k0), T1, K) ∧ ∀ q, byt T1 q = if Z 2 ≤ q ∧ q < Z 2 + k0 then x / 2 ^ (8 * (q - Z 2)) % 256 else byt T q) (lmB dC dI cA a0 a1 a2 (va_A (lmW cA a0 a1 a2 (Z, T, K)) sz)) (va_A (lmW cA a0 a1 a2 (Z, T, K)) sz)) 0 0 (va_A (lmW cA a0 a1 a2 (Z, T, K)) sz) := by
  refine Met.ofW (cc := cX0_feed) (maxL := 5) (ret := (some .int)) (by decide) rfl ?_
  intro p e s m args below meth c s₁ B hml hv
  obtain ⟨rfl, hsz, hP, hK, hD0⟩ := hv
  have hx := B.exec
  have hb := B.bytes
  have hr := B.returns
  have hts : ∀ w ∈ bw, w.before _ s = true := fun w h => atoms_spec (ws := wX0_feed) B.pre w (bc w h)
  have hown : s.vm.findClass RX0 = some m.cls := findClass_of_methodNamed B.named
  have hlocks := B.notSynchronized
  subst hsz
  have hD := hD0.self (sz := s.heap.size)
  generalize hAe : va_A (lmW cA a0 a1 a2 (Z, T, K)) s.heap.size = A at hD ⊢
  have hA : ∀ q : Nat, s.heap.size ≤ q → A q := fun q h => by rw [← hAe]; exact Or.inr h
  have hS : va_S A s.heap s.heap [] := va_S.rf
  have hl := lv_entry ([.ref a0, .long (lN x), .int (nI k0)]) (n := 5) (Nat.le_of_ble_eq_true rfl)
  rw [lg_entry_eq]
  generalize (lg_sl ([.ref a0, .long (lN x), .int (nI k0)]) ++ List.replicate (5 - (lg_sl ([.ref a0, .long (lN x), .int (nI k0)])).length) Slot.unset).toArray = ls at hl ⊢
  have hl : lv_has ls 5 [(0, .ref a0), (1, .long (lN x)), (3, .int (nI k0))] := hl
  refine lv_iload_n hx hb dX0_feed_0 rfl (lv_at hl 2 rfl) ?_
  refine lv_iconst (v := nI 1) hx hb dX0_feed_1 (by decide) ?_
  refine lv_icmp_lt (tgt := 11) hx hb dX0_feed_2 (by decide) (fun c_1 => ?_) (fun c_1 => ?_)
  · have c_1 := (nI_ltI (a := k0) (b := 1) (by omega) (by omega)).mp c_1
    omega
  · have c_1 := mt (nI_ltI (a := k0) (b := 1) (by omega) (by omega)).mpr c_1
    refine lv_iload_n hx hb dX0_feed_5 rfl (lv_at hl 2 rfl) ?_
    refine lv_bipush (v := nI 8) hx hb dX0_feed_6 (by decide) ?_
    refine lv_icmp_le (tgt := 13) hx hb dX0_feed_8 (by decide) (fun c_2 => ?_) (fun c_2 => ?_)
    · have c_2 := (nI_leI (a := k0) (b := 8) (by omega) (by omega)).mp c_2
      refine lv_aload_n hx hb dX0_feed_13 rfl (lv_at hl 0 rfl) ?_
      refine va_get (D := (dC, dI)) (ci := 0) (v := .int (nI (Z 2))) (C := RX0) (T := TX0) (N := 16) hx hb hts inX0 hown hK hP 0 rfl rfl 2 (by decide) (hts _ fl_X0_19) (fun _ h9 => h9) rfl dX0_feed_14 ?_
      refine lv_iload_n hx hb dX0_feed_17 rfl (lv_at hl 2 rfl) ?_
      refine lv_iadd hx hb dX0_feed_18 ?_
      refine lv_topi (fun x_3 e_4 => ?_)
      obtain rfl : x_3 = nI (Z 2 + k0) := e_4.trans (nI_add (Z 2) k0)
      refine lv_ldc (v := nI 32768) hx hb hown (hts _ cn_X0_23) dX0_feed_19 ?_
      refine lv_icmp_le (tgt := 27) hx hb dX0_feed_21 (by decide) (fun c_5 => ?_) (fun c_5 => ?_)
      · have c_5 := (nI_leI (a := Z 2 + k0) (b := 32768) (by omega) (by omega)).mp c_5
        refine lv_iconst (v := nI 0) hx hb dX0_feed_27 (by decide) ?_
        refine lv_istore (lv' := [(4, .int (nI 0)), (0, .ref a0), (1, .long (lN x)), (3, .int (nI k0))]) hx hb dX0_feed_28 hl (by decide) rfl (fun ls hl => ?_)
        exact k_feed_30 hx hb hr hml hown hts hlocks hK hA x k0 hx64 hk8 hfit (k0 + 1) T 0 (by omega) (by omega) (fun q => by rw [if_neg (by omega)]) _ _ hP hD hS _ (lv_sub hl [1, 2, 3, 0] rfl)
      · have c_5 := mt (nI_leI (a := Z 2 + k0) (b := 32768) (by omega) (by omega)).mpr c_5
        omega
    · have c_2 := mt (nI_leI (a := k0) (b := 8) (by omega) (by omega)).mpr c_2
      omega
set_option maxHeartbeats 4000000 in
set_option maxRecDepth 100000 in
theorem c_feed_full (l : Launch) (dC : Nat → ClassId) (dI : Nat → Nat → Nat) (cA : ClassId) (a0 a1 a2 : Nat) (sz : Nat) (Z : Nat → Nat) (T K : Nat → Int64) (x : Nat) (k0 : Nat) (hn : Z 2 ≤ 32768) (hk1 : 1 ≤ k0) (hk8 : k0 ≤ 8) (hfit : 32768 < Z 2 + k0) : Met l yX0_feed wX0_feed ({ frames := 1, cells := 0, slots := 0, locals := 23 }) (va_Pc [.ref a0, .long (lN x), .int (nI k0)] (lmP dC dI cA a0 a1 a2 sz (Z, T, K))) (va_Qi (fun (r : Int32) (u : lmU) => r = (-3) ∧ u = (Z, T, K)) (lmB dC dI cA a0 a1 a2 (va_A (lmW cA a0 a1 a2 (Z, T, K)) sz)) (va_A (lmW cA a0 a1 a2 (Z, T, K)) sz)) 0 0 (va_A (lmW cA a0 a1 a2 (Z, T, K)) sz) := by
  refine Met.ofW (cc := cX0_feed) (maxL := 5) (ret := (some .int)) (by decide) rfl ?_
  intro p e s m args below meth c s₁ B hml hv
  obtain ⟨rfl, hsz, hP, hK, hD0⟩ := hv
  have hx := B.exec
  have hb := B.bytes
  have hr := B.returns
  have hts : ∀ w ∈ bw, w.before _ s = true := fun w h => atoms_spec (ws := wX0_feed) B.pre w (bc w h)
  have hown : s.vm.findClass RX0 = some m.cls := findClass_of_methodNamed B.named
  have hlocks := B.notSynchronized
  subst hsz
  have hD := hD0.self (sz := s.heap.size)
  generalize hAe : va_A (lmW cA a0 a1 a2 (Z, T, K)) s.heap.size = A at hD ⊢
  have hA : ∀ q : Nat, s.heap.size ≤ q → A q := fun q h => by rw [← hAe]; exact Or.inr h
  have hS : va_S A s.heap s.heap [] := va_S.rf
  have hl := lv_entry ([.ref a0, .long (lN x), .int (nI k0)]) (n := 5) (Nat.le_of_ble_eq_true rfl)
  rw [lg_entry_eq]
  generalize (lg_sl ([.ref a0, .long (lN x), .int (nI k0)]) ++ List.replicate (5 - (lg_sl ([.ref a0, .long (lN x), .int (nI k0)])).length) Slot.unset).toArray = ls at hl ⊢
  have hl : lv_has ls 5 [(0, .ref a0), (1, .long (lN x)), (3, .int (nI k0))] := hl
  refine lv_iload_n hx hb dX0_feed_0 rfl (lv_at hl 2 rfl) ?_
  refine lv_iconst (v := nI 1) hx hb dX0_feed_1 (by decide) ?_
  refine lv_icmp_lt (tgt := 11) hx hb dX0_feed_2 (by decide) (fun c_1 => ?_) (fun c_1 => ?_)
  · have c_1 := (nI_ltI (a := k0) (b := 1) (by omega) (by omega)).mp c_1
    omega
  · have c_1 := mt (nI_ltI (a := k0) (b := 1) (by omega) (by omega)).mpr c_1
    refine lv_iload_n hx hb dX0_feed_5 rfl (lv_at hl 2 rfl) ?_
    refine lv_bipush (v := nI 8) hx hb dX0_feed_6 (by decide) ?_
    refine lv_icmp_le (tgt := 13) hx hb dX0_feed_8 (by decide) (fun c_2 => ?_) (fun c_2 => ?_)
    · have c_2 := (nI_leI (a := k0) (b := 8) (by omega) (by omega)).mp c_2
      refine lv_aload_n hx hb dX0_feed_13 rfl (lv_at hl 0 rfl) ?_
      refine va_get (D := (dC, dI)) (ci := 0) (v := .int (nI (Z 2))) (C := RX0) (T := TX0) (N := 16) hx hb hts inX0 hown hK hP 0 rfl rfl 2 (by decide) (hts _ fl_X0_19) (fun _ h9 => h9) rfl dX0_feed_14 ?_
      refine lv_iload_n hx hb dX0_feed_17 rfl (lv_at hl 2 rfl) ?_
      refine lv_iadd hx hb dX0_feed_18 ?_
      refine lv_topi (fun x_3 e_4 => ?_)
      obtain rfl : x_3 = nI (Z 2 + k0) := e_4.trans (nI_add (Z 2) k0)
      refine lv_ldc (v := nI 32768) hx hb hown (hts _ cn_X0_23) dX0_feed_19 ?_
      refine lv_icmp_le (tgt := 27) hx hb dX0_feed_21 (by decide) (fun c_5 => ?_) (fun c_5 => ?_)
      · have c_5 := (nI_leI (a := Z 2 + k0) (b := 32768) (by omega) (by omega)).mp c_5
        omega
      · have c_5 := mt (nI_leI (a := Z 2 + k0) (b := 32768) (by omega) (by omega)).mpr c_5
        refine lv_bipush (v := (-3)) hx hb dX0_feed_24 (by decide) ?_
        exact W.iret (v := (-3)) hx hb hr (fun t ht hW => ⟨⟨_, (Z, T, K), rfl, ⟨rfl, rfl⟩, by rw [ht]; exact hP, va_K.moved hW.alike hK, hD⟩, hS.F ht⟩) hS.2.2 dX0_feed_26
    · have c_2 := mt (nI_leI (a := k0) (b := 8) (by omega) (by omega)).mpr c_2
      omega
set_option maxHeartbeats 4000000 in
set_option maxRecDepth 100000 in
theorem c_again_neg (l : Launch) (dC : Nat → ClassId) (dI : Nat → Nat → Nat) (cA : ClassId) (a0 a1 a2 : Nat) (sz : Nat) (Z : Nat → Nat) (T K : Nat → Int64) (f : Int32) (n : Int32) (h : f < 0) : Met l yX0_again wX0_again ({ frames := 1, cells := 0, slots := 0, locals := 23 }) (va_Pc [.ref a0, .int (f), .int (n)] (lmP dC dI cA a0 a1 a2 sz (Z, T, K))) (va_Qi (fun (r : Int32) (u : lmU) => r = (-1) ∧ u = (Z, T, K)) (lmB dC dI cA a0 a1 a2 (va_A (lmW cA a0 a1 a2 (Z, T, K)) sz)) (va_A (lmW cA a0 a1 a2 (Z, T, K)) sz)) 0 0 (va_A (lmW cA a0 a1 a2 (Z, T, K)) sz) := by
  refine Met.ofW (cc := cX0_again) (maxL := 4) (ret := (some .int)) (by decide) rfl ?_
  intro p e s m args below meth c s₁ B hml hv
  obtain ⟨rfl, hsz, hP, hK, hD0⟩ := hv
  have hx := B.exec
  have hb := B.bytes
  have hr := B.returns
  have hts : ∀ w ∈ bw, w.before _ s = true := fun w h => atoms_spec (ws := wX0_again) B.pre w (bc w h)
  have hown : s.vm.findClass RX0 = some m.cls := findClass_of_methodNamed B.named
  have hlocks := B.notSynchronized
  subst hsz
  have hD := hD0.self (sz := s.heap.size)
  generalize hAe : va_A (lmW cA a0 a1 a2 (Z, T, K)) s.heap.size = A at hD ⊢
  have hA : ∀ q : Nat, s.heap.size ≤ q → A q := fun q h => by rw [← hAe]; exact Or.inr h
  have hS : va_S A s.heap s.heap [] := va_S.rf
  have hl := lv_entry ([.ref a0, .int (f), .int (n)]) (n := 4) (Nat.le_of_ble_eq_true rfl)
  rw [lg_entry_eq]
  generalize (lg_sl ([.ref a0, .int (f), .int (n)]) ++ List.replicate (4 - (lg_sl ([.ref a0, .int (f), .int (n)])).length) Slot.unset).toArray = ls at hl ⊢
  have hl : lv_has ls 4 [(0, .ref a0), (1, .int (f)), (2, .int (n))] := hl
  refine lv_iload_n hx hb dX0_again_0 rfl (lv_at hl 1 rfl) ?_
  refine lv_if_lt (tgt := 27) hx hb dX0_again_1 (by decide) (fun c_1 => ?_) (fun c_1 => ?_)
  · refine lv_iconst (v := (-1)) hx hb dX0_again_27 (by decide) ?_
    exact W.iret (v := (-1)) hx hb hr (fun t ht hW => ⟨⟨_, (Z, T, K), rfl, ⟨rfl, rfl⟩, by rw [ht]; exact hP, va_K.moved hW.alike hK, hD⟩, hS.F ht⟩) hS.2.2 dX0_again_28
  · exact absurd h c_1
set_option maxHeartbeats 4000000 in
set_option maxRecDepth 100000 in
theorem c_again_cnt (l : Launch) (dC : Nat → ClassId) (dI : Nat → Nat → Nat) (cA : ClassId) (a0 a1 a2 : Nat) (sz : Nat) (Z : Nat → Nat) (T K : Nat → Int64) (f : Nat) (n : Int32) (hf : f < 2 ^ 31) (h : n < nI 1 ∨ nI (Z 2) < n) : Met l yX0_again wX0_again ({ frames := 1, cells := 0, slots := 0, locals := 23 }) (va_Pc [.ref a0, .int (nI f), .int (n)] (lmP dC dI cA a0 a1 a2 sz (Z, T, K))) (va_Qi (fun (r : Int32) (u : lmU) => r = (-1) ∧ u = (Z, T, K)) (lmB dC dI cA a0 a1 a2 (va_A (lmW cA a0 a1 a2 (Z, T, K)) sz)) (va_A (lmW cA a0 a1 a2 (Z, T, K)) sz)) 0 0 (va_A (lmW cA a0 a1 a2 (Z, T, K)) sz) := by
  refine Met.ofW (cc := cX0_again) (maxL := 4) (ret := (some .int)) (by decide) rfl ?_
  intro p e s m args below meth c s₁ B hml hv
  obtain ⟨rfl, hsz, hP, hK, hD0⟩ := hv
  have hx := B.exec
  have hb := B.bytes
  have hr := B.returns
  have hts : ∀ w ∈ bw, w.before _ s = true := fun w h => atoms_spec (ws := wX0_again) B.pre w (bc w h)
  have hown : s.vm.findClass RX0 = some m.cls := findClass_of_methodNamed B.named
  have hlocks := B.notSynchronized
  subst hsz
  have hD := hD0.self (sz := s.heap.size)
  generalize hAe : va_A (lmW cA a0 a1 a2 (Z, T, K)) s.heap.size = A at hD ⊢
  have hA : ∀ q : Nat, s.heap.size ≤ q → A q := fun q h => by rw [← hAe]; exact Or.inr h
  have hS : va_S A s.heap s.heap [] := va_S.rf
  have hl := lv_entry ([.ref a0, .int (nI f), .int (n)]) (n := 4) (Nat.le_of_ble_eq_true rfl)
  rw [lg_entry_eq]
  generalize (lg_sl ([.ref a0, .int (nI f), .int (n)]) ++ List.replicate (4 - (lg_sl ([.ref a0, .int (nI f), .int (n)])).length) Slot.unset).toArray = ls at hl ⊢
  have hl : lv_has ls 4 [(0, .ref a0), (1, .int (nI f)), (2, .int (n))] := hl
  refine lv_iload_n hx hb dX0_again_0 rfl (lv_at hl 1 rfl) ?_
  refine lv_if_lt (tgt := 27) hx hb dX0_again_1 (by decide) (fun c_1 => ?_) (fun c_1 => ?_)
  · have c_1 := (nI_ltI (a := f) (b := 0) (by omega) (by omega)).mp c_1
    omega
  · have c_1 := mt (nI_ltI (a := f) (b := 0) (by omega) (by omega)).mpr c_1
    refine lv_iload_n hx hb dX0_again_4 rfl (lv_at hl 2 rfl) ?_
    refine lv_iconst (v := nI 1) hx hb dX0_again_5 (by decide) ?_
    refine lv_icmp_lt (tgt := 27) hx hb dX0_again_6 (by decide) (fun c_2 => ?_) (fun c_2 => ?_)
    · refine lv_iconst (v := (-1)) hx hb dX0_again_27 (by decide) ?_
      exact W.iret (v := (-1)) hx hb hr (fun t ht hW => ⟨⟨_, (Z, T, K), rfl, ⟨rfl, rfl⟩, by rw [ht]; exact hP, va_K.moved hW.alike hK, hD⟩, hS.F ht⟩) hS.2.2 dX0_again_28
    · refine lv_iload_n hx hb dX0_again_9 rfl (lv_at hl 2 rfl) ?_
      refine lv_aload_n hx hb dX0_again_10 rfl (lv_at hl 0 rfl) ?_
      refine va_get (D := (dC, dI)) (ci := 0) (v := .int (nI (Z 2))) (C := RX0) (T := TX0) (N := 16) hx hb hts inX0 hown hK hP 0 rfl rfl 2 (by decide) (hts _ fl_X0_19) (fun _ h9 => h9) rfl dX0_again_11 ?_
      refine lv_icmp_gt (tgt := 27) hx hb dX0_again_14 (by decide) (fun c_3 => ?_) (fun c_3 => ?_)
      · refine lv_iconst (v := (-1)) hx hb dX0_again_27 (by decide) ?_
        exact W.iret (v := (-1)) hx hb hr (fun t ht hW => ⟨⟨_, (Z, T, K), rfl, ⟨rfl, rfl⟩, by rw [ht]; exact hP, va_K.moved hW.alike hK, hD⟩, hS.F ht⟩) hS.2.2 dX0_again_28
      · exact (h.elim c_2 c_3).elim
set_option maxHeartbeats 4000000 in
set_option maxRecDepth 100000 in
theorem c_again_far (l : Launch) (dC : Nat → ClassId) (dI : Nat → Nat → Nat) (cA : ClassId) (a0 a1 a2 : Nat) (sz : Nat) (Z : Nat → Nat) (T K : Nat → Int64) (f : Nat) (k0 : Nat) (hn : Z 2 ≤ 32768) (hf : f < 2 ^ 31) (hk1 : 1 ≤ k0) (hk8 : k0 ≤ Z 2) (h : Z 2 < f + k0) : Met l yX0_again wX0_again ({ frames := 1, cells := 0, slots := 0, locals := 23 }) (va_Pc [.ref a0, .int (nI f), .int (nI k0)] (lmP dC dI cA a0 a1 a2 sz (Z, T, K))) (va_Qi (fun (r : Int32) (u : lmU) => r = (-1) ∧ u = (Z, T, K)) (lmB dC dI cA a0 a1 a2 (va_A (lmW cA a0 a1 a2 (Z, T, K)) sz)) (va_A (lmW cA a0 a1 a2 (Z, T, K)) sz)) 0 0 (va_A (lmW cA a0 a1 a2 (Z, T, K)) sz) := by
  refine Met.ofW (cc := cX0_again) (maxL := 4) (ret := (some .int)) (by decide) rfl ?_
  intro p e s m args below meth c s₁ B hml hv
  obtain ⟨rfl, hsz, hP, hK, hD0⟩ := hv
  have hx := B.exec
  have hb := B.bytes
  have hr := B.returns
  have hts : ∀ w ∈ bw, w.before _ s = true := fun w h => atoms_spec (ws := wX0_again) B.pre w (bc w h)
  have hown : s.vm.findClass RX0 = some m.cls := findClass_of_methodNamed B.named
  have hlocks := B.notSynchronized
  subst hsz
  have hD := hD0.self (sz := s.heap.size)
  generalize hAe : va_A (lmW cA a0 a1 a2 (Z, T, K)) s.heap.size = A at hD ⊢
  have hA : ∀ q : Nat, s.heap.size ≤ q → A q := fun q h => by rw [← hAe]; exact Or.inr h
  have hS : va_S A s.heap s.heap [] := va_S.rf
  have hl := lv_entry ([.ref a0, .int (nI f), .int (nI k0)]) (n := 4) (Nat.le_of_ble_eq_true rfl)
  rw [lg_entry_eq]
  generalize (lg_sl ([.ref a0, .int (nI f), .int (nI k0)]) ++ List.replicate (4 - (lg_sl ([.ref a0, .int (nI f), .int (nI k0)])).length) Slot.unset).toArray = ls at hl ⊢
  have hl : lv_has ls 4 [(0, .ref a0), (1, .int (nI f)), (2, .int (nI k0))] := hl
  refine lv_iload_n hx hb dX0_again_0 rfl (lv_at hl 1 rfl) ?_
  refine lv_if_lt (tgt := 27) hx hb dX0_again_1 (by decide) (fun c_1 => ?_) (fun c_1 => ?_)
  · have c_1 := (nI_ltI (a := f) (b := 0) (by omega) (by omega)).mp c_1
    omega
  · have c_1 := mt (nI_ltI (a := f) (b := 0) (by omega) (by omega)).mpr c_1
    refine lv_iload_n hx hb dX0_again_4 rfl (lv_at hl 2 rfl) ?_
    refine lv_iconst (v := nI 1) hx hb dX0_again_5 (by decide) ?_
    refine lv_icmp_lt (tgt := 27) hx hb dX0_again_6 (by decide) (fun c_2 => ?_) (fun c_2 => ?_)
    · have c_2 := (nI_ltI (a := k0) (b := 1) (by omega) (by omega)).mp c_2
      omega
    · have c_2 := mt (nI_ltI (a := k0) (b := 1) (by omega) (by omega)).mpr c_2
      refine lv_iload_n hx hb dX0_again_9 rfl (lv_at hl 2 rfl) ?_
      refine lv_aload_n hx hb dX0_again_10 rfl (lv_at hl 0 rfl) ?_
      refine va_get (D := (dC, dI)) (ci := 0) (v := .int (nI (Z 2))) (C := RX0) (T := TX0) (N := 16) hx hb hts inX0 hown hK hP 0 rfl rfl 2 (by decide) (hts _ fl_X0_19) (fun _ h9 => h9) rfl dX0_again_11 ?_
      refine lv_icmp_gt (tgt := 27) hx hb dX0_again_14 (by decide) (fun c_3 => ?_) (fun c_3 => ?_)
      · have c_3 := (nI_ltI (a := Z 2) (b := k0) (by omega) (by omega)).mp c_3
        omega
      · have c_3 := mt (nI_ltI (a := Z 2) (b := k0) (by omega) (by omega)).mpr c_3
        refine lv_iload_n hx hb dX0_again_17 rfl (lv_at hl 1 rfl) ?_
        refine lv_aload_n hx hb dX0_again_18 rfl (lv_at hl 0 rfl) ?_
        refine va_get (D := (dC, dI)) (ci := 0) (v := .int (nI (Z 2))) (C := RX0) (T := TX0) (N := 16) hx hb hts inX0 hown hK hP 0 rfl rfl 2 (by decide) (hts _ fl_X0_19) (fun _ h9 => h9) rfl dX0_again_19 ?_
        refine lv_iload_n hx hb dX0_again_22 rfl (lv_at hl 2 rfl) ?_
        refine lv_isub hx hb dX0_again_23 ?_
        refine lv_topi (fun x_4 e_5 => ?_)
        obtain rfl : x_4 = nI (Z 2 - k0) := e_5.trans (pk_sub (by omega))
        refine lv_icmp_le (tgt := 29) hx hb dX0_again_24 (by decide) (fun c_6 => ?_) (fun c_6 => ?_)
        · have c_6 := (nI_leI (a := f) (b := Z 2 - k0) (by omega) (by omega)).mp c_6
          omega
        · have c_6 := mt (nI_leI (a := f) (b := Z 2 - k0) (by omega) (by omega)).mpr c_6
          refine lv_iconst (v := (-1)) hx hb dX0_again_27 (by decide) ?_
          exact W.iret (v := (-1)) hx hb hr (fun t ht hW => ⟨⟨_, (Z, T, K), rfl, ⟨rfl, rfl⟩, by rw [ht]; exact hP, va_K.moved hW.alike hK, hD⟩, hS.F ht⟩) hS.2.2 dX0_again_28
set_option maxHeartbeats 4000000 in
set_option maxRecDepth 100000 in
theorem c_again_full (l : Launch) (dC : Nat → ClassId) (dI : Nat → Nat → Nat) (cA : ClassId) (a0 a1 a2 : Nat) (sz : Nat) (Z : Nat → Nat) (T K : Nat → Int64) (f : Nat) (k0 : Nat) (hn : Z 2 ≤ 32768) (hk1 : 1 ≤ k0) (h : f + k0 ≤ Z 2) (hfit : 32768 < Z 2 + k0) : Met l yX0_again wX0_again ({ frames := 1, cells := 0, slots := 0, locals := 23 }) (va_Pc [.ref a0, .int (nI f), .int (nI k0)] (lmP dC dI cA a0 a1 a2 sz (Z, T, K))) (va_Qi (fun (r : Int32) (u : lmU) => r = (-3) ∧ u = (Z, T, K)) (lmB dC dI cA a0 a1 a2 (va_A (lmW cA a0 a1 a2 (Z, T, K)) sz)) (va_A (lmW cA a0 a1 a2 (Z, T, K)) sz)) 0 0 (va_A (lmW cA a0 a1 a2 (Z, T, K)) sz) := by
  refine Met.ofW (cc := cX0_again) (maxL := 4) (ret := (some .int)) (by decide) rfl ?_
  intro p e s m args below meth c s₁ B hml hv
  obtain ⟨rfl, hsz, hP, hK, hD0⟩ := hv
  have hx := B.exec
  have hb := B.bytes
  have hr := B.returns
  have hts : ∀ w ∈ bw, w.before _ s = true := fun w h => atoms_spec (ws := wX0_again) B.pre w (bc w h)
  have hown : s.vm.findClass RX0 = some m.cls := findClass_of_methodNamed B.named
  have hlocks := B.notSynchronized
  subst hsz
  have hD := hD0.self (sz := s.heap.size)
  generalize hAe : va_A (lmW cA a0 a1 a2 (Z, T, K)) s.heap.size = A at hD ⊢
  have hA : ∀ q : Nat, s.heap.size ≤ q → A q := fun q h => by rw [← hAe]; exact Or.inr h
  have hS : va_S A s.heap s.heap [] := va_S.rf
  have hl := lv_entry ([.ref a0, .int (nI f), .int (nI k0)]) (n := 4) (Nat.le_of_ble_eq_true rfl)
  rw [lg_entry_eq]
  generalize (lg_sl ([.ref a0, .int (nI f), .int (nI k0)]) ++ List.replicate (4 - (lg_sl ([.ref a0, .int (nI f), .int (nI k0)])).length) Slot.unset).toArray = ls at hl ⊢
  have hl : lv_has ls 4 [(0, .ref a0), (1, .int (nI f)), (2, .int (nI k0))] := hl
  refine lv_iload_n hx hb dX0_again_0 rfl (lv_at hl 1 rfl) ?_
  refine lv_if_lt (tgt := 27) hx hb dX0_again_1 (by decide) (fun c_1 => ?_) (fun c_1 => ?_)
  · have c_1 := (nI_ltI (a := f) (b := 0) (by omega) (by omega)).mp c_1
    omega
  · have c_1 := mt (nI_ltI (a := f) (b := 0) (by omega) (by omega)).mpr c_1
    refine lv_iload_n hx hb dX0_again_4 rfl (lv_at hl 2 rfl) ?_
    refine lv_iconst (v := nI 1) hx hb dX0_again_5 (by decide) ?_
    refine lv_icmp_lt (tgt := 27) hx hb dX0_again_6 (by decide) (fun c_2 => ?_) (fun c_2 => ?_)
    · have c_2 := (nI_ltI (a := k0) (b := 1) (by omega) (by omega)).mp c_2
      omega
    · have c_2 := mt (nI_ltI (a := k0) (b := 1) (by omega) (by omega)).mpr c_2
      refine lv_iload_n hx hb dX0_again_9 rfl (lv_at hl 2 rfl) ?_
      refine lv_aload_n hx hb dX0_again_10 rfl (lv_at hl 0 rfl) ?_
      refine va_get (D := (dC, dI)) (ci := 0) (v := .int (nI (Z 2))) (C := RX0) (T := TX0) (N := 16) hx hb hts inX0 hown hK hP 0 rfl rfl 2 (by decide) (hts _ fl_X0_19) (fun _ h9 => h9) rfl dX0_again_11 ?_
      refine lv_icmp_gt (tgt := 27) hx hb dX0_again_14 (by decide) (fun c_3 => ?_) (fun c_3 => ?_)
      · have c_3 := (nI_ltI (a := Z 2) (b := k0) (by omega) (by omega)).mp c_3
        omega
      · have c_3 := mt (nI_ltI (a := Z 2) (b := k0) (by omega) (by omega)).mpr c_3
        refine lv_iload_n hx hb dX0_again_17 rfl (lv_at hl 1 rfl) ?_
        refine lv_aload_n hx hb dX0_again_18 rfl (lv_at hl 0 rfl) ?_
        refine va_get (D := (dC, dI)) (ci := 0) (v := .int (nI (Z 2))) (C := RX0) (T := TX0) (N := 16) hx hb hts inX0 hown hK hP 0 rfl rfl 2 (by decide) (hts _ fl_X0_19) (fun _ h9 => h9) rfl dX0_again_19 ?_
        refine lv_iload_n hx hb dX0_again_22 rfl (lv_at hl 2 rfl) ?_
        refine lv_isub hx hb dX0_again_23 ?_
        refine lv_topi (fun x_4 e_5 => ?_)
        obtain rfl : x_4 = nI (Z 2 - k0) := e_5.trans (pk_sub (by omega))
        refine lv_icmp_le (tgt := 29) hx hb dX0_again_24 (by decide) (fun c_6 => ?_) (fun c_6 => ?_)
        · have c_6 := (nI_leI (a := f) (b := Z 2 - k0) (by omega) (by omega)).mp c_6
          refine lv_aload_n hx hb dX0_again_29 rfl (lv_at hl 0 rfl) ?_
          refine va_get (D := (dC, dI)) (ci := 0) (v := .int (nI (Z 2))) (C := RX0) (T := TX0) (N := 16) hx hb hts inX0 hown hK hP 0 rfl rfl 2 (by decide) (hts _ fl_X0_19) (fun _ h9 => h9) rfl dX0_again_30 ?_
          refine lv_iload_n hx hb dX0_again_33 rfl (lv_at hl 2 rfl) ?_
          refine lv_iadd hx hb dX0_again_34 ?_
          refine lv_topi (fun x_7 e_8 => ?_)
          obtain rfl : x_7 = nI (Z 2 + k0) := e_8.trans (nI_add (Z 2) k0)
          refine lv_ldc (v := nI 32768) hx hb hown (hts _ cn_X0_23) dX0_again_35 ?_
          refine lv_icmp_le (tgt := 43) hx hb dX0_again_37 (by decide) (fun c_9 => ?_) (fun c_9 => ?_)
          · have c_9 := (nI_leI (a := Z 2 + k0) (b := 32768) (by omega) (by omega)).mp c_9
            omega
          · have c_9 := mt (nI_leI (a := Z 2 + k0) (b := 32768) (by omega) (by omega)).mpr c_9
            refine lv_bipush (v := (-3)) hx hb dX0_again_40 (by decide) ?_
            exact W.iret (v := (-3)) hx hb hr (fun t ht hW => ⟨⟨_, (Z, T, K), rfl, ⟨rfl, rfl⟩, by rw [ht]; exact hP, va_K.moved hW.alike hK, hD⟩, hS.F ht⟩) hS.2.2 dX0_again_42
        · have c_6 := mt (nI_leI (a := f) (b := Z 2 - k0) (by omega) (by omega)).mpr c_6
          omega
set_option maxHeartbeats 4000000 in
set_option maxRecDepth 100000 in
theorem k_again_45 {p : Program} {l : Launch} {e : Env} {s : State} {m : MethodId} {args : Array Value} {below : List Frame} {meth : Method} {c : Code} {A : Nat → Prop} (hx : p.tables.exec = Jvm.exec) (hb : c.code = cX0_again) (hr : meth.sig.returnType = (some .int)) (hml : c.maxLocals = 4) (hown : s.vm.findClass RX0 = some m.cls) (hts : ∀ w ∈ bw, w.before args s = true) (hlocks : meth.locks = false) {dC : Nat → ClassId} {dI : Nat → Nat → Nat} {cA : ClassId} {a0 a1 a2 : Nat} {Z : Nat → Nat} {T K : Nat → Int64} (hK : va_K (dC, dI) vwCl [(cA, .long)] s) (hA : ∀ q, s.heap.size ≤ q → A q) (f k0 : Nat) (hfk : f + k0 ≤ Z 2) (hfit : Z 2 + k0 ≤ 32768) : ∀ (k : Nat) (T1 : Nat → Int64) (i : Nat), k0 - i < k → i ≤ k0 → (∀ q, byt T1 q = if Z 2 ≤ q ∧ q < Z 2 + i then byt T (f + (q - Z 2)) else byt T q) → ∀ (H : Heap) (locs : List Loc), va_P (dC, dI) vwCl (lmW cA a0 a1 a2 ((zu Z 2 (Z 2 + i)), T1, K)) H → va_D A (lmW cA a0 a1 a2 ((zu Z 2 (Z 2 + i)), T1, K)) → va_S A s.heap H locs → ∀ ls, lv_has ls 4 [(0, .ref a0), (1, .int (nI f)), (2, .int (nI k0)), (3, .int (nI i))] → W p l e (headSpec wX0_again ({ frames := 1, cells := 0, slots := 0, locals := 23 })).room s m args below meth c H locs 0 0 (MQ below (va_Qi (fun (r : Int32) (u : lmU) => ∃ T1, r = nI (Z 2 + k0) ∧ u = (zu Z 2 (Z 2 + k0), T1, K) ∧ ∀ q, byt T1 q = if Z 2 ≤ q ∧ q < Z 2 + k0 then byt T (f + (q - Z 2)) else byt T q) (lmB dC dI cA a0 a1 a2 A) A) args s 0 0 A) (F0 m 45 ls []) := by
  intro k
  induction k with
  | zero => intro T1 i hk; exact absurd hk (by omega)
  | succ k ih =>
    intro T1 i hk hi hT H locs hP hD hS ls hl
    refine lv_iload_n hx hb dX0_again_45 rfl (lv_at hl 3 rfl) ?_
    refine lv_iload_n hx hb dX0_again_46 rfl (lv_at hl 2 rfl) ?_
    refine lv_icmp_ge (tgt := 67) hx hb dX0_again_47 (by decide) (fun c_1 => ?_) (fun c_1 => ?_)
    · have c_1 := (nI_leI (a := k0) (b := i) (by omega) (by omega)).mp c_1
      refine lv_aload_n hx hb dX0_again_67 rfl (lv_at hl 0 rfl) ?_
      refine va_get (D := (dC, dI)) (ci := 0) (v := .int (nI (Z 2 + i))) (C := RX0) (T := TX0) (N := 16) hx hb hts inX0 hown hK hP 0 rfl rfl 2 (by decide) (hts _ fl_X0_19) (fun _ h9 => h9) rfl dX0_again_68 ?_
      exact W.iret (v := nI (Z 2 + i)) hx hb hr (fun t ht hW => ⟨⟨_, ((zu Z 2 (Z 2 + i)), T1, K), rfl, ⟨T1, by rw [show k0 = i by omega], by rw [show k0 = i by omega], by rw [show k0 = i by omega]; exact hT⟩, by rw [ht]; exact hP, va_K.moved hW.alike hK, hD⟩, hS.F ht⟩) hS.2.2 dX0_again_71
    · have c_1 := mt (nI_leI (a := k0) (b := i) (by omega) (by omega)).mpr c_1
      refine lv_aload_n hx hb dX0_again_50 rfl (lv_at hl 0 rfl) ?_
      refine lv_aload_n hx hb dX0_again_51 rfl (lv_at hl 0 rfl) ?_
      refine lv_iload_n hx hb dX0_again_52 rfl (lv_at hl 1 rfl) ?_
      refine lv_iload_n hx hb dX0_again_53 rfl (lv_at hl 3 rfl) ?_
      refine lv_iadd hx hb dX0_again_54 ?_
      refine lv_topi (fun x_2 e_3 => ?_)
      obtain rfl : x_2 = nI (f + i) := e_3.trans (nI_add f i)
      refine vp_callSi (va_Run.run (va_runV (As := [.int (nI (f + i))]) (rest := [.ref a0]) ⟨hx, hb, hml, hown, hts⟩ (c_byteAt l dC dI cA a0 a1 a2 (zu Z 2 (Z 2 + i)) T1 K (f + i) (show Z 2 + i ≤ 32768 by omega) (show f + i < 2 ^ 31 by omega)) (cwV 1 hts (gV (fun _ h => h) ml_X0_28 im_X0_byteAt se_X0_byteAt ini_X0 co_X0_byteAt) rfl rfl rfl pd_X0_byteAt ⟨Nat.le_of_ble_eq_true rfl, Nat.le_of_ble_eq_true rfl⟩) (lm_preR hK hP) rfl rfl hl.1 rfl (lv_room (Nat.le_of_ble_eq_true rfl)) dX0_again_55 ⟨Nat.zero_le _, Nat.zero_le _⟩)) (fun r_4 (e_5 : r_4 = bI (gb T1 (Z 2 + i) (f + i))) => ?_)
      subst e_5
      have := gb_in T1 (Z 2 + i) (f + i)
      refine lv_topi (fun x_6 e_7 => ?_)
      obtain rfl : x_6 = nI (byt T (f + i)) := e_7.trans (by rw [gb_lo (by omega), bI_lo (byt_lt _ _), hT, if_neg (by omega)])
      have := byt_lt T (f + i)
      refine lm_callv (va_runV (As := [.int (nI (byt T (f + i)))]) (rest := []) ⟨hx, hb, hml, hown, hts⟩ (c_append l dC dI cA a0 a1 a2 H.size (zu Z 2 (Z 2 + i)) T1 K (byt T (f + i)) (show Z 2 + i < 32768 by omega) (show byt T (f + i) < 256 by omega)) (cwV 1 hts (gV (fun _ h => h) ml_X0_24 im_X0_append se_X0_append ini_X0 co_X0_append) rfl rfl rfl pd_X0_append ⟨Nat.le_of_ble_eq_true rfl, Nat.le_of_ble_eq_true rfl⟩) (lm_preS hK hP hD) rfl rfl hl.1 rfl (lv_room (Nat.le_of_ble_eq_true rfl)) dX0_again_58 ⟨Nat.zero_le _, Nat.zero_le _⟩) hD hS hA (fun u_9 H locs q_8 hP hD hS => ?_)
      obtain ⟨T_11, rfl, hT_12⟩ := q_8
      have hT_12 : ∀ p, byt T_11 p = if p = Z 2 + i then byt T (f + i) else byt T1 p := hT_12
      have hP : va_P (dC, dI) vwCl (lmW cA a0 a1 a2 ((zu Z 2 (Z 2 + i + 1)), T_11, K)) H := hP
      have hD : va_D A (lmW cA a0 a1 a2 ((zu Z 2 (Z 2 + i + 1)), T_11, K)) := hD
      refine lv_iinc (v := nI (i + 1)) (lv' := [(3, .int (nI (i + 1))), (0, .ref a0), (1, .int (nI f)), (2, .int (nI k0))]) hx hb dX0_again_61 hl (k := 3) rfl (by exact nI_add i 1) (by decide) rfl (fun ls hl => ?_)
      refine lv_goto (tgt := 45) hx hb dX0_again_64 (by decide) ?_
      exact ih T_11 (i + 1) (by omega) (by omega) (fun q => by rw [hT_12 q, hT q]; exact fd_step (g := fun j => byt T (f + j))) _ _ hP hD hS _ (lv_sub hl [1, 2, 3, 0] rfl)
set_option maxHeartbeats 4000000 in
set_option maxRecDepth 100000 in
theorem c_again_ok (l : Launch) (dC : Nat → ClassId) (dI : Nat → Nat → Nat) (cA : ClassId) (a0 a1 a2 : Nat) (sz : Nat) (Z : Nat → Nat) (T K : Nat → Int64) (f : Nat) (k0 : Nat) (hk1 : 1 ≤ k0) (h : f + k0 ≤ Z 2) (hfit : Z 2 + k0 ≤ 32768) : Met l yX0_again wX0_again ({ frames := 1, cells := 0, slots := 0, locals := 23 }) (va_Pc [.ref a0, .int (nI f), .int (nI k0)] (lmP dC dI cA a0 a1 a2 sz (Z, T, K))) (va_Qi (fun (r : Int32) (u : lmU) => ∃ T1, r = nI (Z 2 + k0) ∧ u = (zu Z 2 (Z 2 + k0), T1, K) ∧ ∀ q, byt T1 q = if Z 2 ≤ q ∧ q < Z 2 + k0 then byt T (f + (q - Z 2)) else byt T q) (lmB dC dI cA a0 a1 a2 (va_A (lmW cA a0 a1 a2 (Z, T, K)) sz)) (va_A (lmW cA a0 a1 a2 (Z, T, K)) sz)) 0 0 (va_A (lmW cA a0 a1 a2 (Z, T, K)) sz) := by
  refine Met.ofW (cc := cX0_again) (maxL := 4) (ret := (some .int)) (by decide) rfl ?_
  intro p e s m args below meth c s₁ B hml hv
  obtain ⟨rfl, hsz, hP, hK, hD0⟩ := hv
  have hx := B.exec
  have hb := B.bytes
  have hr := B.returns
  have hts : ∀ w ∈ bw, w.before _ s = true := fun w h => atoms_spec (ws := wX0_again) B.pre w (bc w h)
  have hown : s.vm.findClass RX0 = some m.cls := findClass_of_methodNamed B.named
  have hlocks := B.notSynchronized
  subst hsz
  have hD := hD0.self (sz := s.heap.size)
  generalize hAe : va_A (lmW cA a0 a1 a2 (Z, T, K)) s.heap.size = A at hD ⊢
  have hA : ∀ q : Nat, s.heap.size ≤ q → A q := fun q h => by rw [← hAe]; exact Or.inr h
  have hS : va_S A s.heap s.heap [] := va_S.rf
  have hl := lv_entry ([.ref a0, .int (nI f), .int (nI k0)]) (n := 4) (Nat.le_of_ble_eq_true rfl)
  rw [lg_entry_eq]
  generalize (lg_sl ([.ref a0, .int (nI f), .int (nI k0)]) ++ List.replicate (4 - (lg_sl ([.ref a0, .int (nI f), .int (nI k0)])).length) Slot.unset).toArray = ls at hl ⊢
  have hl : lv_has ls 4 [(0, .ref a0), (1, .int (nI f)), (2, .int (nI k0))] := hl
  refine lv_iload_n hx hb dX0_again_0 rfl (lv_at hl 1 rfl) ?_
  refine lv_if_lt (tgt := 27) hx hb dX0_again_1 (by decide) (fun c_1 => ?_) (fun c_1 => ?_)
  · have c_1 := (nI_ltI (a := f) (b := 0) (by omega) (by omega)).mp c_1
    omega
  · have c_1 := mt (nI_ltI (a := f) (b := 0) (by omega) (by omega)).mpr c_1
    refine lv_iload_n hx hb dX0_again_4 rfl (lv_at hl 2 rfl) ?_
    refine lv_iconst (v := nI 1) hx hb dX0_again_5 (by decide) ?_
    refine lv_icmp_lt (tgt := 27) hx hb dX0_again_6 (by decide) (fun c_2 => ?_) (fun c_2 => ?_)
    · have c_2 := (nI_ltI (a := k0) (b := 1) (by omega) (by omega)).mp c_2
      omega
    · have c_2 := mt (nI_ltI (a := k0) (b := 1) (by omega) (by omega)).mpr c_2
      refine lv_iload_n hx hb dX0_again_9 rfl (lv_at hl 2 rfl) ?_
      refine lv_aload_n hx hb dX0_again_10 rfl (lv_at hl 0 rfl) ?_
      refine va_get (D := (dC, dI)) (ci := 0) (v := .int (nI (Z 2))) (C := RX0) (T := TX0) (N := 16) hx hb hts inX0 hown hK hP 0 rfl rfl 2 (by decide) (hts _ fl_X0_19) (fun _ h9 => h9) rfl dX0_again_11 ?_
      refine lv_icmp_gt (tgt := 27) hx hb dX0_again_14 (by decide) (fun c_3 => ?_) (fun c_3 => ?_)
      · have c_3 := (nI_ltI (a := Z 2) (b := k0) (by omega) (by omega)).mp c_3
        omega
      · have c_3 := mt (nI_ltI (a := Z 2) (b := k0) (by omega) (by omega)).mpr c_3
        refine lv_iload_n hx hb dX0_again_17 rfl (lv_at hl 1 rfl) ?_
        refine lv_aload_n hx hb dX0_again_18 rfl (lv_at hl 0 rfl) ?_
        refine va_get (D := (dC, dI)) (ci := 0) (v := .int (nI (Z 2))) (C := RX0) (T := TX0) (N := 16) hx hb hts inX0 hown hK hP 0 rfl rfl 2 (by decide) (hts _ fl_X0_19) (fun _ h9 => h9) rfl dX0_again_19 ?_
        refine lv_iload_n hx hb dX0_again_22 rfl (lv_at hl 2 rfl) ?_
        refine lv_isub hx hb dX0_again_23 ?_
        refine lv_topi (fun x_4 e_5 => ?_)
        obtain rfl : x_4 = nI (Z 2 - k0) := e_5.trans (pk_sub (by omega))
        refine lv_icmp_le (tgt := 29) hx hb dX0_again_24 (by decide) (fun c_6 => ?_) (fun c_6 => ?_)
        · have c_6 := (nI_leI (a := f) (b := Z 2 - k0) (by omega) (by omega)).mp c_6
          refine lv_aload_n hx hb dX0_again_29 rfl (lv_at hl 0 rfl) ?_
          refine va_get (D := (dC, dI)) (ci := 0) (v := .int (nI (Z 2))) (C := RX0) (T := TX0) (N := 16) hx hb hts inX0 hown hK hP 0 rfl rfl 2 (by decide) (hts _ fl_X0_19) (fun _ h9 => h9) rfl dX0_again_30 ?_
          refine lv_iload_n hx hb dX0_again_33 rfl (lv_at hl 2 rfl) ?_
          refine lv_iadd hx hb dX0_again_34 ?_
          refine lv_topi (fun x_7 e_8 => ?_)
          obtain rfl : x_7 = nI (Z 2 + k0) := e_8.trans (nI_add (Z 2) k0)
          refine lv_ldc (v := nI 32768) hx hb hown (hts _ cn_X0_23) dX0_again_35 ?_
          refine lv_icmp_le (tgt := 43) hx hb dX0_again_37 (by decide) (fun c_9 => ?_) (fun c_9 => ?_)
          · have c_9 := (nI_leI (a := Z 2 + k0) (b := 32768) (by omega) (by omega)).mp c_9
            refine lv_iconst (v := nI 0) hx hb dX0_again_43 (by decide) ?_
            refine lv_istore_n (lv' := [(3, .int (nI 0)), (0, .ref a0), (1, .int (nI f)), (2, .int (nI k0))]) hx hb dX0_again_44 rfl hl (by decide) rfl (fun ls hl => ?_)
            exact k_again_45 hx hb hr hml hown hts hlocks hK hA f k0 h hfit (k0 + 1) T 0 (by omega) (by omega) (fun q => by rw [if_neg (by omega)]) _ _ hP hD hS _ (lv_sub hl [1, 2, 3, 0] rfl)
          · have c_9 := mt (nI_leI (a := Z 2 + k0) (b := 32768) (by omega) (by omega)).mpr c_9
            omega
        · have c_6 := mt (nI_leI (a := f) (b := Z 2 - k0) (by omega) (by omega)).mpr c_6
          omega
