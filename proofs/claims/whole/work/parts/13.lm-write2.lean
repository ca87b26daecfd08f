set_option maxHeartbeats 4000000 in
set_option maxRecDepth 100000 in
theorem c_append (l : Launch) (dC : Nat → ClassId) (dI : Nat → Nat → Nat) (cA : ClassId) (a0 a1 a2 : Nat) (sz : Nat) (Z : Nat → Nat) (T K : Nat → Int64) (v : Nat) (hn : Z 2 < 32768) (hv : v < 256) : Met l yX0_append wX0_append ({ frames := 0, cells := 0, slots := 0, locals := 0 }) (va_Pc [.ref a0, .int (nI v)] (lmP dC dI cA a0 a1 a2 sz (Z, T, K))) (va_Qv (fun (u : lmU) => ∃ T1, u = (zu Z 2 (Z 2 + 1), T1, K) ∧ ∀ p, byt T1 p = if p = Z 2 then v else byt T p) (lmB dC dI cA a0 a1 a2 (va_A (lmW cA a0 a1 a2 (Z, T, K)) sz)) (va_A (lmW cA a0 a1 a2 (Z, T, K)) sz)) 0 0 (va_A (lmW cA a0 a1 a2 (Z, T, K)) sz) := by
  refine Met.ofW (cc := cX0_append) (maxL := 4) (ret := none) (by decide) rfl ?_
  intro p e s m args below meth c s₁ B hml hv
  obtain ⟨rfl, hsz, hP, hK, hD0⟩ := hv
  have hx := B.exec
  have hb := B.bytes
  have hr := B.returns
  have hts : ∀ w ∈ bw, w.before _ s = true := fun w h => atoms_spec (ws := wX0_append) B.pre w (bc w h)
  have hown : s.vm.findClass RX0 = some m.cls := findClass_of_methodNamed B.named
  have hlocks := B.notSynchronized
  subst hsz
  have hD := hD0.self (sz := s.heap.size)
  generalize hAe : va_A (lmW cA a0 a1 a2 (Z, T, K)) s.heap.size = A at hD ⊢
  have hA : ∀ q : Nat, s.heap.size ≤ q → A q := fun q h => by rw [← hAe]; exact Or.inr h
  have hS : va_S A s.heap s.heap [] := va_S.rf
  have hl := lv_entry ([.ref a0, .int (nI v)]) (n := 4) (Nat.le_of_ble_eq_true rfl)
  rw [lg_entry_eq]
  generalize (lg_sl ([.ref a0, .int (nI v)]) ++ List.replicate (4 - (lg_sl ([.ref a0, .int (nI v)])).length) Slot.unset).toArray = ls at hl ⊢
  have hl : lv_has ls 4 [(0, .ref a0), (1, .int (nI v))] := hl
  refine lv_aload_n hx hb dX0_append_0 rfl (lv_at hl 0 rfl) ?_
  refine va_get (D := (dC, dI)) (ci := 0) (v := .int (nI (Z 2))) (C := RX0) (T := TX0) (N := 16) hx hb hts inX0 hown hK hP 0 rfl rfl 2 (by decide) (hts _ fl_X0_19) (fun _ h9 => h9) rfl dX0_append_1 ?_
  refine lv_iconst (v := nI 3) hx hb dX0_append_4 (by decide) ?_
  refine lv_ishr hx hb dX0_append_5 ?_
  refine lv_topi (fun x_1 e_2 => ?_)
  obtain rfl : x_1 = nI ((Z 2) / 8) := e_2.trans (pk_shrN (by omega) _ 3 (by decide))
  refine lv_istore_n (lv' := [(2, .int (nI ((Z 2) / 8))), (0, .ref a0), (1, .int (nI v))]) hx hb dX0_append_6 rfl hl (by decide) rfl (fun ls hl => ?_)
  refine lv_iload_n hx hb dX0_append_7 rfl (lv_at hl 0 rfl) ?_
  refine lv_if_lt (tgt := 20) hx hb dX0_append_8 (by decide) (fun c_3 => ?_) (fun c_3 => ?_)
  · have c_3 := (nI_ltI (a := (Z 2) / 8) (b := 0) (by omega) (by omega)).mp c_3
    exact W.vret hx hb hr (fun t ht hW => ⟨⟨(Z, T, K), rfl, (by omega), by rw [ht]; exact hP, va_K.moved hW.alike hK, hD⟩, hS.F ht⟩) hS.2.2 dX0_append_20
  · have c_3 := mt (nI_ltI (a := (Z 2) / 8) (b := 0) (by omega) (by omega)).mpr c_3
    refine lv_iload_n hx hb dX0_append_11 rfl (lv_at hl 0 rfl) ?_
    refine lv_aload_n hx hb dX0_append_12 rfl (lv_at hl 1 rfl) ?_
    refine va_get (D := (dC, dI)) (ci := 0) (v := .ref a1) (C := RX0) (T := TX0) (N := 16) hx hb hts inX0 hown hK hP 0 rfl rfl 0 (by decide) (hts _ fl_X0_9) (fun _ h9 => h9) rfl dX0_append_13 ?_
    refine va_alen hx hb hK hP 1 0 rfl rfl (v := nI 4096) rfl dX0_append_16 ?_
    refine lv_icmp_lt (tgt := 21) hx hb dX0_append_17 (by decide) (fun c_4 => ?_) (fun c_4 => ?_)
    · have c_4 := (nI_ltI (a := (Z 2) / 8) (b := 4096) (by omega) (by omega)).mp c_4
      refine lv_aload_n hx hb dX0_append_21 rfl (lv_at hl 1 rfl) ?_
      refine va_get (D := (dC, dI)) (ci := 0) (v := .int (nI (Z 2))) (C := RX0) (T := TX0) (N := 16) hx hb hts inX0 hown hK hP 0 rfl rfl 2 (by decide) (hts _ fl_X0_19) (fun _ h9 => h9) rfl dX0_append_22 ?_
      refine lv_bipush (v := nI 7) hx hb dX0_append_25 (by decide) ?_
      refine lv_iand hx hb dX0_append_27 ?_
      refine lv_topi (fun x_5 e_6 => ?_)
      obtain rfl : x_5 = nI ((Z 2) % 8) := e_6.trans (nI_mask (Z 2) 3 (by decide) (by decide))
      refine lv_iconst (v := nI 3) hx hb dX0_append_28 (by decide) ?_
      refine lv_ishl hx hb dX0_append_29 ?_
      refine lv_topi (fun x_7 e_8 => ?_)
      obtain rfl : x_7 = nI (((Z 2) % 8) * 8) := e_8.trans (pk_shlN _ 3 (by decide) (by omega))
      refine lv_istore_n (lv' := [(3, .int (nI (((Z 2) % 8) * 8))), (2, .int (nI ((Z 2) / 8))), (0, .ref a0), (1, .int (nI v))]) hx hb dX0_append_30 rfl hl (by decide) rfl (fun ls hl => ?_)
      refine lv_aload_n hx hb dX0_append_31 rfl (lv_at hl 2 rfl) ?_
      refine va_get (D := (dC, dI)) (ci := 0) (v := .ref a1) (C := RX0) (T := TX0) (N := 16) hx hb hts inX0 hown hK hP 0 rfl rfl 0 (by decide) (hts _ fl_X0_9) (fun _ h9 => h9) rfl dX0_append_32 ?_
      refine lv_iload_n hx hb dX0_append_35 rfl (lv_at hl 1 rfl) ?_
      refine lv_aload_n hx hb dX0_append_36 rfl (lv_at hl 2 rfl) ?_
      refine va_get (D := (dC, dI)) (ci := 0) (v := .ref a1) (C := RX0) (T := TX0) (N := 16) hx hb hts inX0 hown hK hP 0 rfl rfl 0 (by decide) (hts _ fl_X0_9) (fun _ h9 => h9) rfl dX0_append_37 ?_
      refine lv_iload_n hx hb dX0_append_40 rfl (lv_at hl 1 rfl) ?_
      refine va_lald hx hb hK hP 1 0 rfl rfl (vp_in_nI (by omega) (by decide)) dX0_append_41 ?_
      refine lv_topl (fun x_9 e_10 => ?_)
      obtain rfl : x_9 = lN (tn (T ((Z 2) / 8))) := e_10.trans (by rw [nI_clamp (by omega), tn_lN])
      refine lv_ldc2 (v := lN 255) hx hb hown (hts _ cn_X0_83) dX0_append_42 ?_
      refine lv_iload_n hx hb dX0_append_45 rfl (lv_at hl 0 rfl) ?_
      refine lv_lshl (v := lN (255 * 2 ^ (((Z 2) % 8) * 8))) hx hb dX0_append_46 (wb_shl _ (by omega)) ?_
      refine lv_ldc2 (v := (-1)) hx hb hown (hts _ cn_X0_88) dX0_append_47 ?_
      refine lv_lxor hx hb dX0_append_50 ?_
      refine lv_land hx hb dX0_append_51 ?_
      refine lv_iload_n hx hb dX0_append_52 rfl (lv_at hl 3 rfl) ?_
      refine lv_i2l (v := lN v) hx hb dX0_append_53 (nI_l (by omega)) ?_
      refine lv_ldc2 (v := lN 255) hx hb hown (hts _ cn_X0_83) dX0_append_54 ?_
      refine lv_land hx hb dX0_append_57 ?_
      refine lv_topl (fun x_11 e_12 => ?_)
      obtain rfl : x_11 = lN v := e_12.trans (by have h := wb_mask (n := v) (k := 8) (by omega) (by decide); rw [Nat.mod_eq_of_lt (show v < 2 ^ 8 by omega)] at h; exact h)
      refine lv_iload_n hx hb dX0_append_58 rfl (lv_at hl 0 rfl) ?_
      refine lv_lshl (v := lN (v * 2 ^ (((Z 2) % 8) * 8))) hx hb dX0_append_59 (wb_shl _ (by omega)) ?_
      refine lv_lor hx hb dX0_append_60 ?_
      refine va_last hx hb hK hP hD hS 1 0 rfl rfl (vp_in_nI (by omega) (by decide)) dX0_append_61 (fun H locs hP hD hS => ?_)
      rw [nI_clamp (by omega)] at hP hD
      have hP : va_P (dC, dI) vwCl (lmW cA a0 a1 a2 (Z, (vp_updL T ((Z 2) / 8) (((lN (tn (T ((Z 2) / 8)))) &&& ((lN (255 * 2 ^ (((Z 2) % 8) * 8))) ^^^ ((-1)))) ||| (lN (v * 2 ^ (((Z 2) % 8) * 8))))), K)) H := hP
      have hD : va_D A (lmW cA a0 a1 a2 (Z, (vp_updL T ((Z 2) / 8) (((lN (tn (T ((Z 2) / 8)))) &&& ((lN (255 * 2 ^ (((Z 2) % 8) * 8))) ^^^ ((-1)))) ||| (lN (v * 2 ^ (((Z 2) % 8) * 8))))), K)) := hD
      refine lv_aload_n hx hb dX0_append_62 rfl (lv_at hl 2 rfl) ?_
      refine lv_dup hx hb dX0_append_63 rfl ?_
      refine va_get (D := (dC, dI)) (ci := 0) (v := .int (nI (Z 2))) (C := RX0) (T := TX0) (N := 16) hx hb hts inX0 hown hK hP 0 rfl rfl 2 (by decide) (hts _ fl_X0_19) (fun _ h9 => h9) rfl dX0_append_64 ?_
      refine lv_iconst (v := nI 1) hx hb dX0_append_67 (by decide) ?_
      refine lv_iadd hx hb dX0_append_68 ?_
      refine lv_topi (fun x_13 e_14 => ?_)
      obtain rfl : x_13 = nI (Z 2 + 1) := e_14.trans (nI_add (Z 2) 1)
      refine va_put (D := (dC, dI)) (ci := 0) (v := .int (nI (Z 2 + 1))) (ty := .int) (C := RX0) (T := TX0) (N := 16) hx hb hts inX0 tyX0 okX0 nmX0 hown hK hP hD hS 0 rfl rfl 2 (by decide) (hts _ fl_X0_19) (fun _ h9 => h9) rfl (by decide +kernel) rfl rfl (Nat.le_of_ble_eq_true rfl) dX0_append_69 (fun H locs hP hD hS => ?_)
      have hP : va_P (dC, dI) vwCl (lmW cA a0 a1 a2 ((zu Z 2 (Z 2 + 1)), (vp_updL T ((Z 2) / 8) (((lN (tn (T ((Z 2) / 8)))) &&& ((lN (255 * 2 ^ (((Z 2) % 8) * 8))) ^^^ ((-1)))) ||| (lN (v * 2 ^ (((Z 2) % 8) * 8))))), K)) H := hP
      have hD : va_D A (lmW cA a0 a1 a2 ((zu Z 2 (Z 2 + 1)), (vp_updL T ((Z 2) / 8) (((lN (tn (T ((Z 2) / 8)))) &&& ((lN (255 * 2 ^ (((Z 2) % 8) * 8))) ^^^ ((-1)))) ||| (lN (v * 2 ^ (((Z 2) % 8) * 8))))), K)) := hD
      exact W.vret hx hb hr (fun t ht hW => ⟨⟨((zu Z 2 (Z 2 + 1)), (vp_updL T ((Z 2) / 8) (((lN (tn (T ((Z 2) / 8)))) &&& ((lN (255 * 2 ^ (((Z 2) % 8) * 8))) ^^^ ((-1)))) ||| (lN (v * 2 ^ (((Z 2) % 8) * 8))))), K), rfl, ⟨_, rfl, app_byt T (Z 2) v hv⟩, by rw [ht]; exact hP, va_K.moved hW.alike hK, hD⟩, hS.F ht⟩) hS.2.2 dX0_append_72
    · have c_4 := mt (nI_ltI (a := (Z 2) / 8) (b := 4096) (by omega) (by omega)).mpr c_4
      exact W.vret hx hb hr (fun t ht hW => ⟨⟨(Z, T, K), rfl, (by omega), by rw [ht]; exact hP, va_K.moved hW.alike hK, hD⟩, hS.F ht⟩) hS.2.2 dX0_append_20
set_option maxHeartbeats 4000000 in
set_option maxRecDepth 100000 in
theorem c_passBlank (l : Launch) (dC : Nat → ClassId) (dI : Nat → Nat → Nat) (cA : ClassId) (a0 a1 a2 : Nat) (sz : Nat) (Z : Nat → Nat) (T K : Nat → Int64) (stop : Nat) (hn : Z 2 ≤ 32768) (hst : stop < 2 ^ 29) (ha : Z 3 < 2 ^ 29) : Met l yX0_passBlank wX0_passBlank ({ frames := 3, cells := 0, slots := 0, locals := 67 }) (va_Pc [.ref a0, .int (nI stop)] (lmP dC dI cA a0 a1 a2 sz (Z, T, K))) (va_Qi (fun (r : Int32) (u : lmU) => r = nI 0 ∧ u = (pbZ T Z stop, T, K)) (lmB dC dI cA a0 a1 a2 (va_A (lmW cA a0 a1 a2 (Z, T, K)) sz)) (va_A (lmW cA a0 a1 a2 (Z, T, K)) sz)) 0 0 (va_A (lmW cA a0 a1 a2 (Z, T, K)) sz) := by
  refine Met.ofW (cc := cX0_passBlank) (maxL := 2) (ret := (some .int)) (by decide) rfl ?_
  intro p e s m args below meth c s₁ B hml hv
  obtain ⟨rfl, hsz, hP, hK, hD0⟩ := hv
  have hx := B.exec
  have hb := B.bytes
  have hr := B.returns
  have hts : ∀ w ∈ bw, w.before _ s = true := fun w h => atoms_spec (ws := wX0_passBlank) B.pre w (bc w h)
  have hown : s.vm.findClass RX0 = some m.cls := findClass_of_methodNamed B.named
  have hlocks := B.notSynchronized
  subst hsz
  have hD := hD0.self (sz := s.heap.size)
  generalize hAe : va_A (lmW cA a0 a1 a2 (Z, T, K)) s.heap.size = A at hD ⊢
  have hA : ∀ q : Nat, s.heap.size ≤ q → A q := fun q h => by rw [← hAe]; exact Or.inr h
  have hS : va_S A s.heap s.heap [] := va_S.rf
  have hl := lv_entry ([.ref a0, .int (nI stop)]) (n := 2) (Nat.le_of_ble_eq_true rfl)
  rw [lg_entry_eq]
  generalize (lg_sl ([.ref a0, .int (nI stop)]) ++ List.replicate (2 - (lg_sl ([.ref a0, .int (nI stop)])).length) Slot.unset).toArray = ls at hl ⊢
  have hl : lv_has ls 2 [(0, .ref a0), (1, .int (nI stop))] := hl
  refine lv_aload_n hx hb dX0_passBlank_0 rfl (lv_at hl 0 rfl) ?_
  refine lv_iload_n hx hb dX0_passBlank_1 rfl (lv_at hl 1 rfl) ?_
  refine lm_calli (va_runV (As := [.int (nI stop)]) (rest := []) ⟨hx, hb, hml, hown, hts⟩ (c_pass l dC dI cA a0 a1 a2 s.heap.size Z T K stop (show Z 2 ≤ 32768 by omega) (show stop < 2 ^ 29 by omega) (show Z 3 < 2 ^ 29 by omega)) (cwV 1 hts (gV (fun _ h => h) ml_X0_45 im_X0_pass se_X0_pass ini_X0 co_X0_pass) rfl rfl rfl pd_X0_pass ⟨Nat.le_of_ble_eq_true rfl, Nat.le_of_ble_eq_true rfl⟩) (lm_preS hK hP hD) rfl rfl hl.1 rfl (lv_room (Nat.le_of_ble_eq_true rfl)) dX0_passBlank_2 ⟨Nat.zero_le _, Nat.zero_le _⟩) hD hS hA (fun r_3 u_2 H locs q_1 hP hD hS => ?_)
  obtain ⟨a_4, li_5, n_6, hp_7, rfl, rfl⟩ := q_1
  have hp_7 : pss T (Z 2) stop (Z 3) (Z 4) 0 = (a_4, li_5, n_6) := hp_7
  have := pss_b hp_7
  have hP : va_P (dC, dI) vwCl (lmW cA a0 a1 a2 ((zu (zu Z 3 a_4) 4 li_5), T, K)) H := hP
  have hD : va_D A (lmW cA a0 a1 a2 ((zu (zu Z 3 a_4) 4 li_5), T, K)) := hD
  refine lv_pop hx hb dX0_passBlank_5 rfl ?_
  refine lv_aload_n hx hb dX0_passBlank_6 rfl (lv_at hl 0 rfl) ?_
  refine lv_iconst (v := nI 1) hx hb dX0_passBlank_7 (by decide) ?_
  refine va_put (D := (dC, dI)) (ci := 0) (v := .int (nI 1)) (ty := .boolean) (C := RX0) (T := TX0) (N := 16) hx hb hts inX0 tyX0 okX0 nmX0 hown hK hP hD hS 0 rfl rfl 11 (by decide) (hts _ fl_X0_93) (fun _ h9 => h9) rfl (by decide +kernel) rfl rfl (Nat.le_of_ble_eq_true rfl) dX0_passBlank_8 (fun H locs hP hD hS => ?_)
  have hP : va_P (dC, dI) vwCl (lmW cA a0 a1 a2 ((zu (zu (zu Z 3 a_4) 4 li_5) 11 1), T, K)) H := hP
  have hD : va_D A (lmW cA a0 a1 a2 ((zu (zu (zu Z 3 a_4) 4 li_5) 11 1), T, K)) := hD
  refine lv_iconst (v := nI 0) hx hb dX0_passBlank_11 (by decide) ?_
  exact W.iret (v := nI 0) hx hb hr (fun t ht hW => ⟨⟨_, ((zu (zu (zu Z 3 a_4) 4 li_5) 11 1), T, K), rfl, ⟨rfl, by rw [pbZ, psZ, hp_7]⟩, by rw [ht]; exact hP, va_K.moved hW.alike hK, hD⟩, hS.F ht⟩) hS.2.2 dX0_passBlank_12
set_option maxHeartbeats 4000000 in
set_option maxRecDepth 100000 in
theorem c_closeLine (l : Launch) (dC : Nat → ClassId) (dI : Nat → Nat → Nat) (cA : ClassId) (a0 a1 a2 : Nat) (sz : Nat) (Z : Nat → Nat) (T K : Nat → Int64)  (h10 : Z 10 < 2 ^ 29) (h5 : Z 5 < 2 ^ 29) : Met l yX0_closeLine wX0_closeLine ({ frames := 1, cells := 0, slots := 0, locals := 22 }) (va_Pc [.ref a0] (lmP dC dI cA a0 a1 a2 sz (Z, T, K))) (va_Qi (fun (r : Int32) (u : lmU) => r = nI (clZ Z).2 ∧ u = ((clZ Z).1, T, K)) (lmB dC dI cA a0 a1 a2 (va_A (lmW cA a0 a1 a2 (Z, T, K)) sz)) (va_A (lmW cA a0 a1 a2 (Z, T, K)) sz)) 0 0 (va_A (lmW cA a0 a1 a2 (Z, T, K)) sz) := by
  refine Met.ofW (cc := cX0_closeLine) (maxL := 1) (ret := (some .int)) (by decide) rfl ?_
  intro p e s m args below meth c s₁ B hml hv
  obtain ⟨rfl, hsz, hP, hK, hD0⟩ := hv
  have hx := B.exec
  have hb := B.bytes
  have hr := B.returns
  have hts : ∀ w ∈ bw, w.before _ s = true := fun w h => atoms_spec (ws := wX0_closeLine) B.pre w (bc w h)
  have hown : s.vm.findClass RX0 = some m.cls := findClass_of_methodNamed B.named
  have hlocks := B.notSynchronized
  subst hsz
  have hD := hD0.self (sz := s.heap.size)
  generalize hAe : va_A (lmW cA a0 a1 a2 (Z, T, K)) s.heap.size = A at hD ⊢
  have hA : ∀ q : Nat, s.heap.size ≤ q → A q := fun q h => by rw [← hAe]; exact Or.inr h
  have hS : va_S A s.heap s.heap [] := va_S.rf
  have hl := lv_entry ([.ref a0]) (n := 1) (Nat.le_of_ble_eq_true rfl)
  rw [lg_entry_eq]
  generalize (lg_sl ([.ref a0]) ++ List.replicate (1 - (lg_sl ([.ref a0])).length) Slot.unset).toArray = ls at hl ⊢
  have hl : lv_has ls 1 [(0, .ref a0)] := hl
  refine lv_aload_n hx hb dX0_closeLine_0 rfl (lv_at hl 0 rfl) ?_
  refine va_get (D := (dC, dI)) (ci := 0) (v := .int (nI (Z 10))) (C := RX0) (T := TX0) (N := 16) hx hb hts inX0 hown hK hP 0 rfl rfl 10 (by decide) (hts _ fl_X0_90) (fun _ h9 => h9) rfl dX0_closeLine_1 ?_
  refine lv_if_ne (tgt := 9) hx hb dX0_closeLine_4 (by decide) (fun c_1 => ?_) (fun c_1 => ?_)
  · have c_1 := mt (nI_eq (a := Z 10) (b := 0) (by omega) (by omega)).mpr c_1
    refine lv_aload_n hx hb dX0_closeLine_9 rfl (lv_at hl 0 rfl) ?_
    refine va_get (D := (dC, dI)) (ci := 0) (v := .int (nI (Z 5))) (C := RX0) (T := TX0) (N := 16) hx hb hts inX0 hown hK hP 0 rfl rfl 5 (by decide) (hts _ fl_X0_62) (fun _ h9 => h9) rfl dX0_closeLine_10 ?_
    refine lv_sipush (v := nI 20000) hx hb dX0_closeLine_13 (by decide) ?_
    refine lv_icmp_lt (tgt := 30) hx hb dX0_closeLine_16 (by decide) (fun c_2 => ?_) (fun c_2 => ?_)
    · have c_2 := (nI_ltI (a := Z 5) (b := 20000) (by omega) (by omega)).mp c_2
      refine lv_aload_n hx hb dX0_closeLine_30 rfl (lv_at hl 0 rfl) ?_
      refine lv_dup hx hb dX0_closeLine_31 rfl ?_
      refine va_get (D := (dC, dI)) (ci := 0) (v := .int (nI (Z 5))) (C := RX0) (T := TX0) (N := 16) hx hb hts inX0 hown hK hP 0 rfl rfl 5 (by decide) (hts _ fl_X0_62) (fun _ h9 => h9) rfl dX0_closeLine_32 ?_
      refine lv_iconst (v := nI 1) hx hb dX0_closeLine_35 (by decide) ?_
      refine lv_iadd hx hb dX0_closeLine_36 ?_
      refine lv_topi (fun x_3 e_4 => ?_)
      obtain rfl : x_3 = nI (Z 5 + 1) := e_4.trans (nI_add (Z 5) 1)
      refine va_put (D := (dC, dI)) (ci := 0) (v := .int (nI (Z 5 + 1))) (ty := .int) (C := RX0) (T := TX0) (N := 16) hx hb hts inX0 tyX0 okX0 nmX0 hown hK hP hD hS 0 rfl rfl 5 (by decide) (hts _ fl_X0_62) (fun _ h9 => h9) rfl (by decide +kernel) rfl rfl (Nat.le_of_ble_eq_true rfl) dX0_closeLine_37 (fun H locs hP hD hS => ?_)
      have hP : va_P (dC, dI) vwCl (lmW cA a0 a1 a2 ((zu Z 5 (Z 5 + 1)), T, K)) H := hP
      have hD : va_D A (lmW cA a0 a1 a2 ((zu Z 5 (Z 5 + 1)), T, K)) := hD
      refine lv_aload_n hx hb dX0_closeLine_40 rfl (lv_at hl 0 rfl) ?_
      refine va_get (D := (dC, dI)) (ci := 0) (v := .int (nI (Z 10))) (C := RX0) (T := TX0) (N := 16) hx hb hts inX0 hown hK hP 0 rfl rfl 10 (by decide) (hts _ fl_X0_90) (fun _ h9 => h9) rfl dX0_closeLine_41 ?_
      refine lv_sipush (v := nI 8000) hx hb dX0_closeLine_44 (by decide) ?_
      refine lv_icmp_le (tgt := 61) hx hb dX0_closeLine_47 (by decide) (fun c_5 => ?_) (fun c_5 => ?_)
      · have c_5 := (nI_leI (a := Z 10) (b := 8000) (by omega) (by omega)).mp c_5
        refine lv_aload_n hx hb dX0_closeLine_61 rfl (lv_at hl 0 rfl) ?_
        refine lv_aload_n hx hb dX0_closeLine_62 rfl (lv_at hl 0 rfl) ?_
        refine va_get (D := (dC, dI)) (ci := 0) (v := .int (nI (Z 10))) (C := RX0) (T := TX0) (N := 16) hx hb hts inX0 hown hK hP 0 rfl rfl 10 (by decide) (hts _ fl_X0_90) (fun _ h9 => h9) rfl dX0_closeLine_63 ?_
        refine va_put (D := (dC, dI)) (ci := 0) (v := .int (nI (Z 10))) (ty := .int) (C := RX0) (T := TX0) (N := 16) hx hb hts inX0 tyX0 okX0 nmX0 hown hK hP hD hS 0 rfl rfl 9 (by decide) (hts _ fl_X0_32) (fun _ h9 => h9) rfl (by decide +kernel) rfl rfl (Nat.le_of_ble_eq_true rfl) dX0_closeLine_66 (fun H locs hP hD hS => ?_)
        have hP : va_P (dC, dI) vwCl (lmW cA a0 a1 a2 ((zu (zu Z 5 (Z 5 + 1)) 9 (Z 10)), T, K)) H := hP
        have hD : va_D A (lmW cA a0 a1 a2 ((zu (zu Z 5 (Z 5 + 1)) 9 (Z 10)), T, K)) := hD
        refine lv_iconst (v := nI 0) hx hb dX0_closeLine_69 (by decide) ?_
        exact W.iret (v := nI 0) hx hb hr (fun t ht hW => ⟨⟨_, ((zu (zu Z 5 (Z 5 + 1)) 9 (Z 10)), T, K), rfl, ⟨by rw [clZ, if_neg (by omega), if_neg (by omega), if_neg (by omega)], by rw [clZ, if_neg (by omega), if_neg (by omega), if_neg (by omega)]⟩, by rw [ht]; exact hP, va_K.moved hW.alike hK, hD⟩, hS.F ht⟩) hS.2.2 dX0_closeLine_70
      · have c_5 := mt (nI_leI (a := Z 10) (b := 8000) (by omega) (by omega)).mpr c_5
        refine lv_aload_n hx hb dX0_closeLine_50 rfl (lv_at hl 0 rfl) ?_
        refine lv_aload_n hx hb dX0_closeLine_51 rfl (lv_at hl 0 rfl) ?_
        refine va_get (D := (dC, dI)) (ci := 0) (v := .int (nI (Z 13))) (C := RX0) (T := TX0) (N := 16) hx hb hts inX0 hown hK hP 0 rfl rfl 13 (by decide) (hts _ fl_X0_109) (fun _ h9 => h9) rfl dX0_closeLine_52 ?_
        refine lv_bipush (v := nI 21) hx hb dX0_closeLine_55 (by decide) ?_
        refine lm_calli (va_runV (As := [.int (nI (Z 13)), .int (nI 21)]) (rest := []) ⟨hx, hb, hml, hown, hts⟩ (c_stopAt l dC dI cA a0 a1 a2 H.size (zu Z 5 (Z 5 + 1)) T K (Z 13) 21 ) (cwV 2 hts (gV (fun _ h => h) ml_X0_105 im_X0_stopAt se_X0_stopAt ini_X0 co_X0_stopAt) rfl rfl rfl pd_X0_stopAt ⟨Nat.le_of_ble_eq_true rfl, Nat.le_of_ble_eq_true rfl⟩) (lm_preS hK hP hD) rfl rfl hl.1 rfl (lv_room (Nat.le_of_ble_eq_true rfl)) dX0_closeLine_57 ⟨Nat.zero_le _, Nat.zero_le _⟩) hD hS hA (fun r_8 u_7 H locs q_6 hP hD hS => ?_)
        obtain ⟨rfl, rfl⟩ := q_6
        have hP : va_P (dC, dI) vwCl (lmW cA a0 a1 a2 ((zu (zu (zu Z 5 (Z 5 + 1)) 7 ((Z 13))) 8 1), T, K)) H := hP
        have hD : va_D A (lmW cA a0 a1 a2 ((zu (zu (zu Z 5 (Z 5 + 1)) 7 ((Z 13))) 8 1), T, K)) := hD
        exact W.iret (v := nI 21) hx hb hr (fun t ht hW => ⟨⟨_, ((zu (zu (zu Z 5 (Z 5 + 1)) 7 ((Z 13))) 8 1), T, K), rfl, ⟨by rw [clZ, if_neg (by omega), if_neg (by omega), if_pos (by omega)], by rw [clZ, if_neg (by omega), if_neg (by omega), if_pos (by omega)]⟩, by rw [ht]; exact hP, va_K.moved hW.alike hK, hD⟩, hS.F ht⟩) hS.2.2 dX0_closeLine_60
    · have c_2 := mt (nI_ltI (a := Z 5) (b := 20000) (by omega) (by omega)).mpr c_2
      refine lv_aload_n hx hb dX0_closeLine_19 rfl (lv_at hl 0 rfl) ?_
      refine lv_aload_n hx hb dX0_closeLine_20 rfl (lv_at hl 0 rfl) ?_
      refine va_get (D := (dC, dI)) (ci := 0) (v := .int (nI (Z 12))) (C := RX0) (T := TX0) (N := 16) hx hb hts inX0 hown hK hP 0 rfl rfl 12 (by decide) (hts _ fl_X0_102) (fun _ h9 => h9) rfl dX0_closeLine_21 ?_
      refine lv_bipush (v := nI 21) hx hb dX0_closeLine_24 (by decide) ?_
      refine lm_calli (va_runV (As := [.int (nI (Z 12)), .int (nI 21)]) (rest := []) ⟨hx, hb, hml, hown, hts⟩ (c_stopAt l dC dI cA a0 a1 a2 s.heap.size Z T K (Z 12) 21 ) (cwV 2 hts (gV (fun _ h => h) ml_X0_105 im_X0_stopAt se_X0_stopAt ini_X0 co_X0_stopAt) rfl rfl rfl pd_X0_stopAt ⟨Nat.le_of_ble_eq_true rfl, Nat.le_of_ble_eq_true rfl⟩) (lm_preS hK hP hD) rfl rfl hl.1 rfl (lv_room (Nat.le_of_ble_eq_true rfl)) dX0_closeLine_26 ⟨Nat.zero_le _, Nat.zero_le _⟩) hD hS hA (fun r_11 u_10 H locs q_9 hP hD hS => ?_)
      obtain ⟨rfl, rfl⟩ := q_9
      have hP : va_P (dC, dI) vwCl (lmW cA a0 a1 a2 ((zu (zu Z 7 ((Z 12))) 8 1), T, K)) H := hP
      have hD : va_D A (lmW cA a0 a1 a2 ((zu (zu Z 7 ((Z 12))) 8 1), T, K)) := hD
      exact W.iret (v := nI 21) hx hb hr (fun t ht hW => ⟨⟨_, ((zu (zu Z 7 ((Z 12))) 8 1), T, K), rfl, ⟨by rw [clZ, if_neg (by omega), if_pos (by omega)], by rw [clZ, if_neg (by omega), if_pos (by omega)]⟩, by rw [ht]; exact hP, va_K.moved hW.alike hK, hD⟩, hS.F ht⟩) hS.2.2 dX0_closeLine_29
  · have c_1 := (nI_eq (a := Z 10) (b := 0) (by omega) (by omega)).mp c_1
    refine lv_iconst (v := nI 0) hx hb dX0_closeLine_7 (by decide) ?_
    exact W.iret (v := nI 0) hx hb hr (fun t ht hW => ⟨⟨_, (Z, T, K), rfl, ⟨by rw [clZ, if_pos (by omega)], by rw [clZ, if_pos (by omega)]⟩, by rw [ht]; exact hP, va_K.moved hW.alike hK, hD⟩, hS.F ht⟩) hS.2.2 dX0_closeLine_8
