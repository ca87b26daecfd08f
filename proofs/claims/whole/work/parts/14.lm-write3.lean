set_option maxHeartbeats 4000000 in
set_option maxRecDepth 100000 in
theorem c_addToken (l : Launch) (dC : Nat → ClassId) (dI : Nat → Nat → Nat) (cA : ClassId) (a0 a1 a2 : Nat) (sz : Nat) (Z : Nat → Nat) (T K : Nat → Int64) (kd : Nat) (stop : Nat) (hn : Z 2 ≤ 32768) (hst : stop ≤ Z 2) (ha : Z 3 ≤ Z 2) (h4 : Z 4 < 65536) (h10 : Z 10 < 2 ^ 29) (h11 : Z 11 ≤ 1) (hkd : kd < 16) : Met l yX0_addToken wX0_addToken ({ frames := 3, cells := 0, slots := 0, locals := 67 }) (va_Pc [.ref a0, .int (nI kd), .int (nI stop)] (lmP dC dI cA a0 a1 a2 sz (Z, T, K))) (va_Qi (fun (r : Int32) (u : lmU) => r = nI 0 ∧ u = (adZ T Z stop, T, adK T Z K kd stop)) (lmB dC dI cA a0 a1 a2 (va_A (lmW cA a0 a1 a2 (Z, T, K)) sz)) (va_A (lmW cA a0 a1 a2 (Z, T, K)) sz)) 0 0 (va_A (lmW cA a0 a1 a2 (Z, T, K)) sz) := by
  refine Met.ofW (cc := cX0_addToken) (maxL := 6) (ret := (some .int)) (by decide) rfl ?_
  intro p e s m args below meth c s₁ B hml hv
  obtain ⟨rfl, hsz, hP, hK, hD0⟩ := hv
  have hx := B.exec
  have hb := B.bytes
  have hr := B.returns
  have hts : ∀ w ∈ bw, w.before _ s = true := fun w h => atoms_spec (ws := wX0_addToken) B.pre w (bc w h)
  have hown : s.vm.findClass RX0 = some m.cls := findClass_of_methodNamed B.named
  have hlocks := B.notSynchronized
  subst hsz
  have hD := hD0.self (sz := s.heap.size)
  generalize hAe : va_A (lmW cA a0 a1 a2 (Z, T, K)) s.heap.size = A at hD ⊢
  have hA : ∀ q : Nat, s.heap.size ≤ q → A q := fun q h => by rw [← hAe]; exact Or.inr h
  have hS : va_S A s.heap s.heap [] := va_S.rf
  have hl := lv_entry ([.ref a0, .int (nI kd), .int (nI stop)]) (n := 6) (Nat.le_of_ble_eq_true rfl)
  rw [lg_entry_eq]
  generalize (lg_sl ([.ref a0, .int (nI kd), .int (nI stop)]) ++ List.replicate (6 - (lg_sl ([.ref a0, .int (nI kd), .int (nI stop)])).length) Slot.unset).toArray = ls at hl ⊢
  have hl : lv_has ls 6 [(0, .ref a0), (1, .int (nI kd)), (2, .int (nI stop))] := hl
  refine lv_aload_n hx hb dX0_addToken_0 rfl (lv_at hl 0 rfl) ?_
  refine va_get (D := (dC, dI)) (ci := 0) (v := .int (nI (Z 3))) (C := RX0) (T := TX0) (N := 16) hx hb hts inX0 hown hK hP 0 rfl rfl 3 (by decide) (hts _ fl_X0_39) (fun _ h9 => h9) rfl dX0_addToken_1 ?_
  refine lv_istore_n (lv' := [(3, .int (nI (Z 3))), (0, .ref a0), (1, .int (nI kd)), (2, .int (nI stop))]) hx hb dX0_addToken_4 rfl hl (by decide) rfl (fun ls hl => ?_)
  refine lv_aload_n hx hb dX0_addToken_5 rfl (lv_at hl 1 rfl) ?_
  refine va_get (D := (dC, dI)) (ci := 0) (v := .int (nI (Z 4))) (C := RX0) (T := TX0) (N := 16) hx hb hts inX0 hown hK hP 0 rfl rfl 4 (by decide) (hts _ fl_X0_68) (fun _ h9 => h9) rfl dX0_addToken_6 ?_
  refine lv_istore (lv' := [(4, .int (nI (Z 4))), (3, .int (nI (Z 3))), (0, .ref a0), (1, .int (nI kd)), (2, .int (nI stop))]) hx hb dX0_addToken_9 hl (by decide) rfl (fun ls hl => ?_)
  refine lv_aload_n hx hb dX0_addToken_11 rfl (lv_at hl 2 rfl) ?_
  refine lv_iload_n hx hb dX0_addToken_12 rfl (lv_at hl 4 rfl) ?_
  refine lm_calli (va_runV (As := [.int (nI stop)]) (rest := []) ⟨hx, hb, hml, hown, hts⟩ (c_pass l dC dI cA a0 a1 a2 s.heap.size Z T K stop (show Z 2 ≤ 32768 by omega) (show stop < 2 ^ 29 by omega) (show Z 3 < 2 ^ 29 by omega)) (cwV 1 hts (gV (fun _ h => h) ml_X0_45 im_X0_pass se_X0_pass ini_X0 co_X0_pass) rfl rfl rfl pd_X0_pass ⟨Nat.le_of_ble_eq_true rfl, Nat.le_of_ble_eq_true rfl⟩) (lm_preS hK hP hD) rfl rfl hl.1 rfl (lv_room (Nat.le_of_ble_eq_true rfl)) dX0_addToken_13 ⟨Nat.zero_le _, Nat.zero_le _⟩) hD hS hA (fun r_3 u_2 H locs q_1 hP hD hS => ?_)
  obtain ⟨a_4, li_5, n_6, hp_7, rfl, rfl⟩ := q_1
  have hp_7 : pss T (Z 2) stop (Z 3) (Z 4) 0 = (a_4, li_5, n_6) := hp_7
  have := pss_b hp_7
  have hP : va_P (dC, dI) vwCl (lmW cA a0 a1 a2 ((zu (zu Z 3 a_4) 4 li_5), T, K)) H := hP
  have hD : va_D A (lmW cA a0 a1 a2 ((zu (zu Z 3 a_4) 4 li_5), T, K)) := hD
  refine lv_istore (lv' := [(5, .int (nI n_6)), (4, .int (nI (Z 4))), (3, .int (nI (Z 3))), (0, .ref a0), (1, .int (nI kd)), (2, .int (nI stop))]) hx hb dX0_addToken_16 hl (by decide) rfl (fun ls hl => ?_)
  refine lv_aload_n hx hb dX0_addToken_18 rfl (lv_at hl 3 rfl) ?_
  refine va_get (D := (dC, dI)) (ci := 0) (v := .int (nI (Z 10))) (C := RX0) (T := TX0) (N := 16) hx hb hts inX0 hown hK hP 0 rfl rfl 10 (by decide) (hts _ fl_X0_90) (fun _ h9 => h9) rfl dX0_addToken_19 ?_
  refine lv_if_ne (tgt := 31) hx hb dX0_addToken_22 (by decide) (fun c_8 => ?_) (fun c_8 => ?_)
  · have c_8 := mt (nI_eq (a := Z 10) (b := 0) (by omega) (by omega)).mpr c_8
    refine lv_aload_n hx hb dX0_addToken_31 rfl (lv_at hl 3 rfl) ?_
    refine va_get (D := (dC, dI)) (ci := 0) (v := .int (nI (Z 10))) (C := RX0) (T := TX0) (N := 16) hx hb hts inX0 hown hK hP 0 rfl rfl 10 (by decide) (hts _ fl_X0_90) (fun _ h9 => h9) rfl dX0_addToken_32 ?_
    refine lv_if_lt (tgt := 100) hx hb dX0_addToken_35 (by decide) (fun c_9 => ?_) (fun c_9 => ?_)
    · have c_9 := (nI_ltI (a := Z 10) (b := 0) (by omega) (by omega)).mp c_9
      omega
    · have c_9 := mt (nI_ltI (a := Z 10) (b := 0) (by omega) (by omega)).mpr c_9
      refine lv_aload_n hx hb dX0_addToken_38 rfl (lv_at hl 3 rfl) ?_
      refine va_get (D := (dC, dI)) (ci := 0) (v := .int (nI (Z 10))) (C := RX0) (T := TX0) (N := 16) hx hb hts inX0 hown hK hP 0 rfl rfl 10 (by decide) (hts _ fl_X0_90) (fun _ h9 => h9) rfl dX0_addToken_39 ?_
      refine lv_aload_n hx hb dX0_addToken_42 rfl (lv_at hl 3 rfl) ?_
      refine va_get (D := (dC, dI)) (ci := 0) (v := .ref a2) (C := RX0) (T := TX0) (N := 16) hx hb hts inX0 hown hK hP 0 rfl rfl 1 (by decide) (hts _ fl_X0_13) (fun _ h9 => h9) rfl dX0_addToken_43 ?_
      refine va_alen hx hb hK hP 2 0 rfl rfl (v := nI 8000) rfl dX0_addToken_46 ?_
      refine lv_icmp_ge (tgt := 100) hx hb dX0_addToken_47 (by decide) (fun c_10 => ?_) (fun c_10 => ?_)
      · have c_10 := (nI_leI (a := 8000) (b := Z 10) (by omega) (by omega)).mp c_10
        refine lv_aload_n hx hb dX0_addToken_100 rfl (lv_at hl 3 rfl) ?_
        refine va_get (D := (dC, dI)) (ci := 0) (v := .int (nI (Z 10))) (C := RX0) (T := TX0) (N := 16) hx hb hts inX0 hown hK hP 0 rfl rfl 10 (by decide) (hts _ fl_X0_90) (fun _ h9 => h9) rfl dX0_addToken_101 ?_
        refine lv_sipush (v := nI 8000) hx hb dX0_addToken_104 (by decide) ?_
        refine lv_icmp_ne (tgt := 116) hx hb dX0_addToken_107 (by decide) (fun c_11 => ?_) (fun c_11 => ?_)
        · have c_11 := mt (nI_eq (a := Z 10) (b := 8000) (by omega) (by omega)).mpr c_11
          refine lv_aload_n hx hb dX0_addToken_116 rfl (lv_at hl 3 rfl) ?_
          refine lv_dup hx hb dX0_addToken_117 rfl ?_
          refine va_get (D := (dC, dI)) (ci := 0) (v := .int (nI (Z 10))) (C := RX0) (T := TX0) (N := 16) hx hb hts inX0 hown hK hP 0 rfl rfl 10 (by decide) (hts _ fl_X0_90) (fun _ h9 => h9) rfl dX0_addToken_118 ?_
          refine lv_iconst (v := nI 1) hx hb dX0_addToken_121 (by decide) ?_
          refine lv_iadd hx hb dX0_addToken_122 ?_
          refine lv_topi (fun x_12 e_13 => ?_)
          obtain rfl : x_12 = nI (Z 10 + 1) := e_13.trans (nI_add (Z 10) 1)
          refine va_put (D := (dC, dI)) (ci := 0) (v := .int (nI (Z 10 + 1))) (ty := .int) (C := RX0) (T := TX0) (N := 16) hx hb hts inX0 tyX0 okX0 nmX0 hown hK hP hD hS 0 rfl rfl 10 (by decide) (hts _ fl_X0_90) (fun _ h9 => h9) rfl (by decide +kernel) rfl rfl (Nat.le_of_ble_eq_true rfl) dX0_addToken_123 (fun H locs hP hD hS => ?_)
          have hP : va_P (dC, dI) vwCl (lmW cA a0 a1 a2 ((zu (zu (zu Z 3 a_4) 4 li_5) 10 (Z 10 + 1)), T, K)) H := hP
          have hD : va_D A (lmW cA a0 a1 a2 ((zu (zu (zu Z 3 a_4) 4 li_5) 10 (Z 10 + 1)), T, K)) := hD
          refine lv_aload_n hx hb dX0_addToken_126 rfl (lv_at hl 3 rfl) ?_
          refine lv_iconst (v := nI 0) hx hb dX0_addToken_127 (by decide) ?_
          refine va_put (D := (dC, dI)) (ci := 0) (v := .int (nI 0)) (ty := .boolean) (C := RX0) (T := TX0) (N := 16) hx hb hts inX0 tyX0 okX0 nmX0 hown hK hP hD hS 0 rfl rfl 11 (by decide) (hts _ fl_X0_93) (fun _ h9 => h9) rfl (by decide +kernel) rfl rfl (Nat.le_of_ble_eq_true rfl) dX0_addToken_128 (fun H locs hP hD hS => ?_)
          have hP : va_P (dC, dI) vwCl (lmW cA a0 a1 a2 ((zu (zu (zu (zu Z 3 a_4) 4 li_5) 10 (Z 10 + 1)) 11 0), T, K)) H := hP
          have hD : va_D A (lmW cA a0 a1 a2 ((zu (zu (zu (zu Z 3 a_4) 4 li_5) 10 (Z 10 + 1)) 11 0), T, K)) := hD
          refine lv_iconst (v := nI 0) hx hb dX0_addToken_131 (by decide) ?_
          have hP : va_P (dC, dI) vwCl (lmW cA a0 a1 a2 (adZ T Z stop, T, adK T Z K kd stop)) H := by rw [adZ, adK, psZ, hp_7, if_neg (by omega), if_neg (by omega), if_neg (by omega)]; exact hP
          have hD : va_D A (lmW cA a0 a1 a2 (adZ T Z stop, T, adK T Z K kd stop)) := by rw [adZ, adK, psZ, hp_7, if_neg (by omega), if_neg (by omega), if_neg (by omega)]; exact hD
          exact W.iret (v := nI 0) hx hb hr (fun t ht hW => ⟨⟨_, (adZ T Z stop, T, adK T Z K kd stop), rfl, ⟨rfl, rfl⟩, by rw [ht]; exact hP, va_K.moved hW.alike hK, hD⟩, hS.F ht⟩) hS.2.2 dX0_addToken_132
        · have c_11 := (nI_eq (a := Z 10) (b := 8000) (by omega) (by omega)).mp c_11
          refine lv_aload_n hx hb dX0_addToken_110 rfl (lv_at hl 3 rfl) ?_
          refine lv_iload hx hb dX0_addToken_111 (lv_at hl 1 rfl) ?_
          refine va_put (D := (dC, dI)) (ci := 0) (v := .int (nI (Z 4))) (ty := .int) (C := RX0) (T := TX0) (N := 16) hx hb hts inX0 tyX0 okX0 nmX0 hown hK hP hD hS 0 rfl rfl 13 (by decide) (hts _ fl_X0_109) (fun _ h9 => h9) rfl (by decide +kernel) rfl rfl (Nat.le_of_ble_eq_true rfl) dX0_addToken_113 (fun H locs hP hD hS => ?_)
          have hP : va_P (dC, dI) vwCl (lmW cA a0 a1 a2 ((zu (zu (zu Z 3 a_4) 4 li_5) 13 (Z 4)), T, K)) H := hP
          have hD : va_D A (lmW cA a0 a1 a2 ((zu (zu (zu Z 3 a_4) 4 li_5) 13 (Z 4)), T, K)) := hD
          refine lv_aload_n hx hb dX0_addToken_116 rfl (lv_at hl 3 rfl) ?_
          refine lv_dup hx hb dX0_addToken_117 rfl ?_
          refine va_get (D := (dC, dI)) (ci := 0) (v := .int (nI (Z 10))) (C := RX0) (T := TX0) (N := 16) hx hb hts inX0 hown hK hP 0 rfl rfl 10 (by decide) (hts _ fl_X0_90) (fun _ h9 => h9) rfl dX0_addToken_118 ?_
          refine lv_iconst (v := nI 1) hx hb dX0_addToken_121 (by decide) ?_
          refine lv_iadd hx hb dX0_addToken_122 ?_
          refine lv_topi (fun x_14 e_15 => ?_)
          obtain rfl : x_14 = nI (Z 10 + 1) := e_15.trans (nI_add (Z 10) 1)
          refine va_put (D := (dC, dI)) (ci := 0) (v := .int (nI (Z 10 + 1))) (ty := .int) (C := RX0) (T := TX0) (N := 16) hx hb hts inX0 tyX0 okX0 nmX0 hown hK hP hD hS 0 rfl rfl 10 (by decide) (hts _ fl_X0_90) (fun _ h9 => h9) rfl (by decide +kernel) rfl rfl (Nat.le_of_ble_eq_true rfl) dX0_addToken_123 (fun H locs hP hD hS => ?_)
          have hP : va_P (dC, dI) vwCl (lmW cA a0 a1 a2 ((zu (zu (zu (zu Z 3 a_4) 4 li_5) 10 (Z 10 + 1)) 13 (Z 4)), T, K)) H := hP
          have hD : va_D A (lmW cA a0 a1 a2 ((zu (zu (zu (zu Z 3 a_4) 4 li_5) 10 (Z 10 + 1)) 13 (Z 4)), T, K)) := hD
          refine lv_aload_n hx hb dX0_addToken_126 rfl (lv_at hl 3 rfl) ?_
          refine lv_iconst (v := nI 0) hx hb dX0_addToken_127 (by decide) ?_
          refine va_put (D := (dC, dI)) (ci := 0) (v := .int (nI 0)) (ty := .boolean) (C := RX0) (T := TX0) (N := 16) hx hb hts inX0 tyX0 okX0 nmX0 hown hK hP hD hS 0 rfl rfl 11 (by decide) (hts _ fl_X0_93) (fun _ h9 => h9) rfl (by decide +kernel) rfl rfl (Nat.le_of_ble_eq_true rfl) dX0_addToken_128 (fun H locs hP hD hS => ?_)
          have hP : va_P (dC, dI) vwCl (lmW cA a0 a1 a2 ((zu (zu (zu (zu (zu Z 3 a_4) 4 li_5) 10 (Z 10 + 1)) 11 0) 13 (Z 4)), T, K)) H := hP
          have hD : va_D A (lmW cA a0 a1 a2 ((zu (zu (zu (zu (zu Z 3 a_4) 4 li_5) 10 (Z 10 + 1)) 11 0) 13 (Z 4)), T, K)) := hD
          refine lv_iconst (v := nI 0) hx hb dX0_addToken_131 (by decide) ?_
          have hP : va_P (dC, dI) vwCl (lmW cA a0 a1 a2 (adZ T Z stop, T, adK T Z K kd stop)) H := by rw [adZ, adK, psZ, hp_7, if_neg (by omega), if_pos (by omega), if_neg (by omega)]; exact hP
          have hD : va_D A (lmW cA a0 a1 a2 (adZ T Z stop, T, adK T Z K kd stop)) := by rw [adZ, adK, psZ, hp_7, if_neg (by omega), if_pos (by omega), if_neg (by omega)]; exact hD
          exact W.iret (v := nI 0) hx hb hr (fun t ht hW => ⟨⟨_, (adZ T Z stop, T, adK T Z K kd stop), rfl, ⟨rfl, rfl⟩, by rw [ht]; exact hP, va_K.moved hW.alike hK, hD⟩, hS.F ht⟩) hS.2.2 dX0_addToken_132
      · have c_10 := mt (nI_leI (a := 8000) (b := Z 10) (by omega) (by omega)).mpr c_10
        refine lv_aload_n hx hb dX0_addToken_50 rfl (lv_at hl 3 rfl) ?_
        refine va_get (D := (dC, dI)) (ci := 0) (v := .ref a2) (C := RX0) (T := TX0) (N := 16) hx hb hts inX0 hown hK hP 0 rfl rfl 1 (by decide) (hts _ fl_X0_13) (fun _ h9 => h9) rfl dX0_addToken_51 ?_
        refine lv_aload_n hx hb dX0_addToken_54 rfl (lv_at hl 3 rfl) ?_
        refine va_get (D := (dC, dI)) (ci := 0) (v := .int (nI (Z 10))) (C := RX0) (T := TX0) (N := 16) hx hb hts inX0 hown hK hP 0 rfl rfl 10 (by decide) (hts _ fl_X0_90) (fun _ h9 => h9) rfl dX0_addToken_55 ?_
        refine lv_iload_n hx hb dX0_addToken_58 rfl (lv_at hl 2 rfl) ?_
        refine lv_i2l (v := lN (Z 3)) hx hb dX0_addToken_59 (nI_l (by omega)) ?_
        refine lv_iload hx hb dX0_addToken_60 (lv_at hl 0 rfl) ?_
        refine lv_i2l (v := lN n_6) hx hb dX0_addToken_62 (nI_l (by omega)) ?_
        refine lv_bipush (v := nI 16) hx hb dX0_addToken_63 (by decide) ?_
        refine lv_lshl (v := lN (n_6 * 2 ^ 16)) hx hb dX0_addToken_65 (wb_shl _ (by omega)) ?_
        refine lv_lor hx hb dX0_addToken_66 ?_
        refine lv_topl (fun x_16 e_17 => ?_)
        obtain rfl : x_16 = lN (Z 3 + n_6 * 2 ^ 16) := e_17.trans (lor_add (k := 16) (by decide) (by omega) (by omega))
        refine lv_iload hx hb dX0_addToken_67 (lv_at hl 1 rfl) ?_
        refine lv_i2l (v := lN (Z 4)) hx hb dX0_addToken_69 (nI_l (by omega)) ?_
        refine lv_bipush (v := nI 32) hx hb dX0_addToken_70 (by decide) ?_
        refine lv_lshl (v := lN ((Z 4) * 2 ^ 32)) hx hb dX0_addToken_72 (wb_shl _ (by omega)) ?_
        refine lv_lor hx hb dX0_addToken_73 ?_
        refine lv_topl (fun x_18 e_19 => ?_)
        obtain rfl : x_18 = lN (Z 3 + n_6 * 2 ^ 16 + (Z 4) * 2 ^ 32) := e_19.trans (lor_add (k := 32) (by decide) (by omega) (by omega))
        refine lv_iload_n hx hb dX0_addToken_74 rfl (lv_at hl 4 rfl) ?_
        refine lv_i2l (v := lN kd) hx hb dX0_addToken_75 (nI_l (by omega)) ?_
        refine lv_bipush (v := nI 48) hx hb dX0_addToken_76 (by decide) ?_
        refine lv_lshl (v := lN (kd * 2 ^ 48)) hx hb dX0_addToken_78 (wb_shl _ (by omega)) ?_
        refine lv_lor hx hb dX0_addToken_79 ?_
        refine lv_topl (fun x_20 e_21 => ?_)
        obtain rfl : x_20 = lN (Z 3 + n_6 * 2 ^ 16 + (Z 4) * 2 ^ 32 + kd * 2 ^ 48) := e_21.trans (lor_add (k := 48) (by decide) (by omega) (by omega))
        refine lv_aload_n hx hb dX0_addToken_80 rfl (lv_at hl 3 rfl) ?_
        refine va_get (D := (dC, dI)) (ci := 0) (v := .int (nI (Z 11))) (C := RX0) (T := TX0) (N := 16) hx hb hts inX0 hown hK hP 0 rfl rfl 11 (by decide) (hts _ fl_X0_93) (fun _ h9 => h9) rfl dX0_addToken_81 ?_
        refine lv_if_eq (tgt := 91) hx hb dX0_addToken_84 (by decide) (fun c_22 => ?_) (fun c_22 => ?_)
        · have c_22 := (nI_eq (a := Z 11) (b := 0) (by omega) (by omega)).mp c_22
          refine lv_lconst (v := lN 0) hx hb dX0_addToken_91 (by decide) ?_
          refine lv_bipush (v := nI 52) hx hb dX0_addToken_92 (by decide) ?_
          refine lv_lshl (v := lN (0 * 2 ^ 52)) hx hb dX0_addToken_94 (wb_shl _ (by omega)) ?_
          refine lv_lor hx hb dX0_addToken_95 ?_
          refine lv_topl (fun x_23 e_24 => ?_)
          obtain rfl : x_23 = lN (Z 3 + n_6 * 2 ^ 16 + (Z 4) * 2 ^ 32 + kd * 2 ^ 48 + 0 * 2 ^ 52) := e_24.trans (lor_add (k := 52) (by decide) (by omega) (by decide))
          refine va_last hx hb hK hP hD hS 2 0 rfl rfl (vp_in_nI (by omega) (by decide)) dX0_addToken_96 (fun H locs hP hD hS => ?_)
          rw [nI_clamp (by omega)] at hP hD
          have hP : va_P (dC, dI) vwCl (lmW cA a0 a1 a2 ((zu (zu Z 3 a_4) 4 li_5), T, (vp_updL K (Z 10) (lN (Z 3 + n_6 * 2 ^ 16 + (Z 4) * 2 ^ 32 + kd * 2 ^ 48 + 0 * 2 ^ 52))))) H := hP
          have hD : va_D A (lmW cA a0 a1 a2 ((zu (zu Z 3 a_4) 4 li_5), T, (vp_updL K (Z 10) (lN (Z 3 + n_6 * 2 ^ 16 + (Z 4) * 2 ^ 32 + kd * 2 ^ 48 + 0 * 2 ^ 52))))) := hD
          refine lv_goto (tgt := 116) hx hb dX0_addToken_97 (by decide) ?_
          refine lv_aload_n hx hb dX0_addToken_116 rfl (lv_at hl 3 rfl) ?_
          refine lv_dup hx hb dX0_addToken_117 rfl ?_
          refine va_get (D := (dC, dI)) (ci := 0) (v := .int (nI (Z 10))) (C := RX0) (T := TX0) (N := 16) hx hb hts inX0 hown hK hP 0 rfl rfl 10 (by decide) (hts _ fl_X0_90) (fun _ h9 => h9) rfl dX0_addToken_118 ?_
          refine lv_iconst (v := nI 1) hx hb dX0_addToken_121 (by decide) ?_
          refine lv_iadd hx hb dX0_addToken_122 ?_
          refine lv_topi (fun x_25 e_26 => ?_)
          obtain rfl : x_25 = nI (Z 10 + 1) := e_26.trans (nI_add (Z 10) 1)
          refine va_put (D := (dC, dI)) (ci := 0) (v := .int (nI (Z 10 + 1))) (ty := .int) (C := RX0) (T := TX0) (N := 16) hx hb hts inX0 tyX0 okX0 nmX0 hown hK hP hD hS 0 rfl rfl 10 (by decide) (hts _ fl_X0_90) (fun _ h9 => h9) rfl (by decide +kernel) rfl rfl (Nat.le_of_ble_eq_true rfl) dX0_addToken_123 (fun H locs hP hD hS => ?_)
          have hP : va_P (dC, dI) vwCl (lmW cA a0 a1 a2 ((zu (zu (zu Z 3 a_4) 4 li_5) 10 (Z 10 + 1)), T, (vp_updL K (Z 10) (lN (Z 3 + n_6 * 2 ^ 16 + (Z 4) * 2 ^ 32 + kd * 2 ^ 48 + 0 * 2 ^ 52))))) H := hP
          have hD : va_D A (lmW cA a0 a1 a2 ((zu (zu (zu Z 3 a_4) 4 li_5) 10 (Z 10 + 1)), T, (vp_updL K (Z 10) (lN (Z 3 + n_6 * 2 ^ 16 + (Z 4) * 2 ^ 32 + kd * 2 ^ 48 + 0 * 2 ^ 52))))) := hD
          refine lv_aload_n hx hb dX0_addToken_126 rfl (lv_at hl 3 rfl) ?_
          refine lv_iconst (v := nI 0) hx hb dX0_addToken_127 (by decide) ?_
          refine va_put (D := (dC, dI)) (ci := 0) (v := .int (nI 0)) (ty := .boolean) (C := RX0) (T := TX0) (N := 16) hx hb hts inX0 tyX0 okX0 nmX0 hown hK hP hD hS 0 rfl rfl 11 (by decide) (hts _ fl_X0_93) (fun _ h9 => h9) rfl (by decide +kernel) rfl rfl (Nat.le_of_ble_eq_true rfl) dX0_addToken_128 (fun H locs hP hD hS => ?_)
          have hP : va_P (dC, dI) vwCl (lmW cA a0 a1 a2 ((zu (zu (zu (zu Z 3 a_4) 4 li_5) 10 (Z 10 + 1)) 11 0), T, (vp_updL K (Z 10) (lN (Z 3 + n_6 * 2 ^ 16 + (Z 4) * 2 ^ 32 + kd * 2 ^ 48 + 0 * 2 ^ 52))))) H := hP
          have hD : va_D A (lmW cA a0 a1 a2 ((zu (zu (zu (zu Z 3 a_4) 4 li_5) 10 (Z 10 + 1)) 11 0), T, (vp_updL K (Z 10) (lN (Z 3 + n_6 * 2 ^ 16 + (Z 4) * 2 ^ 32 + kd * 2 ^ 48 + 0 * 2 ^ 52))))) := hD
          refine lv_iconst (v := nI 0) hx hb dX0_addToken_131 (by decide) ?_
          have hP : va_P (dC, dI) vwCl (lmW cA a0 a1 a2 (adZ T Z stop, T, adK T Z K kd stop)) H := by rw [adZ, adK, psZ, hp_7, if_neg (by omega), if_neg (by omega), if_pos (by omega), pkT, show Z 11 = 0 by omega]; exact hP
          have hD : va_D A (lmW cA a0 a1 a2 (adZ T Z stop, T, adK T Z K kd stop)) := by rw [adZ, adK, psZ, hp_7, if_neg (by omega), if_neg (by omega), if_pos (by omega), pkT, show Z 11 = 0 by omega]; exact hD
          exact W.iret (v := nI 0) hx hb hr (fun t ht hW => ⟨⟨_, (adZ T Z stop, T, adK T Z K kd stop), rfl, ⟨rfl, rfl⟩, by rw [ht]; exact hP, va_K.moved hW.alike hK, hD⟩, hS.F ht⟩) hS.2.2 dX0_addToken_132
        · have c_22 := mt (nI_eq (a := Z 11) (b := 0) (by omega) (by omega)).mpr c_22
          refine lv_lconst (v := lN 1) hx hb dX0_addToken_87 (by decide) ?_
          refine lv_goto (tgt := 92) hx hb dX0_addToken_88 (by decide) ?_
          refine lv_bipush (v := nI 52) hx hb dX0_addToken_92 (by decide) ?_
          refine lv_lshl (v := lN (1 * 2 ^ 52)) hx hb dX0_addToken_94 (wb_shl _ (by omega)) ?_
          refine lv_lor hx hb dX0_addToken_95 ?_
          refine lv_topl (fun x_27 e_28 => ?_)
          obtain rfl : x_27 = lN (Z 3 + n_6 * 2 ^ 16 + (Z 4) * 2 ^ 32 + kd * 2 ^ 48 + 1 * 2 ^ 52) := e_28.trans (lor_add (k := 52) (by decide) (by omega) (by decide))
          refine va_last hx hb hK hP hD hS 2 0 rfl rfl (vp_in_nI (by omega) (by decide)) dX0_addToken_96 (fun H locs hP hD hS => ?_)
          rw [nI_clamp (by omega)] at hP hD
          have hP : va_P (dC, dI) vwCl (lmW cA a0 a1 a2 ((zu (zu Z 3 a_4) 4 li_5), T, (vp_updL K (Z 10) (lN (Z 3 + n_6 * 2 ^ 16 + (Z 4) * 2 ^ 32 + kd * 2 ^ 48 + 1 * 2 ^ 52))))) H := hP
          have hD : va_D A (lmW cA a0 a1 a2 ((zu (zu Z 3 a_4) 4 li_5), T, (vp_updL K (Z 10) (lN (Z 3 + n_6 * 2 ^ 16 + (Z 4) * 2 ^ 32 + kd * 2 ^ 48 + 1 * 2 ^ 52))))) := hD
          refine lv_goto (tgt := 116) hx hb dX0_addToken_97 (by decide) ?_
          refine lv_aload_n hx hb dX0_addToken_116 rfl (lv_at hl 3 rfl) ?_
          refine lv_dup hx hb dX0_addToken_117 rfl ?_
          refine va_get (D := (dC, dI)) (ci := 0) (v := .int (nI (Z 10))) (C := RX0) (T := TX0) (N := 16) hx hb hts inX0 hown hK hP 0 rfl rfl 10 (by decide) (hts _ fl_X0_90) (fun _ h9 => h9) rfl dX0_addToken_118 ?_
          refine lv_iconst (v := nI 1) hx hb dX0_addToken_121 (by decide) ?_
          refine lv_iadd hx hb dX0_addToken_122 ?_
          refine lv_topi (fun x_29 e_30 => ?_)
          obtain rfl : x_29 = nI (Z 10 + 1) := e_30.trans (nI_add (Z 10) 1)
          refine va_put (D := (dC, dI)) (ci := 0) (v := .int (nI (Z 10 + 1))) (ty := .int) (C := RX0) (T := TX0) (N := 16) hx hb hts inX0 tyX0 okX0 nmX0 hown hK hP hD hS 0 rfl rfl 10 (by decide) (hts _ fl_X0_90) (fun _ h9 => h9) rfl (by decide +kernel) rfl rfl (Nat.le_of_ble_eq_true rfl) dX0_addToken_123 (fun H locs hP hD hS => ?_)
          have hP : va_P (dC, dI) vwCl (lmW cA a0 a1 a2 ((zu (zu (zu Z 3 a_4) 4 li_5) 10 (Z 10 + 1)), T, (vp_updL K (Z 10) (lN (Z 3 + n_6 * 2 ^ 16 + (Z 4) * 2 ^ 32 + kd * 2 ^ 48 + 1 * 2 ^ 52))))) H := hP
          have hD : va_D A (lmW cA a0 a1 a2 ((zu (zu (zu Z 3 a_4) 4 li_5) 10 (Z 10 + 1)), T, (vp_updL K (Z 10) (lN (Z 3 + n_6 * 2 ^ 16 + (Z 4) * 2 ^ 32 + kd * 2 ^ 48 + 1 * 2 ^ 52))))) := hD
          refine lv_aload_n hx hb dX0_addToken_126 rfl (lv_at hl 3 rfl) ?_
          refine lv_iconst (v := nI 0) hx hb dX0_addToken_127 (by decide) ?_
          refine va_put (D := (dC, dI)) (ci := 0) (v := .int (nI 0)) (ty := .boolean) (C := RX0) (T := TX0) (N := 16) hx hb hts inX0 tyX0 okX0 nmX0 hown hK hP hD hS 0 rfl rfl 11 (by decide) (hts _ fl_X0_93) (fun _ h9 => h9) rfl (by decide +kernel) rfl rfl (Nat.le_of_ble_eq_true rfl) dX0_addToken_128 (fun H locs hP hD hS => ?_)
          have hP : va_P (dC, dI) vwCl (lmW cA a0 a1 a2 ((zu (zu (zu (zu Z 3 a_4) 4 li_5) 10 (Z 10 + 1)) 11 0), T, (vp_updL K (Z 10) (lN (Z 3 + n_6 * 2 ^ 16 + (Z 4) * 2 ^ 32 + kd * 2 ^ 48 + 1 * 2 ^ 52))))) H := hP
          have hD : va_D A (lmW cA a0 a1 a2 ((zu (zu (zu (zu Z 3 a_4) 4 li_5) 10 (Z 10 + 1)) 11 0), T, (vp_updL K (Z 10) (lN (Z 3 + n_6 * 2 ^ 16 + (Z 4) * 2 ^ 32 + kd * 2 ^ 48 + 1 * 2 ^ 52))))) := hD
          refine lv_iconst (v := nI 0) hx hb dX0_addToken_131 (by decide) ?_
          have hP : va_P (dC, dI) vwCl (lmW cA a0 a1 a2 (adZ T Z stop, T, adK T Z K kd stop)) H := by rw [adZ, adK, psZ, hp_7, if_neg (by omega), if_neg (by omega), if_pos (by omega), pkT, show Z 11 = 1 by omega]; exact hP
          have hD : va_D A (lmW cA a0 a1 a2 (adZ T Z stop, T, adK T Z K kd stop)) := by rw [adZ, adK, psZ, hp_7, if_neg (by omega), if_neg (by omega), if_pos (by omega), pkT, show Z 11 = 1 by omega]; exact hD
          exact W.iret (v := nI 0) hx hb hr (fun t ht hW => ⟨⟨_, (adZ T Z stop, T, adK T Z K kd stop), rfl, ⟨rfl, rfl⟩, by rw [ht]; exact hP, va_K.moved hW.alike hK, hD⟩, hS.F ht⟩) hS.2.2 dX0_addToken_132
  · have c_8 := (nI_eq (a := Z 10) (b := 0) (by omega) (by omega)).mp c_8
    refine lv_aload_n hx hb dX0_addToken_25 rfl (lv_at hl 3 rfl) ?_
    refine lv_iload hx hb dX0_addToken_26 (lv_at hl 1 rfl) ?_
    refine va_put (D := (dC, dI)) (ci := 0) (v := .int (nI (Z 4))) (ty := .int) (C := RX0) (T := TX0) (N := 16) hx hb hts inX0 tyX0 okX0 nmX0 hown hK hP hD hS 0 rfl rfl 12 (by decide) (hts _ fl_X0_102) (fun _ h9 => h9) rfl (by decide +kernel) rfl rfl (Nat.le_of_ble_eq_true rfl) dX0_addToken_28 (fun H locs hP hD hS => ?_)
    have hP : va_P (dC, dI) vwCl (lmW cA a0 a1 a2 ((zu (zu (zu Z 3 a_4) 4 li_5) 12 (Z 4)), T, K)) H := hP
    have hD : va_D A (lmW cA a0 a1 a2 ((zu (zu (zu Z 3 a_4) 4 li_5) 12 (Z 4)), T, K)) := hD
    refine lv_aload_n hx hb dX0_addToken_31 rfl (lv_at hl 3 rfl) ?_
    refine va_get (D := (dC, dI)) (ci := 0) (v := .int (nI (Z 10))) (C := RX0) (T := TX0) (N := 16) hx hb hts inX0 hown hK hP 0 rfl rfl 10 (by decide) (hts _ fl_X0_90) (fun _ h9 => h9) rfl dX0_addToken_32 ?_
    refine lv_if_lt (tgt := 100) hx hb dX0_addToken_35 (by decide) (fun c_31 => ?_) (fun c_31 => ?_)
    · have c_31 := (nI_ltI (a := Z 10) (b := 0) (by omega) (by omega)).mp c_31
      omega
    · have c_31 := mt (nI_ltI (a := Z 10) (b := 0) (by omega) (by omega)).mpr c_31
      refine lv_aload_n hx hb dX0_addToken_38 rfl (lv_at hl 3 rfl) ?_
      refine va_get (D := (dC, dI)) (ci := 0) (v := .int (nI (Z 10))) (C := RX0) (T := TX0) (N := 16) hx hb hts inX0 hown hK hP 0 rfl rfl 10 (by decide) (hts _ fl_X0_90) (fun _ h9 => h9) rfl dX0_addToken_39 ?_
      refine lv_aload_n hx hb dX0_addToken_42 rfl (lv_at hl 3 rfl) ?_
      refine va_get (D := (dC, dI)) (ci := 0) (v := .ref a2) (C := RX0) (T := TX0) (N := 16) hx hb hts inX0 hown hK hP 0 rfl rfl 1 (by decide) (hts _ fl_X0_13) (fun _ h9 => h9) rfl dX0_addToken_43 ?_
      refine va_alen hx hb hK hP 2 0 rfl rfl (v := nI 8000) rfl dX0_addToken_46 ?_
      refine lv_icmp_ge (tgt := 100) hx hb dX0_addToken_47 (by decide) (fun c_32 => ?_) (fun c_32 => ?_)
      · have c_32 := (nI_leI (a := 8000) (b := Z 10) (by omega) (by omega)).mp c_32
        refine lv_aload_n hx hb dX0_addToken_100 rfl (lv_at hl 3 rfl) ?_
        refine va_get (D := (dC, dI)) (ci := 0) (v := .int (nI (Z 10))) (C := RX0) (T := TX0) (N := 16) hx hb hts inX0 hown hK hP 0 rfl rfl 10 (by decide) (hts _ fl_X0_90) (fun _ h9 => h9) rfl dX0_addToken_101 ?_
        refine lv_sipush (v := nI 8000) hx hb dX0_addToken_104 (by decide) ?_
        refine lv_icmp_ne (tgt := 116) hx hb dX0_addToken_107 (by decide) (fun c_33 => ?_) (fun c_33 => ?_)
        · have c_33 := mt (nI_eq (a := Z 10) (b := 8000) (by omega) (by omega)).mpr c_33
          refine lv_aload_n hx hb dX0_addToken_116 rfl (lv_at hl 3 rfl) ?_
          refine lv_dup hx hb dX0_addToken_117 rfl ?_
          refine va_get (D := (dC, dI)) (ci := 0) (v := .int (nI (Z 10))) (C := RX0) (T := TX0) (N := 16) hx hb hts inX0 hown hK hP 0 rfl rfl 10 (by decide) (hts _ fl_X0_90) (fun _ h9 => h9) rfl dX0_addToken_118 ?_
          refine lv_iconst (v := nI 1) hx hb dX0_addToken_121 (by decide) ?_
          refine lv_iadd hx hb dX0_addToken_122 ?_
          refine lv_topi (fun x_34 e_35 => ?_)
          obtain rfl : x_34 = nI (Z 10 + 1) := e_35.trans (nI_add (Z 10) 1)
          refine va_put (D := (dC, dI)) (ci := 0) (v := .int (nI (Z 10 + 1))) (ty := .int) (C := RX0) (T := TX0) (N := 16) hx hb hts inX0 tyX0 okX0 nmX0 hown hK hP hD hS 0 rfl rfl 10 (by decide) (hts _ fl_X0_90) (fun _ h9 => h9) rfl (by decide +kernel) rfl rfl (Nat.le_of_ble_eq_true rfl) dX0_addToken_123 (fun H locs hP hD hS => ?_)
          have hP : va_P (dC, dI) vwCl (lmW cA a0 a1 a2 ((zu (zu (zu (zu Z 3 a_4) 4 li_5) 10 (Z 10 + 1)) 12 (Z 4)), T, K)) H := hP
          have hD : va_D A (lmW cA a0 a1 a2 ((zu (zu (zu (zu Z 3 a_4) 4 li_5) 10 (Z 10 + 1)) 12 (Z 4)), T, K)) := hD
          refine lv_aload_n hx hb dX0_addToken_126 rfl (lv_at hl 3 rfl) ?_
          refine lv_iconst (v := nI 0) hx hb dX0_addToken_127 (by decide) ?_
          refine va_put (D := (dC, dI)) (ci := 0) (v := .int (nI 0)) (ty := .boolean) (C := RX0) (T := TX0) (N := 16) hx hb hts inX0 tyX0 okX0 nmX0 hown hK hP hD hS 0 rfl rfl 11 (by decide) (hts _ fl_X0_93) (fun _ h9 => h9) rfl (by decide +kernel) rfl rfl (Nat.le_of_ble_eq_true rfl) dX0_addToken_128 (fun H locs hP hD hS => ?_)
          have hP : va_P (dC, dI) vwCl (lmW cA a0 a1 a2 ((zu (zu (zu (zu (zu Z 3 a_4) 4 li_5) 10 (Z 10 + 1)) 11 0) 12 (Z 4)), T, K)) H := hP
          have hD : va_D A (lmW cA a0 a1 a2 ((zu (zu (zu (zu (zu Z 3 a_4) 4 li_5) 10 (Z 10 + 1)) 11 0) 12 (Z 4)), T, K)) := hD
          refine lv_iconst (v := nI 0) hx hb dX0_addToken_131 (by decide) ?_
          have hP : va_P (dC, dI) vwCl (lmW cA a0 a1 a2 (adZ T Z stop, T, adK T Z K kd stop)) H := by rw [adZ, adK, psZ, hp_7, if_pos (by omega), if_neg (by omega), if_neg (by omega)]; exact hP
          have hD : va_D A (lmW cA a0 a1 a2 (adZ T Z stop, T, adK T Z K kd stop)) := by rw [adZ, adK, psZ, hp_7, if_pos (by omega), if_neg (by omega), if_neg (by omega)]; exact hD
          exact W.iret (v := nI 0) hx hb hr (fun t ht hW => ⟨⟨_, (adZ T Z stop, T, adK T Z K kd stop), rfl, ⟨rfl, rfl⟩, by rw [ht]; exact hP, va_K.moved hW.alike hK, hD⟩, hS.F ht⟩) hS.2.2 dX0_addToken_132
        · have c_33 := (nI_eq (a := Z 10) (b := 8000) (by omega) (by omega)).mp c_33
          refine lv_aload_n hx hb dX0_addToken_110 rfl (lv_at hl 3 rfl) ?_
          refine lv_iload hx hb dX0_addToken_111 (lv_at hl 1 rfl) ?_
          refine va_put (D := (dC, dI)) (ci := 0) (v := .int (nI (Z 4))) (ty := .int) (C := RX0) (T := TX0) (N := 16) hx hb hts inX0 tyX0 okX0 nmX0 hown hK hP hD hS 0 rfl rfl 13 (by decide) (hts _ fl_X0_109) (fun _ h9 => h9) rfl (by decide +kernel) rfl rfl (Nat.le_of_ble_eq_true rfl) dX0_addToken_113 (fun H locs hP hD hS => ?_)
          have hP : va_P (dC, dI) vwCl (lmW cA a0 a1 a2 ((zu (zu (zu (zu Z 3 a_4) 4 li_5) 12 (Z 4)) 13 (Z 4)), T, K)) H := hP
          have hD : va_D A (lmW cA a0 a1 a2 ((zu (zu (zu (zu Z 3 a_4) 4 li_5) 12 (Z 4)) 13 (Z 4)), T, K)) := hD
          refine lv_aload_n hx hb dX0_addToken_116 rfl (lv_at hl 3 rfl) ?_
          refine lv_dup hx hb dX0_addToken_117 rfl ?_
          refine va_get (D := (dC, dI)) (ci := 0) (v := .int (nI (Z 10))) (C := RX0) (T := TX0) (N := 16) hx hb hts inX0 hown hK hP 0 rfl rfl 10 (by decide) (hts _ fl_X0_90) (fun _ h9 => h9) rfl dX0_addToken_118 ?_
          refine lv_iconst (v := nI 1) hx hb dX0_addToken_121 (by decide) ?_
          refine lv_iadd hx hb dX0_addToken_122 ?_
          refine lv_topi (fun x_36 e_37 => ?_)
          obtain rfl : x_36 = nI (Z 10 + 1) := e_37.trans (nI_add (Z 10) 1)
          refine va_put (D := (dC, dI)) (ci := 0) (v := .int (nI (Z 10 + 1))) (ty := .int) (C := RX0) (T := TX0) (N := 16) hx hb hts inX0 tyX0 okX0 nmX0 hown hK hP hD hS 0 rfl rfl 10 (by decide) (hts _ fl_X0_90) (fun _ h9 => h9) rfl (by decide +kernel) rfl rfl (Nat.le_of_ble_eq_true rfl) dX0_addToken_123 (fun H locs hP hD hS => ?_)
          have hP : va_P (dC, dI) vwCl (lmW cA a0 a1 a2 ((zu (zu (zu (zu (zu Z 3 a_4) 4 li_5) 10 (Z 10 + 1)) 12 (Z 4)) 13 (Z 4)), T, K)) H := hP
          have hD : va_D A (lmW cA a0 a1 a2 ((zu (zu (zu (zu (zu Z 3 a_4) 4 li_5) 10 (Z 10 + 1)) 12 (Z 4)) 13 (Z 4)), T, K)) := hD
          refine lv_aload_n hx hb dX0_addToken_126 rfl (lv_at hl 3 rfl) ?_
          refine lv_iconst (v := nI 0) hx hb dX0_addToken_127 (by decide) ?_
          refine va_put (D := (dC, dI)) (ci := 0) (v := .int (nI 0)) (ty := .boolean) (C := RX0) (T := TX0) (N := 16) hx hb hts inX0 tyX0 okX0 nmX0 hown hK hP hD hS 0 rfl rfl 11 (by decide) (hts _ fl_X0_93) (fun _ h9 => h9) rfl (by decide +kernel) rfl rfl (Nat.le_of_ble_eq_true rfl) dX0_addToken_128 (fun H locs hP hD hS => ?_)
          have hP : va_P (dC, dI) vwCl (lmW cA a0 a1 a2 ((zu (zu (zu (zu (zu (zu Z 3 a_4) 4 li_5) 10 (Z 10 + 1)) 11 0) 12 (Z 4)) 13 (Z 4)), T, K)) H := hP
          have hD : va_D A (lmW cA a0 a1 a2 ((zu (zu (zu (zu (zu (zu Z 3 a_4) 4 li_5) 10 (Z 10 + 1)) 11 0) 12 (Z 4)) 13 (Z 4)), T, K)) := hD
          refine lv_iconst (v := nI 0) hx hb dX0_addToken_131 (by decide) ?_
          have hP : va_P (dC, dI) vwCl (lmW cA a0 a1 a2 (adZ T Z stop, T, adK T Z K kd stop)) H := by rw [adZ, adK, psZ, hp_7, if_pos (by omega), if_pos (by omega), if_neg (by omega)]; exact hP
          have hD : va_D A (lmW cA a0 a1 a2 (adZ T Z stop, T, adK T Z K kd stop)) := by rw [adZ, adK, psZ, hp_7, if_pos (by omega), if_pos (by omega), if_neg (by omega)]; exact hD
          exact W.iret (v := nI 0) hx hb hr (fun t ht hW => ⟨⟨_, (adZ T Z stop, T, adK T Z K kd stop), rfl, ⟨rfl, rfl⟩, by rw [ht]; exact hP, va_K.moved hW.alike hK, hD⟩, hS.F ht⟩) hS.2.2 dX0_addToken_132
      · have c_32 := mt (nI_leI (a := 8000) (b := Z 10) (by omega) (by omega)).mpr c_32
        refine lv_aload_n hx hb dX0_addToken_50 rfl (lv_at hl 3 rfl) ?_
        refine va_get (D := (dC, dI)) (ci := 0) (v := .ref a2) (C := RX0) (T := TX0) (N := 16) hx hb hts inX0 hown hK hP 0 rfl rfl 1 (by decide) (hts _ fl_X0_13) (fun _ h9 => h9) rfl dX0_addToken_51 ?_
        refine lv_aload_n hx hb dX0_addToken_54 rfl (lv_at hl 3 rfl) ?_
        refine va_get (D := (dC, dI)) (ci := 0) (v := .int (nI (Z 10))) (C := RX0) (T := TX0) (N := 16) hx hb hts inX0 hown hK hP 0 rfl rfl 10 (by decide) (hts _ fl_X0_90) (fun _ h9 => h9) rfl dX0_addToken_55 ?_
        refine lv_iload_n hx hb dX0_addToken_58 rfl (lv_at hl 2 rfl) ?_
        refine lv_i2l (v := lN (Z 3)) hx hb dX0_addToken_59 (nI_l (by omega)) ?_
        refine lv_iload hx hb dX0_addToken_60 (lv_at hl 0 rfl) ?_
        refine lv_i2l (v := lN n_6) hx hb dX0_addToken_62 (nI_l (by omega)) ?_
        refine lv_bipush (v := nI 16) hx hb dX0_addToken_63 (by decide) ?_
        refine lv_lshl (v := lN (n_6 * 2 ^ 16)) hx hb dX0_addToken_65 (wb_shl _ (by omega)) ?_
        refine lv_lor hx hb dX0_addToken_66 ?_
        refine lv_topl (fun x_38 e_39 => ?_)
        obtain rfl : x_38 = lN (Z 3 + n_6 * 2 ^ 16) := e_39.trans (lor_add (k := 16) (by decide) (by omega) (by omega))
        refine lv_iload hx hb dX0_addToken_67 (lv_at hl 1 rfl) ?_
        refine lv_i2l (v := lN (Z 4)) hx hb dX0_addToken_69 (nI_l (by omega)) ?_
        refine lv_bipush (v := nI 32) hx hb dX0_addToken_70 (by decide) ?_
        refine lv_lshl (v := lN ((Z 4) * 2 ^ 32)) hx hb dX0_addToken_72 (wb_shl _ (by omega)) ?_
        refine lv_lor hx hb dX0_addToken_73 ?_
        refine lv_topl (fun x_40 e_41 => ?_)
        obtain rfl : x_40 = lN (Z 3 + n_6 * 2 ^ 16 + (Z 4) * 2 ^ 32) := e_41.trans (lor_add (k := 32) (by decide) (by omega) (by omega))
        refine lv_iload_n hx hb dX0_addToken_74 rfl (lv_at hl 4 rfl) ?_
        refine lv_i2l (v := lN kd) hx hb dX0_addToken_75 (nI_l (by omega)) ?_
        refine lv_bipush (v := nI 48) hx hb dX0_addToken_76 (by decide) ?_
        refine lv_lshl (v := lN (kd * 2 ^ 48)) hx hb dX0_addToken_78 (wb_shl _ (by omega)) ?_
        refine lv_lor hx hb dX0_addToken_79 ?_
        refine lv_topl (fun x_42 e_43 => ?_)
        obtain rfl : x_42 = lN (Z 3 + n_6 * 2 ^ 16 + (Z 4) * 2 ^ 32 + kd * 2 ^ 48) := e_43.trans (lor_add (k := 48) (by decide) (by omega) (by omega))
        refine lv_aload_n hx hb dX0_addToken_80 rfl (lv_at hl 3 rfl) ?_
        refine va_get (D := (dC, dI)) (ci := 0) (v := .int (nI (Z 11))) (C := RX0) (T := TX0) (N := 16) hx hb hts inX0 hown hK hP 0 rfl rfl 11 (by decide) (hts _ fl_X0_93) (fun _ h9 => h9) rfl dX0_addToken_81 ?_
        refine lv_if_eq (tgt := 91) hx hb dX0_addToken_84 (by decide) (fun c_44 => ?_) (fun c_44 => ?_)
        · have c_44 := (nI_eq (a := Z 11) (b := 0) (by omega) (by omega)).mp c_44
          refine lv_lconst (v := lN 0) hx hb dX0_addToken_91 (by decide) ?_
          refine lv_bipush (v := nI 52) hx hb dX0_addToken_92 (by decide) ?_
          refine lv_lshl (v := lN (0 * 2 ^ 52)) hx hb dX0_addToken_94 (wb_shl _ (by omega)) ?_
          refine lv_lor hx hb dX0_addToken_95 ?_
          refine lv_topl (fun x_45 e_46 => ?_)
          obtain rfl : x_45 = lN (Z 3 + n_6 * 2 ^ 16 + (Z 4) * 2 ^ 32 + kd * 2 ^ 48 + 0 * 2 ^ 52) := e_46.trans (lor_add (k := 52) (by decide) (by omega) (by decide))
          refine va_last hx hb hK hP hD hS 2 0 rfl rfl (vp_in_nI (by omega) (by decide)) dX0_addToken_96 (fun H locs hP hD hS => ?_)
          rw [nI_clamp (by omega)] at hP hD
          have hP : va_P (dC, dI) vwCl (lmW cA a0 a1 a2 ((zu (zu (zu Z 3 a_4) 4 li_5) 12 (Z 4)), T, (vp_updL K (Z 10) (lN (Z 3 + n_6 * 2 ^ 16 + (Z 4) * 2 ^ 32 + kd * 2 ^ 48 + 0 * 2 ^ 52))))) H := hP
          have hD : va_D A (lmW cA a0 a1 a2 ((zu (zu (zu Z 3 a_4) 4 li_5) 12 (Z 4)), T, (vp_updL K (Z 10) (lN (Z 3 + n_6 * 2 ^ 16 + (Z 4) * 2 ^ 32 + kd * 2 ^ 48 + 0 * 2 ^ 52))))) := hD
          refine lv_goto (tgt := 116) hx hb dX0_addToken_97 (by decide) ?_
          refine lv_aload_n hx hb dX0_addToken_116 rfl (lv_at hl 3 rfl) ?_
          refine lv_dup hx hb dX0_addToken_117 rfl ?_
          refine va_get (D := (dC, dI)) (ci := 0) (v := .int (nI (Z 10))) (C := RX0) (T := TX0) (N := 16) hx hb hts inX0 hown hK hP 0 rfl rfl 10 (by decide) (hts _ fl_X0_90) (fun _ h9 => h9) rfl dX0_addToken_118 ?_
          refine lv_iconst (v := nI 1) hx hb dX0_addToken_121 (by decide) ?_
          refine lv_iadd hx hb dX0_addToken_122 ?_
          refine lv_topi (fun x_47 e_48 => ?_)
          obtain rfl : x_47 = nI (Z 10 + 1) := e_48.trans (nI_add (Z 10) 1)
          refine va_put (D := (dC, dI)) (ci := 0) (v := .int (nI (Z 10 + 1))) (ty := .int) (C := RX0) (T := TX0) (N := 16) hx hb hts inX0 tyX0 okX0 nmX0 hown hK hP hD hS 0 rfl rfl 10 (by decide) (hts _ fl_X0_90) (fun _ h9 => h9) rfl (by decide +kernel) rfl rfl (Nat.le_of_ble_eq_true rfl) dX0_addToken_123 (fun H locs hP hD hS => ?_)
          have hP : va_P (dC, dI) vwCl (lmW cA a0 a1 a2 ((zu (zu (zu (zu Z 3 a_4) 4 li_5) 10 (Z 10 + 1)) 12 (Z 4)), T, (vp_updL K (Z 10) (lN (Z 3 + n_6 * 2 ^ 16 + (Z 4) * 2 ^ 32 + kd * 2 ^ 48 + 0 * 2 ^ 52))))) H := hP
          have hD : va_D A (lmW cA a0 a1 a2 ((zu (zu (zu (zu Z 3 a_4) 4 li_5) 10 (Z 10 + 1)) 12 (Z 4)), T, (vp_updL K (Z 10) (lN (Z 3 + n_6 * 2 ^ 16 + (Z 4) * 2 ^ 32 + kd * 2 ^ 48 + 0 * 2 ^ 52))))) := hD
          refine lv_aload_n hx hb dX0_addToken_126 rfl (lv_at hl 3 rfl) ?_
          refine lv_iconst (v := nI 0) hx hb dX0_addToken_127 (by decide) ?_
          refine va_put (D := (dC, dI)) (ci := 0) (v := .int (nI 0)) (ty := .boolean) (C := RX0) (T := TX0) (N := 16) hx hb hts inX0 tyX0 okX0 nmX0 hown hK hP hD hS 0 rfl rfl 11 (by decide) (hts _ fl_X0_93) (fun _ h9 => h9) rfl (by decide +kernel) rfl rfl (Nat.le_of_ble_eq_true rfl) dX0_addToken_128 (fun H locs hP hD hS => ?_)
          have hP : va_P (dC, dI) vwCl (lmW cA a0 a1 a2 ((zu (zu (zu (zu (zu Z 3 a_4) 4 li_5) 10 (Z 10 + 1)) 11 0) 12 (Z 4)), T, (vp_updL K (Z 10) (lN (Z 3 + n_6 * 2 ^ 16 + (Z 4) * 2 ^ 32 + kd * 2 ^ 48 + 0 * 2 ^ 52))))) H := hP
          have hD : va_D A (lmW cA a0 a1 a2 ((zu (zu (zu (zu (zu Z 3 a_4) 4 li_5) 10 (Z 10 + 1)) 11 0) 12 (Z 4)), T, (vp_updL K (Z 10) (lN (Z 3 + n_6 * 2 ^ 16 + (Z 4) * 2 ^ 32 + kd * 2 ^ 48 + 0 * 2 ^ 52))))) := hD
          refine lv_iconst (v := nI 0) hx hb dX0_addToken_131 (by decide) ?_
          have hP : va_P (dC, dI) vwCl (lmW cA a0 a1 a2 (adZ T Z stop, T, adK T Z K kd stop)) H := by rw [adZ, adK, psZ, hp_7, if_pos (by omega), if_neg (by omega), if_pos (by omega), pkT, show Z 11 = 0 by omega]; exact hP
          have hD : va_D A (lmW cA a0 a1 a2 (adZ T Z stop, T, adK T Z K kd stop)) := by rw [adZ, adK, psZ, hp_7, if_pos (by omega), if_neg (by omega), if_pos (by omega), pkT, show Z 11 = 0 by omega]; exact hD
          exact W.iret (v := nI 0) hx hb hr (fun t ht hW => ⟨⟨_, (adZ T Z stop, T, adK T Z K kd stop), rfl, ⟨rfl, rfl⟩, by rw [ht]; exact hP, va_K.moved hW.alike hK, hD⟩, hS.F ht⟩) hS.2.2 dX0_addToken_132
        · have c_44 := mt (nI_eq (a := Z 11) (b := 0) (by omega) (by omega)).mpr c_44
          refine lv_lconst (v := lN 1) hx hb dX0_addToken_87 (by decide) ?_
          refine lv_goto (tgt := 92) hx hb dX0_addToken_88 (by decide) ?_
          refine lv_bipush (v := nI 52) hx hb dX0_addToken_92 (by decide) ?_
          refine lv_lshl (v := lN (1 * 2 ^ 52)) hx hb dX0_addToken_94 (wb_shl _ (by omega)) ?_
          refine lv_lor hx hb dX0_addToken_95 ?_
          refine lv_topl (fun x_49 e_50 => ?_)
          obtain rfl : x_49 = lN (Z 3 + n_6 * 2 ^ 16 + (Z 4) * 2 ^ 32 + kd * 2 ^ 48 + 1 * 2 ^ 52) := e_50.trans (lor_add (k := 52) (by decide) (by omega) (by decide))
          refine va_last hx hb hK hP hD hS 2 0 rfl rfl (vp_in_nI (by omega) (by decide)) dX0_addToken_96 (fun H locs hP hD hS => ?_)
          rw [nI_clamp (by omega)] at hP hD
          have hP : va_P (dC, dI) vwCl (lmW cA a0 a1 a2 ((zu (zu (zu Z 3 a_4) 4 li_5) 12 (Z 4)), T, (vp_updL K (Z 10) (lN (Z 3 + n_6 * 2 ^ 16 + (Z 4) * 2 ^ 32 + kd * 2 ^ 48 + 1 * 2 ^ 52))))) H := hP
          have hD : va_D A (lmW cA a0 a1 a2 ((zu (zu (zu Z 3 a_4) 4 li_5) 12 (Z 4)), T, (vp_updL K (Z 10) (lN (Z 3 + n_6 * 2 ^ 16 + (Z 4) * 2 ^ 32 + kd * 2 ^ 48 + 1 * 2 ^ 52))))) := hD
          refine lv_goto (tgt := 116) hx hb dX0_addToken_97 (by decide) ?_
          refine lv_aload_n hx hb dX0_addToken_116 rfl (lv_at hl 3 rfl) ?_
          refine lv_dup hx hb dX0_addToken_117 rfl ?_
          refine va_get (D := (dC, dI)) (ci := 0) (v := .int (nI (Z 10))) (C := RX0) (T := TX0) (N := 16) hx hb hts inX0 hown hK hP 0 rfl rfl 10 (by decide) (hts _ fl_X0_90) (fun _ h9 => h9) rfl dX0_addToken_118 ?_
          refine lv_iconst (v := nI 1) hx hb dX0_addToken_121 (by decide) ?_
          refine lv_iadd hx hb dX0_addToken_122 ?_
          refine lv_topi (fun x_51 e_52 => ?_)
          obtain rfl : x_51 = nI (Z 10 + 1) := e_52.trans (nI_add (Z 10) 1)
          refine va_put (D := (dC, dI)) (ci := 0) (v := .int (nI (Z 10 + 1))) (ty := .int) (C := RX0) (T := TX0) (N := 16) hx hb hts inX0 tyX0 okX0 nmX0 hown hK hP hD hS 0 rfl rfl 10 (by decide) (hts _ fl_X0_90) (fun _ h9 => h9) rfl (by decide +kernel) rfl rfl (Nat.le_of_ble_eq_true rfl) dX0_addToken_123 (fun H locs hP hD hS => ?_)
          have hP : va_P (dC, dI) vwCl (lmW cA a0 a1 a2 ((zu (zu (zu (zu Z 3 a_4) 4 li_5) 10 (Z 10 + 1)) 12 (Z 4)), T, (vp_updL K (Z 10) (lN (Z 3 + n_6 * 2 ^ 16 + (Z 4) * 2 ^ 32 + kd * 2 ^ 48 + 1 * 2 ^ 52))))) H := hP
          have hD : va_D A (lmW cA a0 a1 a2 ((zu (zu (zu (zu Z 3 a_4) 4 li_5) 10 (Z 10 + 1)) 12 (Z 4)), T, (vp_updL K (Z 10) (lN (Z 3 + n_6 * 2 ^ 16 + (Z 4) * 2 ^ 32 + kd * 2 ^ 48 + 1 * 2 ^ 52))))) := hD
          refine lv_aload_n hx hb dX0_addToken_126 rfl (lv_at hl 3 rfl) ?_
          refine lv_iconst (v := nI 0) hx hb dX0_addToken_127 (by decide) ?_
          refine va_put (D := (dC, dI)) (ci := 0) (v := .int (nI 0)) (ty := .boolean) (C := RX0) (T := TX0) (N := 16) hx hb hts inX0 tyX0 okX0 nmX0 hown hK hP hD hS 0 rfl rfl 11 (by decide) (hts _ fl_X0_93) (fun _ h9 => h9) rfl (by decide +kernel) rfl rfl (Nat.le_of_ble_eq_true rfl) dX0_addToken_128 (fun H locs hP hD hS => ?_)
          have hP : va_P (dC, dI) vwCl (lmW cA a0 a1 a2 ((zu (zu (zu (zu (zu Z 3 a_4) 4 li_5) 10 (Z 10 + 1)) 11 0) 12 (Z 4)), T, (vp_updL K (Z 10) (lN (Z 3 + n_6 * 2 ^ 16 + (Z 4) * 2 ^ 32 + kd * 2 ^ 48 + 1 * 2 ^ 52))))) H := hP
          have hD : va_D A (lmW cA a0 a1 a2 ((zu (zu (zu (zu (zu Z 3 a_4) 4 li_5) 10 (Z 10 + 1)) 11 0) 12 (Z 4)), T, (vp_updL K (Z 10) (lN (Z 3 + n_6 * 2 ^ 16 + (Z 4) * 2 ^ 32 + kd * 2 ^ 48 + 1 * 2 ^ 52))))) := hD
          refine lv_iconst (v := nI 0) hx hb dX0_addToken_131 (by decide) ?_
          have hP : va_P (dC, dI) vwCl (lmW cA a0 a1 a2 (adZ T Z stop, T, adK T Z K kd stop)) H := by rw [adZ, adK, psZ, hp_7, if_pos (by omega), if_neg (by omega), if_pos (by omega), pkT, show Z 11 = 1 by omega]; exact hP
          have hD : va_D A (lmW cA a0 a1 a2 (adZ T Z stop, T, adK T Z K kd stop)) := by rw [adZ, adK, psZ, hp_7, if_pos (by omega), if_neg (by omega), if_pos (by omega), pkT, show Z 11 = 1 by omega]; exact hD
          exact W.iret (v := nI 0) hx hb hr (fun t ht hW => ⟨⟨_, (adZ T Z stop, T, adK T Z K kd stop), rfl, ⟨rfl, rfl⟩, by rw [ht]; exact hP, va_K.moved hW.alike hK, hD⟩, hS.F ht⟩) hS.2.2 dX0_addToken_132
set_option maxHeartbeats 4000000 in
set_option maxRecDepth 100000 in
theorem c_passComment (l : Launch) (dC : Nat → ClassId) (dI : Nat → Nat → Nat) (cA : ClassId) (a0 a1 a2 : Nat) (sz : Nat) (Z : Nat → Nat) (T K : Nat → Int64) (q : Nat) (hn : Z 2 ≤ 32768) (hq : q < 2 ^ 29) (ha : Z 3 < 2 ^ 29) : Met l yX0_passComment wX0_passComment ({ frames := 4, cells := 0, slots := 0, locals := 88 }) (va_Pc [.ref a0, .int (nI q)] (lmP dC dI cA a0 a1 a2 sz (Z, T, K))) (va_Qi (fun (r : Int32) (u : lmU) => r = nI (pcZ T Z q).2 ∧ u = ((pcZ T Z q).1, T, K)) (lmB dC dI cA a0 a1 a2 (va_A (lmW cA a0 a1 a2 (Z, T, K)) sz)) (va_A (lmW cA a0 a1 a2 (Z, T, K)) sz)) 0 0 (va_A (lmW cA a0 a1 a2 (Z, T, K)) sz) := by
  refine Met.ofW (cc := cX0_passComment) (maxL := 3) (ret := (some .int)) (by decide) rfl ?_
  intro p e s m args below meth c s₁ B hml hv
  obtain ⟨rfl, hsz, hP, hK, hD0⟩ := hv
  have hx := B.exec
  have hb := B.bytes
  have hr := B.returns
  have hts : ∀ w ∈ bw, w.before _ s = true := fun w h => atoms_spec (ws := wX0_passComment) B.pre w (bc w h)
  have hown : s.vm.findClass RX0 = some m.cls := findClass_of_methodNamed B.named
  have hlocks := B.notSynchronized
  subst hsz
  have hD := hD0.self (sz := s.heap.size)
  generalize hAe : va_A (lmW cA a0 a1 a2 (Z, T, K)) s.heap.size = A at hD ⊢
  have hA : ∀ q : Nat, s.heap.size ≤ q → A q := fun q h => by rw [← hAe]; exact Or.inr h
  have hS : va_S A s.heap s.heap [] := va_S.rf
  have hl := lv_entry ([.ref a0, .int (nI q)]) (n := 3) (Nat.le_of_ble_eq_true rfl)
  rw [lg_entry_eq]
  generalize (lg_sl ([.ref a0, .int (nI q)]) ++ List.replicate (3 - (lg_sl ([.ref a0, .int (nI q)])).length) Slot.unset).toArray = ls at hl ⊢
  have hl : lv_has ls 3 [(0, .ref a0), (1, .int (nI q))] := hl
  refine lv_aload_n hx hb dX0_passComment_0 rfl (lv_at hl 0 rfl) ?_
  refine lv_iload_n hx hb dX0_passComment_1 rfl (lv_at hl 1 rfl) ?_
  refine vp_callSi (va_Run.run (va_runV (As := [.int (nI q)]) (rest := []) ⟨hx, hb, hml, hown, hts⟩ (c_commentEnd l dC dI cA a0 a1 a2 Z T K q (show Z 2 ≤ 32768 by omega) (show q < 2 ^ 30 - 1 by omega)) (cwV 1 hts (gV (fun _ h => h) ml_X0_152 im_X0_commentEnd se_X0_commentEnd ini_X0 co_X0_commentEnd) rfl rfl rfl pd_X0_commentEnd ⟨Nat.le_of_ble_eq_true rfl, Nat.le_of_ble_eq_true rfl⟩) (lm_preR hK hP) rfl rfl hl.1 rfl (lv_room (Nat.le_of_ble_eq_true rfl)) dX0_passComment_2 ⟨Nat.zero_le _, Nat.zero_le _⟩)) (fun r_1 (e_2 : r_1 = oI (cmE T (Z 2) q false)) => ?_)
  subst e_2
  refine lv_istore_n (lv' := [(2, .int (oI (cmE T (Z 2) q false))), (0, .ref a0), (1, .int (nI q))]) hx hb dX0_passComment_5 rfl hl (by decide) rfl (fun ls hl => ?_)
  refine lv_iload_n hx hb dX0_passComment_6 rfl (lv_at hl 0 rfl) ?_
  refine lv_iconst (v := (-1)) hx hb dX0_passComment_7 (by decide) ?_
  refine lv_icmp_ne (tgt := 21) hx hb dX0_passComment_8 (by decide) (fun c_3 => ?_) (fun c_3 => ?_)
  · obtain ⟨w_5, ho_4⟩ : ∃ k, cmE T (Z 2) q false = some k := Option.ne_none_iff_exists'.mp (fun z => c_3 (by rw [z]; rfl))
    have := cmE_b ho_4
    have hl : lv_has ls 3 [(2, .int (nI w_5)), (0, .ref a0), (1, .int (nI q))] := by rw [ho_4] at hl; exact hl
    refine lv_aload_n hx hb dX0_passComment_21 rfl (lv_at hl 1 rfl) ?_
    refine lv_iload_n hx hb dX0_passComment_22 rfl (lv_at hl 0 rfl) ?_
    refine lm_calli (va_runV (As := [.int (nI w_5)]) (rest := []) ⟨hx, hb, hml, hown, hts⟩ (c_passBlank l dC dI cA a0 a1 a2 s.heap.size Z T K w_5 (show Z 2 ≤ 32768 by omega) (show w_5 < 2 ^ 29 by omega) (show Z 3 < 2 ^ 29 by omega)) (cwV 1 hts (gV (fun _ h => h) ml_X0_112 im_X0_passBlank se_X0_passBlank ini_X0 co_X0_passBlank) rfl rfl rfl pd_X0_passBlank ⟨Nat.le_of_ble_eq_true rfl, Nat.le_of_ble_eq_true rfl⟩) (lm_preS hK hP hD) rfl rfl hl.1 rfl (lv_room (Nat.le_of_ble_eq_true rfl)) dX0_passComment_23 ⟨Nat.zero_le _, Nat.zero_le _⟩) hD hS hA (fun r_8 u_7 H locs q_6 hP hD hS => ?_)
    obtain ⟨rfl, rfl⟩ := q_6
    have hP : va_P (dC, dI) vwCl (lmW cA a0 a1 a2 ((pbZ T Z w_5), T, K)) H := hP
    have hD : va_D A (lmW cA a0 a1 a2 ((pbZ T Z w_5), T, K)) := hD
    have hP : va_P (dC, dI) vwCl (lmW cA a0 a1 a2 ((pcZ T Z q).1, T, K)) H := by simp only [pcZ, ho_4]; exact hP
    have hD : va_D A (lmW cA a0 a1 a2 ((pcZ T Z q).1, T, K)) := by simp only [pcZ, ho_4]; exact hD
    exact W.iret (v := nI 0) hx hb hr (fun t ht hW => ⟨⟨_, ((pcZ T Z q).1, T, K), rfl, ⟨by simp only [pcZ, ho_4], rfl⟩, by rw [ht]; exact hP, va_K.moved hW.alike hK, hD⟩, hS.F ht⟩) hS.2.2 dX0_passComment_26
  · have ho_9 : cmE T (Z 2) q false = none := (oI_m1 (fun k hk => by have := cmE_b hk; omega)).mp c_3
    refine lv_aload_n hx hb dX0_passComment_11 rfl (lv_at hl 1 rfl) ?_
    refine lv_aload_n hx hb dX0_passComment_12 rfl (lv_at hl 1 rfl) ?_
    refine va_get (D := (dC, dI)) (ci := 0) (v := .int (nI (Z 4))) (C := RX0) (T := TX0) (N := 16) hx hb hts inX0 hown hK hP 0 rfl rfl 4 (by decide) (hts _ fl_X0_68) (fun _ h9 => h9) rfl dX0_passComment_13 ?_
    refine lv_iconst (v := nI 1) hx hb dX0_passComment_16 (by decide) ?_
    refine lm_calli (va_runV (As := [.int (nI (Z 4)), .int (nI 1)]) (rest := []) ⟨hx, hb, hml, hown, hts⟩ (c_stopAt l dC dI cA a0 a1 a2 s.heap.size Z T K (Z 4) 1 ) (cwV 2 hts (gV (fun _ h => h) ml_X0_105 im_X0_stopAt se_X0_stopAt ini_X0 co_X0_stopAt) rfl rfl rfl pd_X0_stopAt ⟨Nat.le_of_ble_eq_true rfl, Nat.le_of_ble_eq_true rfl⟩) (lm_preS hK hP hD) rfl rfl hl.1 rfl (lv_room (Nat.le_of_ble_eq_true rfl)) dX0_passComment_17 ⟨Nat.zero_le _, Nat.zero_le _⟩) hD hS hA (fun r_12 u_11 H locs q_10 hP hD hS => ?_)
    obtain ⟨rfl, rfl⟩ := q_10
    have hP : va_P (dC, dI) vwCl (lmW cA a0 a1 a2 ((zu (zu Z 7 ((Z 4))) 8 1), T, K)) H := hP
    have hD : va_D A (lmW cA a0 a1 a2 ((zu (zu Z 7 ((Z 4))) 8 1), T, K)) := hD
    have hP : va_P (dC, dI) vwCl (lmW cA a0 a1 a2 ((pcZ T Z q).1, T, K)) H := by simp only [pcZ, ho_9]; exact hP
    have hD : va_D A (lmW cA a0 a1 a2 ((pcZ T Z q).1, T, K)) := by simp only [pcZ, ho_9]; exact hD
    exact W.iret (v := nI 1) hx hb hr (fun t ht hW => ⟨⟨_, ((pcZ T Z q).1, T, K), rfl, ⟨by simp only [pcZ, ho_9], rfl⟩, by rw [ht]; exact hP, va_K.moved hW.alike hK, hD⟩, hS.F ht⟩) hS.2.2 dX0_passComment_20
set_option maxHeartbeats 4000000 in
set_option maxRecDepth 100000 in
theorem k_quoteEnd_42 {p : Program} {l : Launch} {e : Env} {s : State} {m : MethodId} {args : Array Value} {below : List Frame} {meth : Method} {c : Code} {A : Nat → Prop} (hx : p.tables.exec = Jvm.exec) (hb : c.code = cX0_quoteEnd) (hr : meth.sig.returnType = (some .int)) (hml : c.maxLocals = 6) (hown : s.vm.findClass RX0 = some m.cls) (hts : ∀ w ∈ bw, w.before args s = true) (hlocks : meth.locks = false) {dC : Nat → ClassId} {dI : Nat → Nat → Nat} {cA : ClassId} {a0 a1 a2 : Nat} {Z : Nat → Nat} {T K : Nat → Int64} (hK : va_K (dC, dI) vwCl [(cA, .long)] s) (hA : ∀ q, s.heap.size ≤ q → A q) (y : Nat) (t0 : Nat) (hn : Z 2 ≤ 32768) (hy : y < 256) (ht0 : (t0 = 1 ∧ y = 34) ∨ (t0 = 0 ∧ ¬ y = 34)) (P : Int32 → lmU → Prop) : ∀ (k : Nat) (q : Nat), Z 2 - q < k → q < 2 ^ 29 → P (oI (qeR Z y (qtE T (Z 2) y q)).1) ((qeR Z y (qtE T (Z 2) y q)).2, T, K) → ∀ (H : Heap) (locs : List Loc), va_P (dC, dI) vwCl (lmW cA a0 a1 a2 (Z, T, K)) H → va_D A (lmW cA a0 a1 a2 (Z, T, K)) → va_S A s.heap H locs → ∀ ls, lv_has ls 6 [(0, .ref a0), (2, .int (bI y)), (3, .int (nI t0)), (4, .int (nI q))] → W p l e (headSpec wX0_quoteEnd ({ frames := 2, cells := 0, slots := 0, locals := 44 })).room s m args below meth c H locs 0 0 (MQ below (va_Qi P (lmB dC dI cA a0 a1 a2 A) A) args s 0 0 A) (F0 m 42 ls []) := by
  intro k
  induction k with
  | zero => intro q hk; exact absurd hk (by omega)
  | succ k ih =>
    intro q hk hq hQ H locs hP hD hS ls hl
    refine lv_iload hx hb dX0_quoteEnd_42 (lv_at hl 3 rfl) ?_
    refine lv_aload_n hx hb dX0_quoteEnd_44 rfl (lv_at hl 0 rfl) ?_
    refine va_get (D := (dC, dI)) (ci := 0) (v := .int (nI (Z 2))) (C := RX0) (T := TX0) (N := 16) hx hb hts inX0 hown hK hP 0 rfl rfl 2 (by decide) (hts _ fl_X0_19) (fun _ h9 => h9) rfl dX0_quoteEnd_45 ?_
    refine lv_icmp_ge (tgt := 129) hx hb dX0_quoteEnd_48 (by decide) (fun c_1 => ?_) (fun c_1 => ?_)
    · have c_1 := (nI_leI (a := Z 2) (b := q) (by omega) (by omega)).mp c_1
      refine lv_iload_n hx hb dX0_quoteEnd_129 rfl (lv_at hl 2 rfl) ?_
      refine lv_if_eq (tgt := 142) hx hb dX0_quoteEnd_130 (by decide) (fun c_2 => ?_) (fun c_2 => ?_)
      · have c_2 := (nI_eq (a := t0) (b := 0) (by omega) (by omega)).mp c_2
        refine lv_aload_n hx hb dX0_quoteEnd_142 rfl (lv_at hl 0 rfl) ?_
        refine lv_iload hx hb dX0_quoteEnd_143 (lv_at hl 3 rfl) ?_
        refine va_put (D := (dC, dI)) (ci := 0) (v := .int (nI q)) (ty := .int) (C := RX0) (T := TX0) (N := 16) hx hb hts inX0 tyX0 okX0 nmX0 hown hK hP hD hS 0 rfl rfl 15 (by decide) (hts _ fl_X0_99) (fun _ h9 => h9) rfl (by decide +kernel) rfl rfl (Nat.le_of_ble_eq_true rfl) dX0_quoteEnd_145 (fun H locs hP hD hS => ?_)
        have hP : va_P (dC, dI) vwCl (lmW cA a0 a1 a2 ((zu Z 15 q), T, K)) H := hP
        have hD : va_D A (lmW cA a0 a1 a2 ((zu Z 15 q), T, K)) := hD
        refine lv_iconst (v := (-1)) hx hb dX0_quoteEnd_148 (by decide) ?_
        exact W.iret (v := (-1)) hx hb hr (fun t ht hW => ⟨⟨_, ((zu Z 15 q), T, K), rfl, (by rw [qtE, if_neg (by omega), qeR_39 (by omega)] at hQ; exact hQ), by rw [ht]; exact hP, va_K.moved hW.alike hK, hD⟩, hS.F ht⟩) hS.2.2 dX0_quoteEnd_149
      · have c_2 := mt (nI_eq (a := t0) (b := 0) (by omega) (by omega)).mpr c_2
        refine lv_aload_n hx hb dX0_quoteEnd_133 rfl (lv_at hl 0 rfl) ?_
        refine lv_iload hx hb dX0_quoteEnd_134 (lv_at hl 3 rfl) ?_
        refine va_put (D := (dC, dI)) (ci := 0) (v := .int (nI q)) (ty := .int) (C := RX0) (T := TX0) (N := 16) hx hb hts inX0 tyX0 okX0 nmX0 hown hK hP hD hS 0 rfl rfl 14 (by decide) (hts _ fl_X0_96) (fun _ h9 => h9) rfl (by decide +kernel) rfl rfl (Nat.le_of_ble_eq_true rfl) dX0_quoteEnd_136 (fun H locs hP hD hS => ?_)
        have hP : va_P (dC, dI) vwCl (lmW cA a0 a1 a2 ((zu Z 14 q), T, K)) H := hP
        have hD : va_D A (lmW cA a0 a1 a2 ((zu Z 14 q), T, K)) := hD
        refine lv_goto (tgt := 148) hx hb dX0_quoteEnd_139 (by decide) ?_
        refine lv_iconst (v := (-1)) hx hb dX0_quoteEnd_148 (by decide) ?_
        exact W.iret (v := (-1)) hx hb hr (fun t ht hW => ⟨⟨_, ((zu Z 14 q), T, K), rfl, (by rw [qtE, if_neg (by omega), qeR_34 (by omega)] at hQ; exact hQ), by rw [ht]; exact hP, va_K.moved hW.alike hK, hD⟩, hS.F ht⟩) hS.2.2 dX0_quoteEnd_149
    · have c_1 := mt (nI_leI (a := Z 2) (b := q) (by omega) (by omega)).mpr c_1
      refine lv_aload_n hx hb dX0_quoteEnd_51 rfl (lv_at hl 0 rfl) ?_
      refine lv_iload hx hb dX0_quoteEnd_52 (lv_at hl 3 rfl) ?_
      refine vp_callSi (va_Run.run (va_runV (As := [.int (nI q)]) (rest := []) ⟨hx, hb, hml, hown, hts⟩ (c_byteAt l dC dI cA a0 a1 a2 Z T K q (show Z 2 ≤ 32768 by omega) (show q < 2 ^ 31 by omega)) (cwV 1 hts (gV (fun _ h => h) ml_X0_28 im_X0_byteAt se_X0_byteAt ini_X0 co_X0_byteAt) rfl rfl rfl pd_X0_byteAt ⟨Nat.le_of_ble_eq_true rfl, Nat.le_of_ble_eq_true rfl⟩) (lm_preR hK hP) rfl rfl hl.1 rfl (lv_room (Nat.le_of_ble_eq_true rfl)) dX0_quoteEnd_54 ⟨Nat.zero_le _, Nat.zero_le _⟩)) (fun r_3 (e_4 : r_3 = bI (gb T (Z 2) q)) => ?_)
      subst e_4
      have := gb_in T (Z 2) q
      refine lv_bipush (v := nI 10) hx hb dX0_quoteEnd_57 (by decide) ?_
      refine lv_icmp_eq (tgt := 129) hx hb dX0_quoteEnd_59 (by decide) (fun c_5 => ?_) (fun c_5 => ?_)
      · have c_5 := (bI_eqN (by omega)).mp c_5
        refine lv_iload_n hx hb dX0_quoteEnd_129 rfl (lv_at hl 2 rfl) ?_
        refine lv_if_eq (tgt := 142) hx hb dX0_quoteEnd_130 (by decide) (fun c_6 => ?_) (fun c_6 => ?_)
        · have c_6 := (nI_eq (a := t0) (b := 0) (by omega) (by omega)).mp c_6
          refine lv_aload_n hx hb dX0_quoteEnd_142 rfl (lv_at hl 0 rfl) ?_
          refine lv_iload hx hb dX0_quoteEnd_143 (lv_at hl 3 rfl) ?_
          refine va_put (D := (dC, dI)) (ci := 0) (v := .int (nI q)) (ty := .int) (C := RX0) (T := TX0) (N := 16) hx hb hts inX0 tyX0 okX0 nmX0 hown hK hP hD hS 0 rfl rfl 15 (by decide) (hts _ fl_X0_99) (fun _ h9 => h9) rfl (by decide +kernel) rfl rfl (Nat.le_of_ble_eq_true rfl) dX0_quoteEnd_145 (fun H locs hP hD hS => ?_)
          have hP : va_P (dC, dI) vwCl (lmW cA a0 a1 a2 ((zu Z 15 q), T, K)) H := hP
          have hD : va_D A (lmW cA a0 a1 a2 ((zu Z 15 q), T, K)) := hD
          refine lv_iconst (v := (-1)) hx hb dX0_quoteEnd_148 (by decide) ?_
          exact W.iret (v := (-1)) hx hb hr (fun t ht hW => ⟨⟨_, ((zu Z 15 q), T, K), rfl, (by rw [qtE, if_neg (by omega), qeR_39 (by omega)] at hQ; exact hQ), by rw [ht]; exact hP, va_K.moved hW.alike hK, hD⟩, hS.F ht⟩) hS.2.2 dX0_quoteEnd_149
        · have c_6 := mt (nI_eq (a := t0) (b := 0) (by omega) (by omega)).mpr c_6
          refine lv_aload_n hx hb dX0_quoteEnd_133 rfl (lv_at hl 0 rfl) ?_
          refine lv_iload hx hb dX0_quoteEnd_134 (lv_at hl 3 rfl) ?_
          refine va_put (D := (dC, dI)) (ci := 0) (v := .int (nI q)) (ty := .int) (C := RX0) (T := TX0) (N := 16) hx hb hts inX0 tyX0 okX0 nmX0 hown hK hP hD hS 0 rfl rfl 14 (by decide) (hts _ fl_X0_96) (fun _ h9 => h9) rfl (by decide +kernel) rfl rfl (Nat.le_of_ble_eq_true rfl) dX0_quoteEnd_136 (fun H locs hP hD hS => ?_)
          have hP : va_P (dC, dI) vwCl (lmW cA a0 a1 a2 ((zu Z 14 q), T, K)) H := hP
          have hD : va_D A (lmW cA a0 a1 a2 ((zu Z 14 q), T, K)) := hD
          refine lv_goto (tgt := 148) hx hb dX0_quoteEnd_139 (by decide) ?_
          refine lv_iconst (v := (-1)) hx hb dX0_quoteEnd_148 (by decide) ?_
          exact W.iret (v := (-1)) hx hb hr (fun t ht hW => ⟨⟨_, ((zu Z 14 q), T, K), rfl, (by rw [qtE, if_neg (by omega), qeR_34 (by omega)] at hQ; exact hQ), by rw [ht]; exact hP, va_K.moved hW.alike hK, hD⟩, hS.F ht⟩) hS.2.2 dX0_quoteEnd_149
      · have c_5 := mt (bI_eqN (by omega)).mpr c_5
        refine lv_aload_n hx hb dX0_quoteEnd_62 rfl (lv_at hl 0 rfl) ?_
        refine lv_iload hx hb dX0_quoteEnd_63 (lv_at hl 3 rfl) ?_
        refine vp_callSi (va_Run.run (va_runV (As := [.int (nI q)]) (rest := []) ⟨hx, hb, hml, hown, hts⟩ (c_byteAt l dC dI cA a0 a1 a2 Z T K q (show Z 2 ≤ 32768 by omega) (show q < 2 ^ 31 by omega)) (cwV 1 hts (gV (fun _ h => h) ml_X0_28 im_X0_byteAt se_X0_byteAt ini_X0 co_X0_byteAt) rfl rfl rfl pd_X0_byteAt ⟨Nat.le_of_ble_eq_true rfl, Nat.le_of_ble_eq_true rfl⟩) (lm_preR hK hP) rfl rfl hl.1 rfl (lv_room (Nat.le_of_ble_eq_true rfl)) dX0_quoteEnd_65 ⟨Nat.zero_le _, Nat.zero_le _⟩)) (fun r_7 (e_8 : r_7 = bI (gb T (Z 2) q)) => ?_)
        subst e_8
        have := gb_in T (Z 2) q
        refine lv_istore (lv' := [(5, .int (bI (gb T (Z 2) q))), (0, .ref a0), (2, .int (bI y)), (3, .int (nI t0)), (4, .int (nI q))]) hx hb dX0_quoteEnd_68 hl (by decide) rfl (fun ls hl => ?_)
        refine lv_aload_n hx hb dX0_quoteEnd_70 rfl (lv_at hl 1 rfl) ?_
        refine lv_iload hx hb dX0_quoteEnd_71 (lv_at hl 4 rfl) ?_
        refine lv_iconst (v := nI 1) hx hb dX0_quoteEnd_73 (by decide) ?_
        refine lv_iadd hx hb dX0_quoteEnd_74 ?_
        refine lv_topi (fun x_9 e_10 => ?_)
        obtain rfl : x_9 = nI (q + 1) := e_10.trans (nI_add q 1)
        refine vp_callSi (va_Run.run (va_runV (As := [.int (nI (q + 1))]) (rest := []) ⟨hx, hb, hml, hown, hts⟩ (c_leftFrom l dC dI cA a0 a1 a2 Z T K (q + 1) (show Z 2 ≤ 32768 by omega) (show q + 1 < 2 ^ 30 by omega)) (cwV 1 hts (gV (fun _ h => h) ml_X0_42 im_X0_leftFrom se_X0_leftFrom ini_X0 co_X0_leftFrom) rfl rfl rfl pd_X0_leftFrom ⟨Nat.le_of_ble_eq_true rfl, Nat.le_of_ble_eq_true rfl⟩) (lm_preR hK hP) rfl rfl hl.1 rfl (lv_room (Nat.le_of_ble_eq_true rfl)) dX0_quoteEnd_75 ⟨Nat.zero_le _, Nat.zero_le _⟩)) (fun r_11 (e_12 : r_11 = nI (lf T (Z 2) (q + 1))) => ?_)
        subst e_12
        have := lf_b T (Z 2) (q + 1)
        refine lv_istore (lv' := [(4, .int (nI (lf T (Z 2) (q + 1)))), (5, .int (bI (gb T (Z 2) q))), (0, .ref a0), (2, .int (bI y)), (3, .int (nI t0))]) hx hb dX0_quoteEnd_78 hl (by decide) rfl (fun ls hl => ?_)
        refine lv_iload hx hb dX0_quoteEnd_80 (lv_at hl 1 rfl) ?_
        refine lv_iload_n hx hb dX0_quoteEnd_82 rfl (lv_at hl 3 rfl) ?_
        refine lv_icmp_ne (tgt := 89) hx hb dX0_quoteEnd_83 (by decide) (fun c_13 => ?_) (fun c_13 => ?_)
        · have c_13 := mt (bI_eqB).mpr c_13
          refine lv_iload hx hb dX0_quoteEnd_89 (lv_at hl 1 rfl) ?_
          refine lv_bipush (v := nI 92) hx hb dX0_quoteEnd_91 (by decide) ?_
          refine lv_icmp_ne (tgt := 126) hx hb dX0_quoteEnd_93 (by decide) (fun c_14 => ?_) (fun c_14 => ?_)
          · have c_14 := mt (bI_eqN (by omega)).mpr c_14
            refine lv_goto (tgt := 42) hx hb dX0_quoteEnd_126 (by decide) ?_
            exact ih (lf T (Z 2) (q + 1)) (by omega) (by omega) (by rw [qtE, if_pos (by omega), if_neg (by omega), if_neg (by omega)] at hQ; exact hQ) _ _ hP hD hS _ (lv_sub hl [2, 3, 4, 0] rfl)
          · have c_14 := (bI_eqN (by omega)).mp c_14
            refine lv_iload hx hb dX0_quoteEnd_96 (lv_at hl 0 rfl) ?_
            refine lv_aload_n hx hb dX0_quoteEnd_98 rfl (lv_at hl 2 rfl) ?_
            refine va_get (D := (dC, dI)) (ci := 0) (v := .int (nI (Z 2))) (C := RX0) (T := TX0) (N := 16) hx hb hts inX0 hown hK hP 0 rfl rfl 2 (by decide) (hts _ fl_X0_19) (fun _ h9 => h9) rfl dX0_quoteEnd_99 ?_
            refine lv_icmp_ge (tgt := 126) hx hb dX0_quoteEnd_102 (by decide) (fun c_15 => ?_) (fun c_15 => ?_)
            · have c_15 := (nI_leI (a := Z 2) (b := lf T (Z 2) (q + 1)) (by omega) (by omega)).mp c_15
              refine lv_goto (tgt := 42) hx hb dX0_quoteEnd_126 (by decide) ?_
              exact ih (lf T (Z 2) (q + 1)) (by omega) (by omega) (by rw [qtE, if_pos (by omega), if_neg (by omega), if_neg (by omega)] at hQ; exact hQ) _ _ hP hD hS _ (lv_sub hl [2, 3, 4, 0] rfl)
            · have c_15 := mt (nI_leI (a := Z 2) (b := lf T (Z 2) (q + 1)) (by omega) (by omega)).mpr c_15
              refine lv_aload_n hx hb dX0_quoteEnd_105 rfl (lv_at hl 2 rfl) ?_
              refine lv_iload hx hb dX0_quoteEnd_106 (lv_at hl 0 rfl) ?_
              refine vp_callSi (va_Run.run (va_runV (As := [.int (nI (lf T (Z 2) (q + 1)))]) (rest := []) ⟨hx, hb, hml, hown, hts⟩ (c_byteAt l dC dI cA a0 a1 a2 Z T K (lf T (Z 2) (q + 1)) (show Z 2 ≤ 32768 by omega) (show lf T (Z 2) (q + 1) < 2 ^ 31 by omega)) (cwV 1 hts (gV (fun _ h => h) ml_X0_28 im_X0_byteAt se_X0_byteAt ini_X0 co_X0_byteAt) rfl rfl rfl pd_X0_byteAt ⟨Nat.le_of_ble_eq_true rfl, Nat.le_of_ble_eq_true rfl⟩) (lm_preR hK hP) rfl rfl hl.1 rfl (lv_room (Nat.le_of_ble_eq_true rfl)) dX0_quoteEnd_108 ⟨Nat.zero_le _, Nat.zero_le _⟩)) (fun r_16 (e_17 : r_16 = bI (gb T (Z 2) (lf T (Z 2) (q + 1)))) => ?_)
              subst e_17
              have := gb_in T (Z 2) (lf T (Z 2) (q + 1))
              refine lv_bipush (v := nI 10) hx hb dX0_quoteEnd_111 (by decide) ?_
              refine lv_icmp_eq (tgt := 126) hx hb dX0_quoteEnd_113 (by decide) (fun c_18 => ?_) (fun c_18 => ?_)
              · have c_18 := (bI_eqN (by omega)).mp c_18
                refine lv_goto (tgt := 42) hx hb dX0_quoteEnd_126 (by decide) ?_
                exact ih (lf T (Z 2) (q + 1)) (by omega) (by omega) (by rw [qtE, if_pos (by omega), if_neg (by omega), if_neg (by omega)] at hQ; exact hQ) _ _ hP hD hS _ (lv_sub hl [2, 3, 4, 0] rfl)
              · have c_18 := mt (bI_eqN (by omega)).mpr c_18
                refine lv_aload_n hx hb dX0_quoteEnd_116 rfl (lv_at hl 2 rfl) ?_
                refine lv_iload hx hb dX0_quoteEnd_117 (lv_at hl 0 rfl) ?_
                refine lv_iconst (v := nI 1) hx hb dX0_quoteEnd_119 (by decide) ?_
                refine lv_iadd hx hb dX0_quoteEnd_120 ?_
                refine lv_topi (fun x_19 e_20 => ?_)
                obtain rfl : x_19 = nI (lf T (Z 2) (q + 1) + 1) := e_20.trans (nI_add (lf T (Z 2) (q + 1)) 1)
                refine vp_callSi (va_Run.run (va_runV (As := [.int (nI (lf T (Z 2) (q + 1) + 1))]) (rest := []) ⟨hx, hb, hml, hown, hts⟩ (c_leftFrom l dC dI cA a0 a1 a2 Z T K (lf T (Z 2) (q + 1) + 1) (show Z 2 ≤ 32768 by omega) (show lf T (Z 2) (q + 1) + 1 < 2 ^ 30 by omega)) (cwV 1 hts (gV (fun _ h => h) ml_X0_42 im_X0_leftFrom se_X0_leftFrom ini_X0 co_X0_leftFrom) rfl rfl rfl pd_X0_leftFrom ⟨Nat.le_of_ble_eq_true rfl, Nat.le_of_ble_eq_true rfl⟩) (lm_preR hK hP) rfl rfl hl.1 rfl (lv_room (Nat.le_of_ble_eq_true rfl)) dX0_quoteEnd_121 ⟨Nat.zero_le _, Nat.zero_le _⟩)) (fun r_21 (e_22 : r_21 = nI (lf T (Z 2) (lf T (Z 2) (q + 1) + 1))) => ?_)
                subst e_22
                have := lf_b T (Z 2) (lf T (Z 2) (q + 1) + 1)
                refine lv_istore (lv' := [(4, .int (nI (lf T (Z 2) (lf T (Z 2) (q + 1) + 1)))), (5, .int (bI (gb T (Z 2) q))), (0, .ref a0), (2, .int (bI y)), (3, .int (nI t0))]) hx hb dX0_quoteEnd_124 hl (by decide) rfl (fun ls hl => ?_)
                refine lv_goto (tgt := 42) hx hb dX0_quoteEnd_126 (by decide) ?_
                exact ih (lf T (Z 2) (lf T (Z 2) (q + 1) + 1)) (by omega) (by omega) (by rw [qtE, if_pos (by omega), if_neg (by omega), if_pos (by omega)] at hQ; exact hQ) _ _ hP hD hS _ (lv_sub hl [2, 3, 4, 0] rfl)
        · have c_13 := (bI_eqB).mp c_13
          refine lv_iload hx hb dX0_quoteEnd_86 (lv_at hl 0 rfl) ?_
          exact W.iret (v := nI (lf T (Z 2) (q + 1))) hx hb hr (fun t ht hW => ⟨⟨_, (Z, T, K), rfl, (by rw [qtE, if_pos (by omega), if_pos (by omega), qeR_t] at hQ; exact hQ), by rw [ht]; exact hP, va_K.moved hW.alike hK, hD⟩, hS.F ht⟩) hS.2.2 dX0_quoteEnd_88
set_option maxHeartbeats 4000000 in
set_option maxRecDepth 100000 in
theorem c_quoteEnd (l : Launch) (dC : Nat → ClassId) (dI : Nat → Nat → Nat) (cA : ClassId) (a0 a1 a2 : Nat) (sz : Nat) (Z : Nat → Nat) (T K : Nat → Int64) (g : Nat) (y : Nat) (hn : Z 2 ≤ 32768) (hy : y < 256) (hp : g < 2 ^ 28) (h14 : Z 14 < 2 ^ 29) (h15 : Z 15 < 2 ^ 29) : Met l yX0_quoteEnd wX0_quoteEnd ({ frames := 2, cells := 0, slots := 0, locals := 44 }) (va_Pc [.ref a0, .int (nI g), .int (bI y)] (lmP dC dI cA a0 a1 a2 sz (Z, T, K))) (va_Qi (fun (r : Int32) (u : lmU) => r = oI (qeZ T Z g y).1 ∧ u = ((qeZ T Z g y).2, T, K)) (lmB dC dI cA a0 a1 a2 (va_A (lmW cA a0 a1 a2 (Z, T, K)) sz)) (va_A (lmW cA a0 a1 a2 (Z, T, K)) sz)) 0 0 (va_A (lmW cA a0 a1 a2 (Z, T, K)) sz) := by
  refine Met.ofW (cc := cX0_quoteEnd) (maxL := 6) (ret := (some .int)) (by decide) rfl ?_
  intro p e s m args below meth c s₁ B hml hv
  obtain ⟨rfl, hsz, hP, hK, hD0⟩ := hv
  have hx := B.exec
  have hb := B.bytes
  have hr := B.returns
  have hts : ∀ w ∈ bw, w.before _ s = true := fun w h => atoms_spec (ws := wX0_quoteEnd) B.pre w (bc w h)
  have hown : s.vm.findClass RX0 = some m.cls := findClass_of_methodNamed B.named
  have hlocks := B.notSynchronized
  subst hsz
  have hD := hD0.self (sz := s.heap.size)
  generalize hAe : va_A (lmW cA a0 a1 a2 (Z, T, K)) s.heap.size = A at hD ⊢
  have hA : ∀ q : Nat, s.heap.size ≤ q → A q := fun q h => by rw [← hAe]; exact Or.inr h
  have hS : va_S A s.heap s.heap [] := va_S.rf
  have hl := lv_entry ([.ref a0, .int (nI g), .int (bI y)]) (n := 6) (Nat.le_of_ble_eq_true rfl)
  rw [lg_entry_eq]
  generalize (lg_sl ([.ref a0, .int (nI g), .int (bI y)]) ++ List.replicate (6 - (lg_sl ([.ref a0, .int (nI g), .int (bI y)])).length) Slot.unset).toArray = ls at hl ⊢
  have hl : lv_has ls 6 [(0, .ref a0), (1, .int (nI g)), (2, .int (bI y))] := hl
  refine lv_iload_n hx hb dX0_quoteEnd_0 rfl (lv_at hl 2 rfl) ?_
  refine lv_bipush (v := nI 34) hx hb dX0_quoteEnd_1 (by decide) ?_
  refine lv_icmp_ne (tgt := 10) hx hb dX0_quoteEnd_3 (by decide) (fun c_1 => ?_) (fun c_1 => ?_)
  · have c_1 := mt (bI_eqN (by omega)).mpr c_1
    refine lv_iconst (v := nI 0) hx hb dX0_quoteEnd_10 (by decide) ?_
    refine lv_istore_n (lv' := [(3, .int (nI 0)), (0, .ref a0), (1, .int (nI g)), (2, .int (bI y))]) hx hb dX0_quoteEnd_11 rfl hl (by decide) rfl (fun ls hl => ?_)
    refine lv_iload_n hx hb dX0_quoteEnd_12 rfl (lv_at hl 2 rfl) ?_
    refine lv_iload_n hx hb dX0_quoteEnd_13 rfl (lv_at hl 0 rfl) ?_
    refine lv_if_eq (tgt := 24) hx hb dX0_quoteEnd_14 (by decide) (fun c_2 => ?_) (fun c_2 => ?_)
    · have c_2 := (nI_eq (a := 0) (b := 0) (by omega) (by omega)).mp c_2
      refine lv_aload_n hx hb dX0_quoteEnd_24 rfl (lv_at hl 1 rfl) ?_
      refine va_get (D := (dC, dI)) (ci := 0) (v := .int (nI (Z 15))) (C := RX0) (T := TX0) (N := 16) hx hb hts inX0 hown hK hP 0 rfl rfl 15 (by decide) (hts _ fl_X0_99) (fun _ h9 => h9) rfl dX0_quoteEnd_25 ?_
      refine lv_icmp_ge (tgt := 33) hx hb dX0_quoteEnd_28 (by decide) (fun c_3 => ?_) (fun c_3 => ?_)
      · have c_3 := (nI_leI (a := Z 15) (b := g) (by omega) (by omega)).mp c_3
        refine lv_aload_n hx hb dX0_quoteEnd_33 rfl (lv_at hl 1 rfl) ?_
        refine lv_iload_n hx hb dX0_quoteEnd_34 rfl (lv_at hl 2 rfl) ?_
        refine lv_iconst (v := nI 1) hx hb dX0_quoteEnd_35 (by decide) ?_
        refine lv_iadd hx hb dX0_quoteEnd_36 ?_
        refine lv_topi (fun x_4 e_5 => ?_)
        obtain rfl : x_4 = nI (g + 1) := e_5.trans (nI_add g 1)
        refine vp_callSi (va_Run.run (va_runV (As := [.int (nI (g + 1))]) (rest := []) ⟨hx, hb, hml, hown, hts⟩ (c_leftFrom l dC dI cA a0 a1 a2 Z T K (g + 1) (show Z 2 ≤ 32768 by omega) (show g + 1 < 2 ^ 30 by omega)) (cwV 1 hts (gV (fun _ h => h) ml_X0_42 im_X0_leftFrom se_X0_leftFrom ini_X0 co_X0_leftFrom) rfl rfl rfl pd_X0_leftFrom ⟨Nat.le_of_ble_eq_true rfl, Nat.le_of_ble_eq_true rfl⟩) (lm_preR hK hP) rfl rfl hl.1 rfl (lv_room (Nat.le_of_ble_eq_true rfl)) dX0_quoteEnd_37 ⟨Nat.zero_le _, Nat.zero_le _⟩)) (fun r_6 (e_7 : r_6 = nI (lf T (Z 2) (g + 1))) => ?_)
        subst e_7
        have := lf_b T (Z 2) (g + 1)
        refine lv_istore (lv' := [(4, .int (nI (lf T (Z 2) (g + 1)))), (3, .int (nI 0)), (0, .ref a0), (1, .int (nI g)), (2, .int (bI y))]) hx hb dX0_quoteEnd_40 hl (by decide) rfl (fun ls hl => ?_)
        exact k_quoteEnd_42 hx hb hr hml hown hts hlocks hK hA y 0 hn hy (by omega) (fun r u => r = oI (qeZ T Z g y).1 ∧ u = ((qeZ T Z g y).2, T, K)) (Z 2 - lf T (Z 2) (g + 1) + 1) (lf T (Z 2) (g + 1)) (by omega) (by omega) (by rw [qeZ, if_neg (by rw [if_neg (by omega)]; omega)]; exact ⟨rfl, rfl⟩) _ _ hP hD hS _ (lv_sub hl [2, 4, 1, 0] rfl)
      · have c_3 := mt (nI_leI (a := Z 15) (b := g) (by omega) (by omega)).mpr c_3
        refine lv_iconst (v := (-1)) hx hb dX0_quoteEnd_31 (by decide) ?_
        exact W.iret (v := (-1)) hx hb hr (fun t ht hW => ⟨⟨_, (Z, T, K), rfl, (by rw [qeZ, if_pos (by rw [if_neg (by omega)]; omega)]; exact ⟨rfl, rfl⟩), by rw [ht]; exact hP, va_K.moved hW.alike hK, hD⟩, hS.F ht⟩) hS.2.2 dX0_quoteEnd_32
    · have c_2 := mt (nI_eq (a := 0) (b := 0) (by omega) (by omega)).mpr c_2
      omega
  · have c_1 := (bI_eqN (by omega)).mp c_1
    refine lv_iconst (v := nI 1) hx hb dX0_quoteEnd_6 (by decide) ?_
    refine lv_goto (tgt := 11) hx hb dX0_quoteEnd_7 (by decide) ?_
    refine lv_istore_n (lv' := [(3, .int (nI 1)), (0, .ref a0), (1, .int (nI g)), (2, .int (bI y))]) hx hb dX0_quoteEnd_11 rfl hl (by decide) rfl (fun ls hl => ?_)
    refine lv_iload_n hx hb dX0_quoteEnd_12 rfl (lv_at hl 2 rfl) ?_
    refine lv_iload_n hx hb dX0_quoteEnd_13 rfl (lv_at hl 0 rfl) ?_
    refine lv_if_eq (tgt := 24) hx hb dX0_quoteEnd_14 (by decide) (fun c_8 => ?_) (fun c_8 => ?_)
    · have c_8 := (nI_eq (a := 1) (b := 0) (by omega) (by omega)).mp c_8
      omega
    · have c_8 := mt (nI_eq (a := 1) (b := 0) (by omega) (by omega)).mpr c_8
      refine lv_aload_n hx hb dX0_quoteEnd_17 rfl (lv_at hl 1 rfl) ?_
      refine va_get (D := (dC, dI)) (ci := 0) (v := .int (nI (Z 14))) (C := RX0) (T := TX0) (N := 16) hx hb hts inX0 hown hK hP 0 rfl rfl 14 (by decide) (hts _ fl_X0_96) (fun _ h9 => h9) rfl dX0_quoteEnd_18 ?_
      refine lv_goto (tgt := 28) hx hb dX0_quoteEnd_21 (by decide) ?_
      refine lv_icmp_ge (tgt := 33) hx hb dX0_quoteEnd_28 (by decide) (fun c_9 => ?_) (fun c_9 => ?_)
      · have c_9 := (nI_leI (a := Z 14) (b := g) (by omega) (by omega)).mp c_9
        refine lv_aload_n hx hb dX0_quoteEnd_33 rfl (lv_at hl 1 rfl) ?_
        refine lv_iload_n hx hb dX0_quoteEnd_34 rfl (lv_at hl 2 rfl) ?_
        refine lv_iconst (v := nI 1) hx hb dX0_quoteEnd_35 (by decide) ?_
        refine lv_iadd hx hb dX0_quoteEnd_36 ?_
        refine lv_topi (fun x_10 e_11 => ?_)
        obtain rfl : x_10 = nI (g + 1) := e_11.trans (nI_add g 1)
        refine vp_callSi (va_Run.run (va_runV (As := [.int (nI (g + 1))]) (rest := []) ⟨hx, hb, hml, hown, hts⟩ (c_leftFrom l dC dI cA a0 a1 a2 Z T K (g + 1) (show Z 2 ≤ 32768 by omega) (show g + 1 < 2 ^ 30 by omega)) (cwV 1 hts (gV (fun _ h => h) ml_X0_42 im_X0_leftFrom se_X0_leftFrom ini_X0 co_X0_leftFrom) rfl rfl rfl pd_X0_leftFrom ⟨Nat.le_of_ble_eq_true rfl, Nat.le_of_ble_eq_true rfl⟩) (lm_preR hK hP) rfl rfl hl.1 rfl (lv_room (Nat.le_of_ble_eq_true rfl)) dX0_quoteEnd_37 ⟨Nat.zero_le _, Nat.zero_le _⟩)) (fun r_12 (e_13 : r_12 = nI (lf T (Z 2) (g + 1))) => ?_)
        subst e_13
        have := lf_b T (Z 2) (g + 1)
        refine lv_istore (lv' := [(4, .int (nI (lf T (Z 2) (g + 1)))), (3, .int (nI 1)), (0, .ref a0), (1, .int (nI g)), (2, .int (bI y))]) hx hb dX0_quoteEnd_40 hl (by decide) rfl (fun ls hl => ?_)
        exact k_quoteEnd_42 hx hb hr hml hown hts hlocks hK hA y 1 hn hy (by omega) (fun r u => r = oI (qeZ T Z g y).1 ∧ u = ((qeZ T Z g y).2, T, K)) (Z 2 - lf T (Z 2) (g + 1) + 1) (lf T (Z 2) (g + 1)) (by omega) (by omega) (by rw [qeZ, if_neg (by rw [if_pos (by omega)]; omega)]; exact ⟨rfl, rfl⟩) _ _ hP hD hS _ (lv_sub hl [2, 4, 1, 0] rfl)
      · have c_9 := mt (nI_leI (a := Z 14) (b := g) (by omega) (by omega)).mpr c_9
        refine lv_iconst (v := (-1)) hx hb dX0_quoteEnd_31 (by decide) ?_
        exact W.iret (v := (-1)) hx hb hr (fun t ht hW => ⟨⟨_, (Z, T, K), rfl, (by rw [qeZ, if_pos (by rw [if_pos (by omega)]; omega)]; exact ⟨rfl, rfl⟩), by rw [ht]; exact hP, va_K.moved hW.alike hK, hD⟩, hS.F ht⟩) hS.2.2 dX0_quoteEnd_32
set_option maxHeartbeats 4000000 in
set_option maxRecDepth 100000 in
theorem c_cutQuote (l : Launch) (dC : Nat → ClassId) (dI : Nat → Nat → Nat) (cA : ClassId) (a0 a1 a2 : Nat) (sz : Nat) (Z : Nat → Nat) (T K : Nat → Int64) (y : Nat) (hn : Z 2 ≤ 32768) (hy : y < 256) (h4 : Z 4 < 65536) (h6 : Z 6 < 2 ^ 29) (h10 : Z 10 < 2 ^ 29) (h11 : Z 11 ≤ 1) (h14 : Z 14 < 2 ^ 29) (h15 : Z 15 < 2 ^ 29) (ha : Z 3 < Z 2) : Met l yX0_cutQuote wX0_cutQuote ({ frames := 4, cells := 0, slots := 0, locals := 92 }) (va_Pc [.ref a0, .int (bI y)] (lmP dC dI cA a0 a1 a2 sz (Z, T, K))) (va_Qi (fun (r : Int32) (u : lmU) => r = nI (cqZ T Z K y).2.2 ∧ u = ((cqZ T Z K y).1, T, (cqZ T Z K y).2.1)) (lmB dC dI cA a0 a1 a2 (va_A (lmW cA a0 a1 a2 (Z, T, K)) sz)) (va_A (lmW cA a0 a1 a2 (Z, T, K)) sz)) 0 0 (va_A (lmW cA a0 a1 a2 (Z, T, K)) sz) := by
  refine Met.ofW (cc := cX0_cutQuote) (maxL := 3) (ret := (some .int)) (by decide) rfl ?_
  intro p e s m args below meth c s₁ B hml hv
  obtain ⟨rfl, hsz, hP, hK, hD0⟩ := hv
  have hx := B.exec
  have hb := B.bytes
  have hr := B.returns
  have hts : ∀ w ∈ bw, w.before _ s = true := fun w h => atoms_spec (ws := wX0_cutQuote) B.pre w (bc w h)
  have hown : s.vm.findClass RX0 = some m.cls := findClass_of_methodNamed B.named
  have hlocks := B.notSynchronized
  subst hsz
  have hD := hD0.self (sz := s.heap.size)
  generalize hAe : va_A (lmW cA a0 a1 a2 (Z, T, K)) s.heap.size = A at hD ⊢
  have hA : ∀ q : Nat, s.heap.size ≤ q → A q := fun q h => by rw [← hAe]; exact Or.inr h
  have hS : va_S A s.heap s.heap [] := va_S.rf
  have hl := lv_entry ([.ref a0, .int (bI y)]) (n := 3) (Nat.le_of_ble_eq_true rfl)
  rw [lg_entry_eq]
  generalize (lg_sl ([.ref a0, .int (bI y)]) ++ List.replicate (3 - (lg_sl ([.ref a0, .int (bI y)])).length) Slot.unset).toArray = ls at hl ⊢
  have hl : lv_has ls 3 [(0, .ref a0), (1, .int (bI y))] := hl
  refine lv_aload_n hx hb dX0_cutQuote_0 rfl (lv_at hl 0 rfl) ?_
  refine lv_aload_n hx hb dX0_cutQuote_1 rfl (lv_at hl 0 rfl) ?_
  refine va_get (D := (dC, dI)) (ci := 0) (v := .int (nI (Z 3))) (C := RX0) (T := TX0) (N := 16) hx hb hts inX0 hown hK hP 0 rfl rfl 3 (by decide) (hts _ fl_X0_39) (fun _ h9 => h9) rfl dX0_cutQuote_2 ?_
  refine lv_iload_n hx hb dX0_cutQuote_5 rfl (lv_at hl 1 rfl) ?_
  refine lm_calli (va_runV (As := [.int (nI (Z 3)), .int (bI y)]) (rest := []) ⟨hx, hb, hml, hown, hts⟩ (c_quoteEnd l dC dI cA a0 a1 a2 s.heap.size Z T K (Z 3) y (show Z 2 ≤ 32768 by omega) (show y < 256 by omega) (show Z 3 < 2 ^ 28 by omega) (show Z 14 < 2 ^ 29 by omega) (show Z 15 < 2 ^ 29 by omega)) (cwV 2 hts (gV (fun _ h => h) ml_X0_155 im_X0_quoteEnd se_X0_quoteEnd ini_X0 co_X0_quoteEnd) rfl rfl rfl pd_X0_quoteEnd ⟨Nat.le_of_ble_eq_true rfl, Nat.le_of_ble_eq_true rfl⟩) (lm_preS hK hP hD) rfl rfl hl.1 rfl (lv_room (Nat.le_of_ble_eq_true rfl)) dX0_cutQuote_6 ⟨Nat.zero_le _, Nat.zero_le _⟩) hD hS hA (fun r_3 u_2 H locs q_1 hP hD hS => ?_)
  obtain ⟨rfl, rfl⟩ := q_1
  have hf_2 : (qeZ T Z (Z 3) y).2 2 = Z 2 := qeZ_k (by decide) (by decide)
  have hf_3 : (qeZ T Z (Z 3) y).2 3 = Z 3 := qeZ_k (by decide) (by decide)
  have hf_4 : (qeZ T Z (Z 3) y).2 4 = Z 4 := qeZ_k (by decide) (by decide)
  have hf_6 : (qeZ T Z (Z 3) y).2 6 = Z 6 := qeZ_k (by decide) (by decide)
  have hf_10 : (qeZ T Z (Z 3) y).2 10 = Z 10 := qeZ_k (by decide) (by decide)
  have hf_11 : (qeZ T Z (Z 3) y).2 11 = Z 11 := qeZ_k (by decide) (by decide)
  obtain ⟨Z_4, hz_5⟩ : ∃ z, (qeZ T Z (Z 3) y).2 = z := ⟨_, rfl⟩
  rw [hz_5] at hP hD hf_2 hf_3 hf_4 hf_6 hf_10 hf_11
  have hP : va_P (dC, dI) vwCl (lmW cA a0 a1 a2 (Z_4, T, K)) H := hP
  have hD : va_D A (lmW cA a0 a1 a2 (Z_4, T, K)) := hD
  refine lv_istore_n (lv' := [(2, .int (oI (qeZ T Z (Z 3) y).1)), (0, .ref a0), (1, .int (bI y))]) hx hb dX0_cutQuote_9 rfl hl (by decide) rfl (fun ls hl => ?_)
  refine lv_iload_n hx hb dX0_cutQuote_10 rfl (lv_at hl 0 rfl) ?_
  refine lv_iconst (v := (-1)) hx hb dX0_cutQuote_11 (by decide) ?_
  refine lv_icmp_eq (tgt := 25) hx hb dX0_cutQuote_12 (by decide) (fun c_6 => ?_) (fun c_6 => ?_)
  · have ho_7 : (qeZ T Z (Z 3) y).1 = none := (oI_m1 (fun k hk => by have := qeZ_s hk; omega)).mp c_6
    refine lv_aload_n hx hb dX0_cutQuote_25 rfl (lv_at hl 1 rfl) ?_
    refine va_get (D := (dC, dI)) (ci := 0) (v := .int (nI (Z_4 6))) (C := RX0) (T := TX0) (N := 16) hx hb hts inX0 hown hK hP 0 rfl rfl 6 (by decide) (hts _ fl_X0_85) (fun _ h9 => h9) rfl dX0_cutQuote_26 ?_
    refine lv_sipush (v := nI 1000) hx hb dX0_cutQuote_29 (by decide) ?_
    refine lv_icmp_lt (tgt := 46) hx hb dX0_cutQuote_32 (by decide) (fun c_8 => ?_) (fun c_8 => ?_)
    · have c_8 := (nI_ltI (a := Z_4 6) (b := 1000) (by omega) (by omega)).mp c_8
      refine lv_aload_n hx hb dX0_cutQuote_46 rfl (lv_at hl 1 rfl) ?_
      refine lv_dup hx hb dX0_cutQuote_47 rfl ?_
      refine va_get (D := (dC, dI)) (ci := 0) (v := .int (nI (Z_4 6))) (C := RX0) (T := TX0) (N := 16) hx hb hts inX0 hown hK hP 0 rfl rfl 6 (by decide) (hts _ fl_X0_85) (fun _ h9 => h9) rfl dX0_cutQuote_48 ?_
      refine lv_iconst (v := nI 1) hx hb dX0_cutQuote_51 (by decide) ?_
      refine lv_iadd hx hb dX0_cutQuote_52 ?_
      refine lv_topi (fun x_9 e_10 => ?_)
      obtain rfl : x_9 = nI (Z_4 6 + 1) := e_10.trans (nI_add (Z_4 6) 1)
      refine va_put (D := (dC, dI)) (ci := 0) (v := .int (nI (Z_4 6 + 1))) (ty := .int) (C := RX0) (T := TX0) (N := 16) hx hb hts inX0 tyX0 okX0 nmX0 hown hK hP hD hS 0 rfl rfl 6 (by decide) (hts _ fl_X0_85) (fun _ h9 => h9) rfl (by decide +kernel) rfl rfl (Nat.le_of_ble_eq_true rfl) dX0_cutQuote_53 (fun H locs hP hD hS => ?_)
      have hP : va_P (dC, dI) vwCl (lmW cA a0 a1 a2 ((zu Z_4 6 (Z_4 6 + 1)), T, K)) H := hP
      have hD : va_D A (lmW cA a0 a1 a2 ((zu Z_4 6 (Z_4 6 + 1)), T, K)) := hD
      refine lv_aload_n hx hb dX0_cutQuote_56 rfl (lv_at hl 1 rfl) ?_
      refine lv_bipush (v := nI 6) hx hb dX0_cutQuote_57 (by decide) ?_
      refine lv_aload_n hx hb dX0_cutQuote_59 rfl (lv_at hl 1 rfl) ?_
      refine lv_aload_n hx hb dX0_cutQuote_60 rfl (lv_at hl 1 rfl) ?_
      refine va_get (D := (dC, dI)) (ci := 0) (v := .int (nI (Z_4 3))) (C := RX0) (T := TX0) (N := 16) hx hb hts inX0 hown hK hP 0 rfl rfl 3 (by decide) (hts _ fl_X0_39) (fun _ h9 => h9) rfl dX0_cutQuote_61 ?_
      refine lv_iconst (v := nI 1) hx hb dX0_cutQuote_64 (by decide) ?_
      refine lv_iadd hx hb dX0_cutQuote_65 ?_
      refine lv_topi (fun x_11 e_12 => ?_)
      obtain rfl : x_11 = nI (Z_4 3 + 1) := e_12.trans (nI_add (Z_4 3) 1)
      refine vp_callSi (va_Run.run (va_runV (As := [.int (nI (Z_4 3 + 1))]) (rest := [.int (nI 6), .ref a0]) ⟨hx, hb, hml, hown, hts⟩ (c_leftFrom l dC dI cA a0 a1 a2 (zu Z_4 6 (Z_4 6 + 1)) T K (Z_4 3 + 1) (show Z_4 2 ≤ 32768 by omega) (show Z_4 3 + 1 < 2 ^ 30 by omega)) (cwV 1 hts (gV (fun _ h => h) ml_X0_42 im_X0_leftFrom se_X0_leftFrom ini_X0 co_X0_leftFrom) rfl rfl rfl pd_X0_leftFrom ⟨Nat.le_of_ble_eq_true rfl, Nat.le_of_ble_eq_true rfl⟩) (lm_preR hK hP) rfl rfl hl.1 rfl (lv_room (Nat.le_of_ble_eq_true rfl)) dX0_cutQuote_66 ⟨Nat.zero_le _, Nat.zero_le _⟩)) (fun r_13 (e_14 : r_13 = nI (lf T (Z_4 2) (Z_4 3 + 1))) => ?_)
      subst e_14
      have := lf_b T (Z_4 2) (Z_4 3 + 1)
      refine lm_calli (va_runV (As := [.int (nI 6), .int (nI (lf T (Z_4 2) (Z_4 3 + 1)))]) (rest := []) ⟨hx, hb, hml, hown, hts⟩ (c_addToken l dC dI cA a0 a1 a2 H.size (zu Z_4 6 (Z_4 6 + 1)) T K 6 (lf T (Z_4 2) (Z_4 3 + 1)) (show Z_4 2 ≤ 32768 by omega) (show lf T (Z_4 2) (Z_4 3 + 1) ≤ Z_4 2 by omega) (show Z_4 3 ≤ Z_4 2 by omega) (show Z_4 4 < 65536 by omega) (show Z_4 10 < 2 ^ 29 by omega) (show Z_4 11 ≤ 1 by omega) (show 6 < 16 by omega)) (cwV 2 hts (gV (fun _ h => h) ml_X0_139 im_X0_addToken se_X0_addToken ini_X0 co_X0_addToken) rfl rfl rfl pd_X0_addToken ⟨Nat.le_of_ble_eq_true rfl, Nat.le_of_ble_eq_true rfl⟩) (lm_preS hK hP hD) rfl rfl hl.1 rfl (lv_room (Nat.le_of_ble_eq_true rfl)) dX0_cutQuote_69 ⟨Nat.zero_le _, Nat.zero_le _⟩) hD hS hA (fun r_17 u_16 H locs q_15 hP hD hS => ?_)
      obtain ⟨rfl, rfl⟩ := q_15
      have hP : va_P (dC, dI) vwCl (lmW cA a0 a1 a2 ((adZ T (zu Z_4 6 (Z_4 6 + 1)) (lf T (Z_4 2) (Z_4 3 + 1))), T, (adK T (zu Z_4 6 (Z_4 6 + 1)) K 6 (lf T (Z_4 2) (Z_4 3 + 1))))) H := hP
      have hD : va_D A (lmW cA a0 a1 a2 ((adZ T (zu Z_4 6 (Z_4 6 + 1)) (lf T (Z_4 2) (Z_4 3 + 1))), T, (adK T (zu Z_4 6 (Z_4 6 + 1)) K 6 (lf T (Z_4 2) (Z_4 3 + 1))))) := hD
      have hP : va_P (dC, dI) vwCl (lmW cA a0 a1 a2 ((cqZ T Z K y).1, T, (cqZ T Z K y).2.1)) H := by rw [cqZ, ho_7, hz_5, cqR, if_neg (by omega)]; exact hP
      have hD : va_D A (lmW cA a0 a1 a2 ((cqZ T Z K y).1, T, (cqZ T Z K y).2.1)) := by rw [cqZ, ho_7, hz_5, cqR, if_neg (by omega)]; exact hD
      exact W.iret (v := nI 0) hx hb hr (fun t ht hW => ⟨⟨_, ((cqZ T Z K y).1, T, (cqZ T Z K y).2.1), rfl, ⟨by rw [cqZ, ho_7, hz_5, cqR, if_neg (by omega)], rfl⟩, by rw [ht]; exact hP, va_K.moved hW.alike hK, hD⟩, hS.F ht⟩) hS.2.2 dX0_cutQuote_72
    · have c_8 := mt (nI_ltI (a := Z_4 6) (b := 1000) (by omega) (by omega)).mpr c_8
      refine lv_aload_n hx hb dX0_cutQuote_35 rfl (lv_at hl 1 rfl) ?_
      refine lv_aload_n hx hb dX0_cutQuote_36 rfl (lv_at hl 1 rfl) ?_
      refine va_get (D := (dC, dI)) (ci := 0) (v := .int (nI (Z_4 4))) (C := RX0) (T := TX0) (N := 16) hx hb hts inX0 hown hK hP 0 rfl rfl 4 (by decide) (hts _ fl_X0_68) (fun _ h9 => h9) rfl dX0_cutQuote_37 ?_
      refine lv_bipush (v := nI 21) hx hb dX0_cutQuote_40 (by decide) ?_
      refine lm_calli (va_runV (As := [.int (nI (Z_4 4)), .int (nI 21)]) (rest := []) ⟨hx, hb, hml, hown, hts⟩ (c_stopAt l dC dI cA a0 a1 a2 H.size Z_4 T K (Z_4 4) 21 ) (cwV 2 hts (gV (fun _ h => h) ml_X0_105 im_X0_stopAt se_X0_stopAt ini_X0 co_X0_stopAt) rfl rfl rfl pd_X0_stopAt ⟨Nat.le_of_ble_eq_true rfl, Nat.le_of_ble_eq_true rfl⟩) (lm_preS hK hP hD) rfl rfl hl.1 rfl (lv_room (Nat.le_of_ble_eq_true rfl)) dX0_cutQuote_42 ⟨Nat.zero_le _, Nat.zero_le _⟩) hD hS hA (fun r_20 u_19 H locs q_18 hP hD hS => ?_)
      obtain ⟨rfl, rfl⟩ := q_18
      have hP : va_P (dC, dI) vwCl (lmW cA a0 a1 a2 ((zu (zu Z_4 7 ((Z_4 4))) 8 1), T, K)) H := hP
      have hD : va_D A (lmW cA a0 a1 a2 ((zu (zu Z_4 7 ((Z_4 4))) 8 1), T, K)) := hD
      have hP : va_P (dC, dI) vwCl (lmW cA a0 a1 a2 ((cqZ T Z K y).1, T, (cqZ T Z K y).2.1)) H := by rw [cqZ, ho_7, hz_5, cqR, if_pos (by omega)]; exact hP
      have hD : va_D A (lmW cA a0 a1 a2 ((cqZ T Z K y).1, T, (cqZ T Z K y).2.1)) := by rw [cqZ, ho_7, hz_5, cqR, if_pos (by omega)]; exact hD
      exact W.iret (v := nI 21) hx hb hr (fun t ht hW => ⟨⟨_, ((cqZ T Z K y).1, T, (cqZ T Z K y).2.1), rfl, ⟨by rw [cqZ, ho_7, hz_5, cqR, if_pos (by omega)], rfl⟩, by rw [ht]; exact hP, va_K.moved hW.alike hK, hD⟩, hS.F ht⟩) hS.2.2 dX0_cutQuote_45
  · obtain ⟨w_22, ho_21⟩ : ∃ k, (qeZ T Z (Z 3) y).1 = some k := Option.ne_none_iff_exists'.mp (fun z => c_6 (by rw [z]; rfl))
    have := qeZ_s ho_21
    have hl : lv_has ls 3 [(2, .int (nI w_22)), (0, .ref a0), (1, .int (bI y))] := by rw [ho_21] at hl; exact hl
    refine lv_aload_n hx hb dX0_cutQuote_15 rfl (lv_at hl 1 rfl) ?_
    refine lv_iload_n hx hb dX0_cutQuote_16 rfl (lv_at hl 2 rfl) ?_
    refine vp_callSi (va_Run.run (va_runS (As := [.int (bI y)]) (rest := [.ref a0]) ⟨hx, hb, hml, hown, hts⟩ (c_kindOfQuote l y) (cwS 1 hts (gS (fun _ h => h) ml_X0_158 sm_X0_kindOfQuote ini_X0 co_X0_kindOfQuote) rfl rfl rfl pd_X0_kindOfQuote ⟨Nat.le_of_ble_eq_true rfl, Nat.le_of_ble_eq_true rfl⟩) st_pre rfl rfl hl.1 rfl (lv_room (Nat.le_of_ble_eq_true rfl)) dX0_cutQuote_17 ⟨Nat.zero_le _, Nat.zero_le _⟩)) (fun r_23 (e_24 : r_23 = nI (kdQ y)) => ?_)
    subst e_24
    have : kdQ y < 16 := by rw [kdQ]; split <;> omega
    refine lv_iload_n hx hb dX0_cutQuote_20 rfl (lv_at hl 0 rfl) ?_
    refine lm_calli (va_runV (As := [.int (nI (kdQ y)), .int (nI w_22)]) (rest := []) ⟨hx, hb, hml, hown, hts⟩ (c_addToken l dC dI cA a0 a1 a2 H.size Z_4 T K (kdQ y) w_22 (show Z_4 2 ≤ 32768 by omega) (show w_22 ≤ Z_4 2 by omega) (show Z_4 3 ≤ Z_4 2 by omega) (show Z_4 4 < 65536 by omega) (show Z_4 10 < 2 ^ 29 by omega) (show Z_4 11 ≤ 1 by omega) (show kdQ y < 16 by omega)) (cwV 2 hts (gV (fun _ h => h) ml_X0_139 im_X0_addToken se_X0_addToken ini_X0 co_X0_addToken) rfl rfl rfl pd_X0_addToken ⟨Nat.le_of_ble_eq_true rfl, Nat.le_of_ble_eq_true rfl⟩) (lm_preS hK hP hD) rfl rfl hl.1 rfl (lv_room (Nat.le_of_ble_eq_true rfl)) dX0_cutQuote_21 ⟨Nat.zero_le _, Nat.zero_le _⟩) hD hS hA (fun r_27 u_26 H locs q_25 hP hD hS => ?_)
    obtain ⟨rfl, rfl⟩ := q_25
    have hP : va_P (dC, dI) vwCl (lmW cA a0 a1 a2 ((adZ T Z_4 w_22), T, (adK T Z_4 K (kdQ y) w_22))) H := hP
    have hD : va_D A (lmW cA a0 a1 a2 ((adZ T Z_4 w_22), T, (adK T Z_4 K (kdQ y) w_22))) := hD
    have hP : va_P (dC, dI) vwCl (lmW cA a0 a1 a2 ((cqZ T Z K y).1, T, (cqZ T Z K y).2.1)) H := by rw [cqZ, ho_21, hz_5, cqR]; exact hP
    have hD : va_D A (lmW cA a0 a1 a2 ((cqZ T Z K y).1, T, (cqZ T Z K y).2.1)) := by rw [cqZ, ho_21, hz_5, cqR]; exact hD
    exact W.iret (v := nI 0) hx hb hr (fun t ht hW => ⟨⟨_, ((cqZ T Z K y).1, T, (cqZ T Z K y).2.1), rfl, ⟨by rw [cqZ, ho_21, hz_5, cqR], rfl⟩, by rw [ht]; exact hP, va_K.moved hW.alike hK, hD⟩, hS.F ht⟩) hS.2.2 dX0_cutQuote_24
set_option maxHeartbeats 4000000 in
set_option maxRecDepth 100000 in
theorem c_cutWide (l : Launch) (dC : Nat → ClassId) (dI : Nat → Nat → Nat) (cA : ClassId) (a0 a1 a2 : Nat) (sz : Nat) (Z : Nat → Nat) (T K : Nat → Int64) (g : Nat) (y : Nat) (hn : Z 2 ≤ 32768) (hy : y < 256) (h4 : Z 4 < 65536) (h6 : Z 6 < 2 ^ 29) (h10 : Z 10 < 2 ^ 29) (h11 : Z 11 ≤ 1) (h14 : Z 14 < 2 ^ 29) (h15 : Z 15 < 2 ^ 29) (ha : Z 3 ≤ Z 2) (hp : g < Z 2) : Met l yX0_cutWide wX0_cutWide ({ frames := 4, cells := 0, slots := 0, locals := 92 }) (va_Pc [.ref a0, .int (nI g), .int (bI y)] (lmP dC dI cA a0 a1 a2 sz (Z, T, K))) (va_Qi (fun (r : Int32) (u : lmU) => r = nI (cwZ T Z K g y).2.2 ∧ u = ((cwZ T Z K g y).1, T, (cwZ T Z K g y).2.1)) (lmB dC dI cA a0 a1 a2 (va_A (lmW cA a0 a1 a2 (Z, T, K)) sz)) (va_A (lmW cA a0 a1 a2 (Z, T, K)) sz)) 0 0 (va_A (lmW cA a0 a1 a2 (Z, T, K)) sz) := by
  refine Met.ofW (cc := cX0_cutWide) (maxL := 4) (ret := (some .int)) (by decide) rfl ?_
  intro p e s m args below meth c s₁ B hml hv
  obtain ⟨rfl, hsz, hP, hK, hD0⟩ := hv
  have hx := B.exec
  have hb := B.bytes
  have hr := B.returns
  have hts : ∀ w ∈ bw, w.before _ s = true := fun w h => atoms_spec (ws := wX0_cutWide) B.pre w (bc w h)
  have hown : s.vm.findClass RX0 = some m.cls := findClass_of_methodNamed B.named
  have hlocks := B.notSynchronized
  subst hsz
  have hD := hD0.self (sz := s.heap.size)
  generalize hAe : va_A (lmW cA a0 a1 a2 (Z, T, K)) s.heap.size = A at hD ⊢
  have hA : ∀ q : Nat, s.heap.size ≤ q → A q := fun q h => by rw [← hAe]; exact Or.inr h
  have hS : va_S A s.heap s.heap [] := va_S.rf
  have hl := lv_entry ([.ref a0, .int (nI g), .int (bI y)]) (n := 4) (Nat.le_of_ble_eq_true rfl)
  rw [lg_entry_eq]
  generalize (lg_sl ([.ref a0, .int (nI g), .int (bI y)]) ++ List.replicate (4 - (lg_sl ([.ref a0, .int (nI g), .int (bI y)])).length) Slot.unset).toArray = ls at hl ⊢
  have hl : lv_has ls 4 [(0, .ref a0), (1, .int (nI g)), (2, .int (bI y))] := hl
  refine lv_aload_n hx hb dX0_cutWide_0 rfl (lv_at hl 0 rfl) ?_
  refine lv_iload_n hx hb dX0_cutWide_1 rfl (lv_at hl 1 rfl) ?_
  refine lv_iload_n hx hb dX0_cutWide_2 rfl (lv_at hl 2 rfl) ?_
  refine lm_calli (va_runV (As := [.int (nI g), .int (bI y)]) (rest := []) ⟨hx, hb, hml, hown, hts⟩ (c_quoteEnd l dC dI cA a0 a1 a2 s.heap.size Z T K g y (show Z 2 ≤ 32768 by omega) (show y < 256 by omega) (show g < 2 ^ 28 by omega) (show Z 14 < 2 ^ 29 by omega) (show Z 15 < 2 ^ 29 by omega)) (cwV 2 hts (gV (fun _ h => h) ml_X0_155 im_X0_quoteEnd se_X0_quoteEnd ini_X0 co_X0_quoteEnd) rfl rfl rfl pd_X0_quoteEnd ⟨Nat.le_of_ble_eq_true rfl, Nat.le_of_ble_eq_true rfl⟩) (lm_preS hK hP hD) rfl rfl hl.1 rfl (lv_room (Nat.le_of_ble_eq_true rfl)) dX0_cutWide_3 ⟨Nat.zero_le _, Nat.zero_le _⟩) hD hS hA (fun r_3 u_2 H locs q_1 hP hD hS => ?_)
  obtain ⟨rfl, rfl⟩ := q_1
  have hf_2 : (qeZ T Z g y).2 2 = Z 2 := qeZ_k (by decide) (by decide)
  have hf_3 : (qeZ T Z g y).2 3 = Z 3 := qeZ_k (by decide) (by decide)
  have hf_4 : (qeZ T Z g y).2 4 = Z 4 := qeZ_k (by decide) (by decide)
  have hf_6 : (qeZ T Z g y).2 6 = Z 6 := qeZ_k (by decide) (by decide)
  have hf_10 : (qeZ T Z g y).2 10 = Z 10 := qeZ_k (by decide) (by decide)
  have hf_11 : (qeZ T Z g y).2 11 = Z 11 := qeZ_k (by decide) (by decide)
  obtain ⟨Z_4, hz_5⟩ : ∃ z, (qeZ T Z g y).2 = z := ⟨_, rfl⟩
  rw [hz_5] at hP hD hf_2 hf_3 hf_4 hf_6 hf_10 hf_11
  have hP : va_P (dC, dI) vwCl (lmW cA a0 a1 a2 (Z_4, T, K)) H := hP
  have hD : va_D A (lmW cA a0 a1 a2 (Z_4, T, K)) := hD
  refine lv_istore_n (lv' := [(3, .int (oI (qeZ T Z g y).1)), (0, .ref a0), (1, .int (nI g)), (2, .int (bI y))]) hx hb dX0_cutWide_6 rfl hl (by decide) rfl (fun ls hl => ?_)
  refine lv_iload_n hx hb dX0_cutWide_7 rfl (lv_at hl 0 rfl) ?_
  refine lv_iconst (v := (-1)) hx hb dX0_cutWide_8 (by decide) ?_
  refine lv_icmp_ne (tgt := 19) hx hb dX0_cutWide_9 (by decide) (fun c_6 => ?_) (fun c_6 => ?_)
  · obtain ⟨w_8, ho_7⟩ : ∃ k, (qeZ T Z g y).1 = some k := Option.ne_none_iff_exists'.mp (fun z => c_6 (by rw [z]; rfl))
    have := qeZ_s ho_7
    have hl : lv_has ls 4 [(3, .int (nI w_8)), (0, .ref a0), (1, .int (nI g)), (2, .int (bI y))] := by rw [ho_7] at hl; exact hl
    refine lv_aload_n hx hb dX0_cutWide_19 rfl (lv_at hl 1 rfl) ?_
    refine lv_iload_n hx hb dX0_cutWide_20 rfl (lv_at hl 3 rfl) ?_
    refine vp_callSi (va_Run.run (va_runS (As := [.int (bI y)]) (rest := [.ref a0]) ⟨hx, hb, hml, hown, hts⟩ (c_kindOfQuote l y) (cwS 1 hts (gS (fun _ h => h) ml_X0_158 sm_X0_kindOfQuote ini_X0 co_X0_kindOfQuote) rfl rfl rfl pd_X0_kindOfQuote ⟨Nat.le_of_ble_eq_true rfl, Nat.le_of_ble_eq_true rfl⟩) st_pre rfl rfl hl.1 rfl (lv_room (Nat.le_of_ble_eq_true rfl)) dX0_cutWide_21 ⟨Nat.zero_le _, Nat.zero_le _⟩)) (fun r_9 (e_10 : r_9 = nI (kdQ y)) => ?_)
    subst e_10
    have : kdQ y < 16 := by rw [kdQ]; split <;> omega
    refine lv_iload_n hx hb dX0_cutWide_24 rfl (lv_at hl 0 rfl) ?_
    refine lm_calli (va_runV (As := [.int (nI (kdQ y)), .int (nI w_8)]) (rest := []) ⟨hx, hb, hml, hown, hts⟩ (c_addToken l dC dI cA a0 a1 a2 H.size Z_4 T K (kdQ y) w_8 (show Z_4 2 ≤ 32768 by omega) (show w_8 ≤ Z_4 2 by omega) (show Z_4 3 ≤ Z_4 2 by omega) (show Z_4 4 < 65536 by omega) (show Z_4 10 < 2 ^ 29 by omega) (show Z_4 11 ≤ 1 by omega) (show kdQ y < 16 by omega)) (cwV 2 hts (gV (fun _ h => h) ml_X0_139 im_X0_addToken se_X0_addToken ini_X0 co_X0_addToken) rfl rfl rfl pd_X0_addToken ⟨Nat.le_of_ble_eq_true rfl, Nat.le_of_ble_eq_true rfl⟩) (lm_preS hK hP hD) rfl rfl hl.1 rfl (lv_room (Nat.le_of_ble_eq_true rfl)) dX0_cutWide_25 ⟨Nat.zero_le _, Nat.zero_le _⟩) hD hS hA (fun r_13 u_12 H locs q_11 hP hD hS => ?_)
    obtain ⟨rfl, rfl⟩ := q_11
    have hP : va_P (dC, dI) vwCl (lmW cA a0 a1 a2 ((adZ T Z_4 w_8), T, (adK T Z_4 K (kdQ y) w_8))) H := hP
    have hD : va_D A (lmW cA a0 a1 a2 ((adZ T Z_4 w_8), T, (adK T Z_4 K (kdQ y) w_8))) := hD
    have hP : va_P (dC, dI) vwCl (lmW cA a0 a1 a2 ((cwZ T Z K g y).1, T, (cwZ T Z K g y).2.1)) H := by rw [cwZ, ho_7, hz_5, cwR]; exact hP
    have hD : va_D A (lmW cA a0 a1 a2 ((cwZ T Z K g y).1, T, (cwZ T Z K g y).2.1)) := by rw [cwZ, ho_7, hz_5, cwR]; exact hD
    exact W.iret (v := nI 0) hx hb hr (fun t ht hW => ⟨⟨_, ((cwZ T Z K g y).1, T, (cwZ T Z K g y).2.1), rfl, ⟨by rw [cwZ, ho_7, hz_5, cwR], rfl⟩, by rw [ht]; exact hP, va_K.moved hW.alike hK, hD⟩, hS.F ht⟩) hS.2.2 dX0_cutWide_28
  · have ho_14 : (qeZ T Z g y).1 = none := (oI_m1 (fun k hk => by have := qeZ_s hk; omega)).mp c_6
    refine lv_aload_n hx hb dX0_cutWide_12 rfl (lv_at hl 1 rfl) ?_
    refine lv_iconst (v := nI 1) hx hb dX0_cutWide_13 (by decide) ?_
    refine lv_iload_n hx hb dX0_cutWide_14 rfl (lv_at hl 2 rfl) ?_
    refine lm_calli (va_runV (As := [.int (nI 1), .int (nI g)]) (rest := []) ⟨hx, hb, hml, hown, hts⟩ (c_addToken l dC dI cA a0 a1 a2 H.size Z_4 T K 1 g (show Z_4 2 ≤ 32768 by omega) (show g ≤ Z_4 2 by omega) (show Z_4 3 ≤ Z_4 2 by omega) (show Z_4 4 < 65536 by omega) (show Z_4 10 < 2 ^ 29 by omega) (show Z_4 11 ≤ 1 by omega) (show 1 < 16 by omega)) (cwV 2 hts (gV (fun _ h => h) ml_X0_139 im_X0_addToken se_X0_addToken ini_X0 co_X0_addToken) rfl rfl rfl pd_X0_addToken ⟨Nat.le_of_ble_eq_true rfl, Nat.le_of_ble_eq_true rfl⟩) (lm_preS hK hP hD) rfl rfl hl.1 rfl (lv_room (Nat.le_of_ble_eq_true rfl)) dX0_cutWide_15 ⟨Nat.zero_le _, Nat.zero_le _⟩) hD hS hA (fun r_17 u_16 H locs q_15 hP hD hS => ?_)
    obtain ⟨rfl, rfl⟩ := q_15
    have hP : va_P (dC, dI) vwCl (lmW cA a0 a1 a2 ((adZ T Z_4 g), T, (adK T Z_4 K 1 g))) H := hP
    have hD : va_D A (lmW cA a0 a1 a2 ((adZ T Z_4 g), T, (adK T Z_4 K 1 g))) := hD
    have hP : va_P (dC, dI) vwCl (lmW cA a0 a1 a2 ((cwZ T Z K g y).1, T, (cwZ T Z K g y).2.1)) H := by rw [cwZ, ho_14, hz_5, cwR]; exact hP
    have hD : va_D A (lmW cA a0 a1 a2 ((cwZ T Z K g y).1, T, (cwZ T Z K g y).2.1)) := by rw [cwZ, ho_14, hz_5, cwR]; exact hD
    exact W.iret (v := nI 0) hx hb hr (fun t ht hW => ⟨⟨_, ((cwZ T Z K g y).1, T, (cwZ T Z K g y).2.1), rfl, ⟨by rw [cwZ, ho_14, hz_5, cwR], rfl⟩, by rw [ht]; exact hP, va_K.moved hW.alike hK, hD⟩, hS.F ht⟩) hS.2.2 dX0_cutWide_18
