theorem nxE_0 {Z : Nat → Nat} {K : Nat → Int64} {f : Nat} (h : f = 0) : nxE (Z, K, f) = ((clZ Z).1, K, (clZ Z).2) := by rw [nxE, if_pos h]
theorem nxE_n {Z : Nat → Nat} {K : Nat → Int64} {f : Nat} (h : ¬ f = 0) : nxE (Z, K, f) = (Z, K, f) := by rw [nxE, if_neg h]
theorem nxA_0 {Z : Nat → Nat} {K : Nat → Int64} {f : Nat} (h : f = 0) : nxA (Z, K, f) = nI (Z 9) := by rw [nxA, if_pos h]
theorem nxA_n {Z : Nat → Nat} {K : Nat → Int64} {f : Nat} (h : ¬ f = 0) : nxA (Z, K, f) = (-10) - nI f := by rw [nxA, if_neg h]
def nxY (T : Nat → Int64) (Z : Nat → Nat) : Nat → Nat := zu (zu (zu Z 3 (pss T (Z 2) (lf T (Z 2) (Z 3)) (Z 3) (Z 4) 0).1) 4 (pss T (Z 2) (lf T (Z 2) (Z 3)) (Z 3) (Z 4) 0).2.1) 9 0
def nxS (Y : Nat → Nat) : Nat → Nat := zu (zu (zu (zu Y 10 0) 11 1) 14 0) 15 0
/-- next: fields, tokens, answer -/
def nxZ (T : Nat → Int64) (Z : Nat → Nat) (K : Nat → Int64) : (Nat → Nat) × (Nat → Int64) × Int32 :=
  if ¬ Z 8 = 0 then (zu Z 9 0, K, -2)
  else if Z 2 ≤ nxY T Z 3 then (nxY T Z, K, -2)
  else ((nxE (nxL T 40000 (nxS (nxY T Z)) K 0 0)).1, (nxE (nxL T 40000 (nxS (nxY T Z)) K 0 0)).2.1, nxA (nxE (nxL T 40000 (nxS (nxY T Z)) K 0 0)))
/-- between calls -/
def lmI (Z : Nat → Nat) : Prop := Z 2 ≤ 32768 ∧ Z 3 ≤ Z 2 ∧ 1 ≤ Z 4 ∧ Z 4 ≤ Z 3 + 1 ∧ Z 5 ≤ 20000 ∧ Z 6 ≤ 1000 ∧ Z 8 ≤ 1 ∧ Z 9 ≤ 8000
theorem clZ_2 (Z : Nat → Nat) : (clZ Z).2 ≤ 21 := by
  unfold clZ
  split
  · exact Nat.zero_le _
  · split
    · exact Nat.le_refl _
    · split
      · exact Nat.le_refl _
      · exact Nat.zero_le _
set_option maxHeartbeats 4000000 in
set_option maxRecDepth 100000 in
theorem k_next_52 {p : Program} {l : Launch} {e : Env} {s : State} {m : MethodId} {args : Array Value} {below : List Frame} {meth : Method} {c : Code} {A : Nat → Prop} (hx : p.tables.exec = Jvm.exec) (hb : c.code = cX0_next) (hr : meth.sig.returnType = (some .int)) (hml : c.maxLocals = 4) (hown : s.vm.findClass RX0 = some m.cls) (hts : ∀ w ∈ bw, w.before args s = true) (hlocks : meth.locks = false) {dC : Nat → ClassId} {dI : Nat → Nat → Nat} {cA : ClassId} {a0 a1 a2 : Nat} {T : Nat → Int64} {dK dV : Nat → Nat} {A0 : Nat → Prop} (hK : va_K (dC, dI) vwCl [(cA, .long)] s) (hA : ∀ q, s.heap.size ≤ q → A q) (hw : swd dK dV A0 s s.heap) (hAA : ∀ q, A q → A0 q) (P : Int32 → lmU → Prop) : ∀ (k : Nat) (Z : Nat → Nat) (K : Nat → Int64) (e0 f t : Nat), (Z 2 - Z 3 < k ∨ (f ≠ 0 ∧ 0 < k)) → lmJ Z → (t ≤ Z 3 ∨ f ≠ 0) → t ≤ 32769 → e0 ≤ 1 → f ≤ 21 → P (nxA (nxE (nxL T k Z K e0 f))) ((nxE (nxL T k Z K e0 f)).1, T, (nxE (nxL T k Z K e0 f)).2.1) → ∀ (H : Heap) (locs : List Loc), va_P (dC, dI) vwCl (lmW cA a0 a1 a2 (Z, T, K)) H → va_D A (lmW cA a0 a1 a2 (Z, T, K)) → va_S A s.heap H locs → ∀ ls, lv_has ls 4 [(0, .ref a0), (1, .int (nI f)), (2, .int (nI e0)), (3, .int (nI t))] → W p l e (headSpec wX0_next ({ frames := 7, cells := 0, slots := 0, locals := 159 })).room s m args below meth c H locs 0 0 (MQ below (va_Qi P (lmB dC dI cA a0 a1 a2 A) A) args s 0 0 A) (F0 m 52 ls []) := by
  intro k
  induction k with
  | zero => intro Z K e0 f t hk; exact absurd hk (by omega)
  | succ k ih =>
    intro Z K e0 f t hk hJ ht ht2 he hf hQ H locs hP hD hS ls hl
    have hJ2 := hJ
    unfold lmJ at hJ2
    have hc2 := clZ_2 Z
    refine lv_iload_n hx hb dX0_next_52 rfl (lv_at hl 3 rfl) ?_
    refine lv_ldc (v := nI 32768) hx hb hown (hts _ cn_X0_23) dX0_next_53 ?_
    refine lv_icmp_ge (tgt := 107) hx hb dX0_next_55 (by decide) (fun c_1 => ?_) (fun c_1 => ?_)
    · have c_1 := (nI_leI (a := 32768) (b := t) (by omega) (by omega)).mp c_1
      refine lv_iload_n hx hb dX0_next_107 rfl (lv_at hl 1 rfl) ?_
      refine lv_if_ne (tgt := 116) hx hb dX0_next_108 (by decide) (fun c_2 => ?_) (fun c_2 => ?_)
      · have c_2 := mt (nI_eq (a := f) (b := 0) (by omega) (by omega)).mpr c_2
        refine lv_iload_n hx hb dX0_next_116 rfl (lv_at hl 1 rfl) ?_
        refine lv_if_ne (tgt := 127) hx hb dX0_next_117 (by decide) (fun c_3 => ?_) (fun c_3 => ?_)
        · have c_3 := mt (nI_eq (a := f) (b := 0) (by omega) (by omega)).mpr c_3
          refine lv_bipush (v := (-10)) hx hb dX0_next_127 (by decide) ?_
          refine lv_iload_n hx hb dX0_next_129 rfl (lv_at hl 1 rfl) ?_
          refine lv_isub hx hb dX0_next_130 ?_
          exact W.iret (v := ((-10)) - (nI f)) hx hb hr (fun t ht hW => ⟨⟨_, (Z, T, K), rfl, (by rw [nxL, if_neg (by omega), nxE_n (by omega), nxA_n (by omega)] at hQ; exact hQ), by rw [ht]; exact hP, va_K.moved hW.alike hK, hD⟩, hS.F ht⟩) hS.2.2 dX0_next_131
        · have c_3 := (nI_eq (a := f) (b := 0) (by omega) (by omega)).mp c_3
          refine lv_aload_n hx hb dX0_next_120 rfl (lv_at hl 0 rfl) ?_
          refine va_get (D := (dC, dI)) (ci := 0) (v := .int (nI (Z 9))) (C := RX0) (T := TX0) (N := 16) hx hb hts inX0 hown hK hP 0 rfl rfl 9 (by decide) (hts _ fl_X0_32) (fun _ h9 => h9) rfl dX0_next_121 ?_
          refine lv_goto (tgt := 131) hx hb dX0_next_124 (by decide) ?_
          exact W.iret (v := nI (Z 9)) hx hb hr (fun t ht hW => ⟨⟨_, (Z, T, K), rfl, (by rw [nxL, if_neg (by omega), nxE_n (by omega), nxA_0 (by omega)] at hQ; exact hQ), by rw [ht]; exact hP, va_K.moved hW.alike hK, hD⟩, hS.F ht⟩) hS.2.2 dX0_next_131
      · have c_2 := (nI_eq (a := f) (b := 0) (by omega) (by omega)).mp c_2
        refine lv_aload_n hx hb dX0_next_111 rfl (lv_at hl 0 rfl) ?_
        refine lm_calli (va_runV (As := []) (rest := []) ⟨hx, hb, hml, hown, hts⟩ (c_closeLine l dC dI cA a0 a1 a2 H.size Z T K (show Z 10 < 2 ^ 29 by omega) (show Z 5 < 2 ^ 29 by omega)) (cwV 0 hts (gV (fun _ h => h) ml_X0_55 im_X0_closeLine se_X0_closeLine ini_X0 co_X0_closeLine) rfl rfl rfl pd_X0_closeLine ⟨Nat.le_of_ble_eq_true rfl, Nat.le_of_ble_eq_true rfl⟩) (lm_preS hK hP hD) rfl rfl hl.1 rfl (lv_room (Nat.le_of_ble_eq_true rfl)) dX0_next_112 ⟨Nat.zero_le _, Nat.zero_le _⟩) hD hS hA (fun r_6 u_5 H locs q_4 hP hD hS => ?_)
        obtain ⟨rfl, rfl⟩ := q_4
        have hP : va_P (dC, dI) vwCl (lmW cA a0 a1 a2 ((clZ Z).1, T, K)) H := hP
        have hD : va_D A (lmW cA a0 a1 a2 ((clZ Z).1, T, K)) := hD
        refine lv_istore_n (lv' := [(1, .int (nI ((clZ Z).2))), (0, .ref a0), (2, .int (nI e0)), (3, .int (nI t))]) hx hb dX0_next_115 rfl hl (by decide) rfl (fun ls hl => ?_)
        refine lv_iload_n hx hb dX0_next_116 rfl (lv_at hl 0 rfl) ?_
        refine lv_if_ne (tgt := 127) hx hb dX0_next_117 (by decide) (fun c_7 => ?_) (fun c_7 => ?_)
        · have c_7 := mt (nI_eq (a := (clZ Z).2) (b := 0) (by omega) (by omega)).mpr c_7
          refine lv_bipush (v := (-10)) hx hb dX0_next_127 (by decide) ?_
          refine lv_iload_n hx hb dX0_next_129 rfl (lv_at hl 0 rfl) ?_
          refine lv_isub hx hb dX0_next_130 ?_
          exact W.iret (v := ((-10)) - (nI ((clZ Z).2))) hx hb hr (fun t ht hW => ⟨⟨_, ((clZ Z).1, T, K), rfl, (by rw [nxL, if_neg (by omega), nxE_0 (by omega), nxA_n (by omega)] at hQ; exact hQ), by rw [ht]; exact hP, va_K.moved hW.alike hK, hD⟩, hS.F ht⟩) hS.2.2 dX0_next_131
        · have c_7 := (nI_eq (a := (clZ Z).2) (b := 0) (by omega) (by omega)).mp c_7
          refine lv_aload_n hx hb dX0_next_120 rfl (lv_at hl 1 rfl) ?_
          refine va_get (D := (dC, dI)) (ci := 0) (v := .int (nI ((clZ Z).1 9))) (C := RX0) (T := TX0) (N := 16) hx hb hts inX0 hown hK hP 0 rfl rfl 9 (by decide) (hts _ fl_X0_32) (fun _ h9 => h9) rfl dX0_next_121 ?_
          refine lv_goto (tgt := 131) hx hb dX0_next_124 (by decide) ?_
          exact W.iret (v := nI ((clZ Z).1 9)) hx hb hr (fun t ht hW => ⟨⟨_, ((clZ Z).1, T, K), rfl, (by rw [nxL, if_neg (by omega), nxE_0 (by omega), nxA_0 (by omega)] at hQ; exact hQ), by rw [ht]; exact hP, va_K.moved hW.alike hK, hD⟩, hS.F ht⟩) hS.2.2 dX0_next_131
    · have c_1 := mt (nI_leI (a := 32768) (b := t) (by omega) (by omega)).mpr c_1
      refine lv_aload_n hx hb dX0_next_58 rfl (lv_at hl 0 rfl) ?_
      refine va_get (D := (dC, dI)) (ci := 0) (v := .int (nI (Z 3))) (C := RX0) (T := TX0) (N := 16) hx hb hts inX0 hown hK hP 0 rfl rfl 3 (by decide) (hts _ fl_X0_39) (fun _ h9 => h9) rfl dX0_next_59 ?_
      refine lv_aload_n hx hb dX0_next_62 rfl (lv_at hl 0 rfl) ?_
      refine va_get (D := (dC, dI)) (ci := 0) (v := .int (nI (Z 2))) (C := RX0) (T := TX0) (N := 16) hx hb hts inX0 hown hK hP 0 rfl rfl 2 (by decide) (hts _ fl_X0_19) (fun _ h9 => h9) rfl dX0_next_63 ?_
      refine lv_icmp_ge (tgt := 107) hx hb dX0_next_66 (by decide) (fun c_8 => ?_) (fun c_8 => ?_)
      · have c_8 := (nI_leI (a := Z 2) (b := Z 3) (by omega) (by omega)).mp c_8
        refine lv_iload_n hx hb dX0_next_107 rfl (lv_at hl 1 rfl) ?_
        refine lv_if_ne (tgt := 116) hx hb dX0_next_108 (by decide) (fun c_9 => ?_) (fun c_9 => ?_)
        · have c_9 := mt (nI_eq (a := f) (b := 0) (by omega) (by omega)).mpr c_9
          refine lv_iload_n hx hb dX0_next_116 rfl (lv_at hl 1 rfl) ?_
          refine lv_if_ne (tgt := 127) hx hb dX0_next_117 (by decide) (fun c_10 => ?_) (fun c_10 => ?_)
          · have c_10 := mt (nI_eq (a := f) (b := 0) (by omega) (by omega)).mpr c_10
            refine lv_bipush (v := (-10)) hx hb dX0_next_127 (by decide) ?_
            refine lv_iload_n hx hb dX0_next_129 rfl (lv_at hl 1 rfl) ?_
            refine lv_isub hx hb dX0_next_130 ?_
            exact W.iret (v := ((-10)) - (nI f)) hx hb hr (fun t ht hW => ⟨⟨_, (Z, T, K), rfl, (by rw [nxL, if_neg (by omega), nxE_n (by omega), nxA_n (by omega)] at hQ; exact hQ), by rw [ht]; exact hP, va_K.moved hW.alike hK, hD⟩, hS.F ht⟩) hS.2.2 dX0_next_131
          · have c_10 := (nI_eq (a := f) (b := 0) (by omega) (by omega)).mp c_10
            refine lv_aload_n hx hb dX0_next_120 rfl (lv_at hl 0 rfl) ?_
            refine va_get (D := (dC, dI)) (ci := 0) (v := .int (nI (Z 9))) (C := RX0) (T := TX0) (N := 16) hx hb hts inX0 hown hK hP 0 rfl rfl 9 (by decide) (hts _ fl_X0_32) (fun _ h9 => h9) rfl dX0_next_121 ?_
            refine lv_goto (tgt := 131) hx hb dX0_next_124 (by decide) ?_
            exact W.iret (v := nI (Z 9)) hx hb hr (fun t ht hW => ⟨⟨_, (Z, T, K), rfl, (by rw [nxL, if_neg (by omega), nxE_n (by omega), nxA_0 (by omega)] at hQ; exact hQ), by rw [ht]; exact hP, va_K.moved hW.alike hK, hD⟩, hS.F ht⟩) hS.2.2 dX0_next_131
        · have c_9 := (nI_eq (a := f) (b := 0) (by omega) (by omega)).mp c_9
          refine lv_aload_n hx hb dX0_next_111 rfl (lv_at hl 0 rfl) ?_
          refine lm_calli (va_runV (As := []) (rest := []) ⟨hx, hb, hml, hown, hts⟩ (c_closeLine l dC dI cA a0 a1 a2 H.size Z T K (show Z 10 < 2 ^ 29 by omega) (show Z 5 < 2 ^ 29 by omega)) (cwV 0 hts (gV (fun _ h => h) ml_X0_55 im_X0_closeLine se_X0_closeLine ini_X0 co_X0_closeLine) rfl rfl rfl pd_X0_closeLine ⟨Nat.le_of_ble_eq_true rfl, Nat.le_of_ble_eq_true rfl⟩) (lm_preS hK hP hD) rfl rfl hl.1 rfl (lv_room (Nat.le_of_ble_eq_true rfl)) dX0_next_112 ⟨Nat.zero_le _, Nat.zero_le _⟩) hD hS hA (fun r_13 u_12 H locs q_11 hP hD hS => ?_)
          obtain ⟨rfl, rfl⟩ := q_11
          have hP : va_P (dC, dI) vwCl (lmW cA a0 a1 a2 ((clZ Z).1, T, K)) H := hP
          have hD : va_D A (lmW cA a0 a1 a2 ((clZ Z).1, T, K)) := hD
          refine lv_istore_n (lv' := [(1, .int (nI ((clZ Z).2))), (0, .ref a0), (2, .int (nI e0)), (3, .int (nI t))]) hx hb dX0_next_115 rfl hl (by decide) rfl (fun ls hl => ?_)
          refine lv_iload_n hx hb dX0_next_116 rfl (lv_at hl 0 rfl) ?_
          refine lv_if_ne (tgt := 127) hx hb dX0_next_117 (by decide) (fun c_14 => ?_) (fun c_14 => ?_)
          · have c_14 := mt (nI_eq (a := (clZ Z).2) (b := 0) (by omega) (by omega)).mpr c_14
            refine lv_bipush (v := (-10)) hx hb dX0_next_127 (by decide) ?_
            refine lv_iload_n hx hb dX0_next_129 rfl (lv_at hl 0 rfl) ?_
            refine lv_isub hx hb dX0_next_130 ?_
            exact W.iret (v := ((-10)) - (nI ((clZ Z).2))) hx hb hr (fun t ht hW => ⟨⟨_, ((clZ Z).1, T, K), rfl, (by rw [nxL, if_neg (by omega), nxE_0 (by omega), nxA_n (by omega)] at hQ; exact hQ), by rw [ht]; exact hP, va_K.moved hW.alike hK, hD⟩, hS.F ht⟩) hS.2.2 dX0_next_131
          · have c_14 := (nI_eq (a := (clZ Z).2) (b := 0) (by omega) (by omega)).mp c_14
            refine lv_aload_n hx hb dX0_next_120 rfl (lv_at hl 1 rfl) ?_
            refine va_get (D := (dC, dI)) (ci := 0) (v := .int (nI ((clZ Z).1 9))) (C := RX0) (T := TX0) (N := 16) hx hb hts inX0 hown hK hP 0 rfl rfl 9 (by decide) (hts _ fl_X0_32) (fun _ h9 => h9) rfl dX0_next_121 ?_
            refine lv_goto (tgt := 131) hx hb dX0_next_124 (by decide) ?_
            exact W.iret (v := nI ((clZ Z).1 9)) hx hb hr (fun t ht hW => ⟨⟨_, ((clZ Z).1, T, K), rfl, (by rw [nxL, if_neg (by omega), nxE_0 (by omega), nxA_0 (by omega)] at hQ; exact hQ), by rw [ht]; exact hP, va_K.moved hW.alike hK, hD⟩, hS.F ht⟩) hS.2.2 dX0_next_131
      · have c_8 := mt (nI_leI (a := Z 2) (b := Z 3) (by omega) (by omega)).mpr c_8
        refine lv_iload_n hx hb dX0_next_69 rfl (lv_at hl 2 rfl) ?_
        refine lv_if_ne (tgt := 107) hx hb dX0_next_70 (by decide) (fun c_15 => ?_) (fun c_15 => ?_)
        · have c_15 := mt (nI_eq (a := e0) (b := 0) (by omega) (by omega)).mpr c_15
          refine lv_iload_n hx hb dX0_next_107 rfl (lv_at hl 1 rfl) ?_
          refine lv_if_ne (tgt := 116) hx hb dX0_next_108 (by decide) (fun c_16 => ?_) (fun c_16 => ?_)
          · have c_16 := mt (nI_eq (a := f) (b := 0) (by omega) (by omega)).mpr c_16
            refine lv_iload_n hx hb dX0_next_116 rfl (lv_at hl 1 rfl) ?_
            refine lv_if_ne (tgt := 127) hx hb dX0_next_117 (by decide) (fun c_17 => ?_) (fun c_17 => ?_)
            · have c_17 := mt (nI_eq (a := f) (b := 0) (by omega) (by omega)).mpr c_17
              refine lv_bipush (v := (-10)) hx hb dX0_next_127 (by decide) ?_
              refine lv_iload_n hx hb dX0_next_129 rfl (lv_at hl 1 rfl) ?_
              refine lv_isub hx hb dX0_next_130 ?_
              exact W.iret (v := ((-10)) - (nI f)) hx hb hr (fun t ht hW => ⟨⟨_, (Z, T, K), rfl, (by rw [nxL, if_neg (by omega), nxE_n (by omega), nxA_n (by omega)] at hQ; exact hQ), by rw [ht]; exact hP, va_K.moved hW.alike hK, hD⟩, hS.F ht⟩) hS.2.2 dX0_next_131
            · have c_17 := (nI_eq (a := f) (b := 0) (by omega) (by omega)).mp c_17
              refine lv_aload_n hx hb dX0_next_120 rfl (lv_at hl 0 rfl) ?_
              refine va_get (D := (dC, dI)) (ci := 0) (v := .int (nI (Z 9))) (C := RX0) (T := TX0) (N := 16) hx hb hts inX0 hown hK hP 0 rfl rfl 9 (by decide) (hts _ fl_X0_32) (fun _ h9 => h9) rfl dX0_next_121 ?_
              refine lv_goto (tgt := 131) hx hb dX0_next_124 (by decide) ?_
              exact W.iret (v := nI (Z 9)) hx hb hr (fun t ht hW => ⟨⟨_, (Z, T, K), rfl, (by rw [nxL, if_neg (by omega), nxE_n (by omega), nxA_0 (by omega)] at hQ; exact hQ), by rw [ht]; exact hP, va_K.moved hW.alike hK, hD⟩, hS.F ht⟩) hS.2.2 dX0_next_131
          · have c_16 := (nI_eq (a := f) (b := 0) (by omega) (by omega)).mp c_16
            refine lv_aload_n hx hb dX0_next_111 rfl (lv_at hl 0 rfl) ?_
            refine lm_calli (va_runV (As := []) (rest := []) ⟨hx, hb, hml, hown, hts⟩ (c_closeLine l dC dI cA a0 a1 a2 H.size Z T K (show Z 10 < 2 ^ 29 by omega) (show Z 5 < 2 ^ 29 by omega)) (cwV 0 hts (gV (fun _ h => h) ml_X0_55 im_X0_closeLine se_X0_closeLine ini_X0 co_X0_closeLine) rfl rfl rfl pd_X0_closeLine ⟨Nat.le_of_ble_eq_true rfl, Nat.le_of_ble_eq_true rfl⟩) (lm_preS hK hP hD) rfl rfl hl.1 rfl (lv_room (Nat.le_of_ble_eq_true rfl)) dX0_next_112 ⟨Nat.zero_le _, Nat.zero_le _⟩) hD hS hA (fun r_20 u_19 H locs q_18 hP hD hS => ?_)
            obtain ⟨rfl, rfl⟩ := q_18
            have hP : va_P (dC, dI) vwCl (lmW cA a0 a1 a2 ((clZ Z).1, T, K)) H := hP
            have hD : va_D A (lmW cA a0 a1 a2 ((clZ Z).1, T, K)) := hD
            refine lv_istore_n (lv' := [(1, .int (nI ((clZ Z).2))), (0, .ref a0), (2, .int (nI e0)), (3, .int (nI t))]) hx hb dX0_next_115 rfl hl (by decide) rfl (fun ls hl => ?_)
            refine lv_iload_n hx hb dX0_next_116 rfl (lv_at hl 0 rfl) ?_
            refine lv_if_ne (tgt := 127) hx hb dX0_next_117 (by decide) (fun c_21 => ?_) (fun c_21 => ?_)
            · have c_21 := mt (nI_eq (a := (clZ Z).2) (b := 0) (by omega) (by omega)).mpr c_21
              refine lv_bipush (v := (-10)) hx hb dX0_next_127 (by decide) ?_
              refine lv_iload_n hx hb dX0_next_129 rfl (lv_at hl 0 rfl) ?_
              refine lv_isub hx hb dX0_next_130 ?_
              exact W.iret (v := ((-10)) - (nI ((clZ Z).2))) hx hb hr (fun t ht hW => ⟨⟨_, ((clZ Z).1, T, K), rfl, (by rw [nxL, if_neg (by omega), nxE_0 (by omega), nxA_n (by omega)] at hQ; exact hQ), by rw [ht]; exact hP, va_K.moved hW.alike hK, hD⟩, hS.F ht⟩) hS.2.2 dX0_next_131
            · have c_21 := (nI_eq (a := (clZ Z).2) (b := 0) (by omega) (by omega)).mp c_21
              refine lv_aload_n hx hb dX0_next_120 rfl (lv_at hl 1 rfl) ?_
              refine va_get (D := (dC, dI)) (ci := 0) (v := .int (nI ((clZ Z).1 9))) (C := RX0) (T := TX0) (N := 16) hx hb hts inX0 hown hK hP 0 rfl rfl 9 (by decide) (hts _ fl_X0_32) (fun _ h9 => h9) rfl dX0_next_121 ?_
              refine lv_goto (tgt := 131) hx hb dX0_next_124 (by decide) ?_
              exact W.iret (v := nI ((clZ Z).1 9)) hx hb hr (fun t ht hW => ⟨⟨_, ((clZ Z).1, T, K), rfl, (by rw [nxL, if_neg (by omega), nxE_0 (by omega), nxA_0 (by omega)] at hQ; exact hQ), by rw [ht]; exact hP, va_K.moved hW.alike hK, hD⟩, hS.F ht⟩) hS.2.2 dX0_next_131
        · have c_15 := (nI_eq (a := e0) (b := 0) (by omega) (by omega)).mp c_15
          refine lv_iload_n hx hb dX0_next_73 rfl (lv_at hl 1 rfl) ?_
          refine lv_if_ne (tgt := 107) hx hb dX0_next_74 (by decide) (fun c_22 => ?_) (fun c_22 => ?_)
          · have c_22 := mt (nI_eq (a := f) (b := 0) (by omega) (by omega)).mpr c_22
            refine lv_iload_n hx hb dX0_next_107 rfl (lv_at hl 1 rfl) ?_
            refine lv_if_ne (tgt := 116) hx hb dX0_next_108 (by decide) (fun c_23 => ?_) (fun c_23 => ?_)
            · have c_23 := mt (nI_eq (a := f) (b := 0) (by omega) (by omega)).mpr c_23
              refine lv_iload_n hx hb dX0_next_116 rfl (lv_at hl 1 rfl) ?_
              refine lv_if_ne (tgt := 127) hx hb dX0_next_117 (by decide) (fun c_24 => ?_) (fun c_24 => ?_)
              · have c_24 := mt (nI_eq (a := f) (b := 0) (by omega) (by omega)).mpr c_24
                refine lv_bipush (v := (-10)) hx hb dX0_next_127 (by decide) ?_
                refine lv_iload_n hx hb dX0_next_129 rfl (lv_at hl 1 rfl) ?_
                refine lv_isub hx hb dX0_next_130 ?_
                exact W.iret (v := ((-10)) - (nI f)) hx hb hr (fun t ht hW => ⟨⟨_, (Z, T, K), rfl, (by rw [nxL, if_neg (by omega), nxE_n (by omega), nxA_n (by omega)] at hQ; exact hQ), by rw [ht]; exact hP, va_K.moved hW.alike hK, hD⟩, hS.F ht⟩) hS.2.2 dX0_next_131
              · have c_24 := (nI_eq (a := f) (b := 0) (by omega) (by omega)).mp c_24
                refine lv_aload_n hx hb dX0_next_120 rfl (lv_at hl 0 rfl) ?_
                refine va_get (D := (dC, dI)) (ci := 0) (v := .int (nI (Z 9))) (C := RX0) (T := TX0) (N := 16) hx hb hts inX0 hown hK hP 0 rfl rfl 9 (by decide) (hts _ fl_X0_32) (fun _ h9 => h9) rfl dX0_next_121 ?_
                refine lv_goto (tgt := 131) hx hb dX0_next_124 (by decide) ?_
                exact W.iret (v := nI (Z 9)) hx hb hr (fun t ht hW => ⟨⟨_, (Z, T, K), rfl, (by rw [nxL, if_neg (by omega), nxE_n (by omega), nxA_0 (by omega)] at hQ; exact hQ), by rw [ht]; exact hP, va_K.moved hW.alike hK, hD⟩, hS.F ht⟩) hS.2.2 dX0_next_131
            · have c_23 := (nI_eq (a := f) (b := 0) (by omega) (by omega)).mp c_23
              refine lv_aload_n hx hb dX0_next_111 rfl (lv_at hl 0 rfl) ?_
              refine lm_calli (va_runV (As := []) (rest := []) ⟨hx, hb, hml, hown, hts⟩ (c_closeLine l dC dI cA a0 a1 a2 H.size Z T K (show Z 10 < 2 ^ 29 by omega) (show Z 5 < 2 ^ 29 by omega)) (cwV 0 hts (gV (fun _ h => h) ml_X0_55 im_X0_closeLine se_X0_closeLine ini_X0 co_X0_closeLine) rfl rfl rfl pd_X0_closeLine ⟨Nat.le_of_ble_eq_true rfl, Nat.le_of_ble_eq_true rfl⟩) (lm_preS hK hP hD) rfl rfl hl.1 rfl (lv_room (Nat.le_of_ble_eq_true rfl)) dX0_next_112 ⟨Nat.zero_le _, Nat.zero_le _⟩) hD hS hA (fun r_27 u_26 H locs q_25 hP hD hS => ?_)
              obtain ⟨rfl, rfl⟩ := q_25
              have hP : va_P (dC, dI) vwCl (lmW cA a0 a1 a2 ((clZ Z).1, T, K)) H := hP
              have hD : va_D A (lmW cA a0 a1 a2 ((clZ Z).1, T, K)) := hD
              refine lv_istore_n (lv' := [(1, .int (nI ((clZ Z).2))), (0, .ref a0), (2, .int (nI e0)), (3, .int (nI t))]) hx hb dX0_next_115 rfl hl (by decide) rfl (fun ls hl => ?_)
              refine lv_iload_n hx hb dX0_next_116 rfl (lv_at hl 0 rfl) ?_
              refine lv_if_ne (tgt := 127) hx hb dX0_next_117 (by decide) (fun c_28 => ?_) (fun c_28 => ?_)
              · have c_28 := mt (nI_eq (a := (clZ Z).2) (b := 0) (by omega) (by omega)).mpr c_28
                refine lv_bipush (v := (-10)) hx hb dX0_next_127 (by decide) ?_
                refine lv_iload_n hx hb dX0_next_129 rfl (lv_at hl 0 rfl) ?_
                refine lv_isub hx hb dX0_next_130 ?_
                exact W.iret (v := ((-10)) - (nI ((clZ Z).2))) hx hb hr (fun t ht hW => ⟨⟨_, ((clZ Z).1, T, K), rfl, (by rw [nxL, if_neg (by omega), nxE_0 (by omega), nxA_n (by omega)] at hQ; exact hQ), by rw [ht]; exact hP, va_K.moved hW.alike hK, hD⟩, hS.F ht⟩) hS.2.2 dX0_next_131
              · have c_28 := (nI_eq (a := (clZ Z).2) (b := 0) (by omega) (by omega)).mp c_28
                refine lv_aload_n hx hb dX0_next_120 rfl (lv_at hl 1 rfl) ?_
                refine va_get (D := (dC, dI)) (ci := 0) (v := .int (nI ((clZ Z).1 9))) (C := RX0) (T := TX0) (N := 16) hx hb hts inX0 hown hK hP 0 rfl rfl 9 (by decide) (hts _ fl_X0_32) (fun _ h9 => h9) rfl dX0_next_121 ?_
                refine lv_goto (tgt := 131) hx hb dX0_next_124 (by decide) ?_
                exact W.iret (v := nI ((clZ Z).1 9)) hx hb hr (fun t ht hW => ⟨⟨_, ((clZ Z).1, T, K), rfl, (by rw [nxL, if_neg (by omega), nxE_0 (by omega), nxA_0 (by omega)] at hQ; exact hQ), by rw [ht]; exact hP, va_K.moved hW.alike hK, hD⟩, hS.F ht⟩) hS.2.2 dX0_next_131
          · have c_22 := (nI_eq (a := f) (b := 0) (by omega) (by omega)).mp c_22
            refine lv_aload_n hx hb dX0_next_77 rfl (lv_at hl 0 rfl) ?_
            refine lv_aload_n hx hb dX0_next_78 rfl (lv_at hl 0 rfl) ?_
            refine va_get (D := (dC, dI)) (ci := 0) (v := .int (nI (Z 3))) (C := RX0) (T := TX0) (N := 16) hx hb hts inX0 hown hK hP 0 rfl rfl 3 (by decide) (hts _ fl_X0_39) (fun _ h9 => h9) rfl dX0_next_79 ?_
            refine vp_callSi (va_Run.run (va_runV (As := [.int (nI (Z 3))]) (rest := []) ⟨hx, hb, hml, hown, hts⟩ (c_byteAt l dC dI cA a0 a1 a2 Z T K (Z 3) (show Z 2 ≤ 32768 by omega) (show Z 3 < 2 ^ 31 by omega)) (cwV 1 hts (gV (fun _ h => h) ml_X0_28 im_X0_byteAt se_X0_byteAt ini_X0 co_X0_byteAt) rfl rfl rfl pd_X0_byteAt ⟨Nat.le_of_ble_eq_true rfl, Nat.le_of_ble_eq_true rfl⟩) (lm_preR hK hP) rfl rfl hl.1 rfl (lv_room (Nat.le_of_ble_eq_true rfl)) dX0_next_82 ⟨Nat.zero_le _, Nat.zero_le _⟩)) (fun r_29 (e_30 : r_29 = bI (gb T (Z 2) (Z 3))) => ?_)
            subst e_30
            have := gb_in T (Z 2) (Z 3)
            refine lv_bipush (v := nI 10) hx hb dX0_next_85 (by decide) ?_
            refine lv_icmp_ne (tgt := 94) hx hb dX0_next_87 (by decide) (fun c_31 => ?_) (fun c_31 => ?_)
            · have c_31 := mt (bI_eqN (by omega)).mpr c_31
              refine lv_iconst (v := nI 0) hx hb dX0_next_94 (by decide) ?_
              refine lv_istore_n (lv' := [(2, .int (nI 0)), (0, .ref a0), (1, .int (nI f)), (3, .int (nI t))]) hx hb dX0_next_95 rfl hl (by decide) rfl (fun ls hl => ?_)
              refine lv_aload_n hx hb dX0_next_96 rfl (lv_at hl 1 rfl) ?_
              have hwH := hw.kept (H1 := H) (fun a h1 h2 => hS.2.1 a h1 (fun z => h2 (hAA a z)))
              refine lm_calli (va_runV (As := []) (rest := []) ⟨hx, hb, hml, hown, hts⟩ (c_cutPiece l dC dI cA a0 a1 a2 dK dV A0 H.size Z T K (show Z 2 ≤ 32768 by omega) (show Z 4 < 65536 by omega) (show Z 10 < 2 ^ 29 by omega) (show Z 11 ≤ 1 by omega) (show Z 6 < 2 ^ 29 by omega) (show Z 14 < 2 ^ 29 by omega) (show Z 15 < 2 ^ 29 by omega) (show Z 3 < Z 2 by omega)) (cwV 0 hts (gV (fun _ h => h) ml_X0_51 im_X0_cutPiece se_X0_cutPiece ini_X0 co_X0_cutPiece) rfl rfl rfl pd_X0_cutPiece ⟨Nat.le_of_ble_eq_true rfl, Nat.le_of_ble_eq_true rfl⟩) (lm_preW hK hP hD hwH) rfl rfl hl.1 rfl (lv_room (Nat.le_of_ble_eq_true rfl)) dX0_next_97 ⟨Nat.zero_le _, Nat.zero_le _⟩) hD hS hA (fun r_34 u_33 H locs q_32 hP hD hS => ?_)
              obtain ⟨rfl, rfl⟩ := q_32
              have hP : va_P (dC, dI) vwCl (lmW cA a0 a1 a2 ((cpZ T Z K).1, T, (cpZ T Z K).2.1)) H := hP
              have hD : va_D A (lmW cA a0 a1 a2 ((cpZ T Z K).1, T, (cpZ T Z K).2.1)) := hD
              refine lv_istore_n (lv' := [(1, .int (nI ((cpZ T Z K).2.2))), (2, .int (nI 0)), (0, .ref a0), (3, .int (nI t))]) hx hb dX0_next_100 rfl hl (by decide) rfl (fun ls hl => ?_)
              refine lv_iinc (v := nI (t + 1)) (lv' := [(3, .int (nI (t + 1))), (1, .int (nI ((cpZ T Z K).2.2))), (2, .int (nI 0)), (0, .ref a0)]) hx hb dX0_next_101 hl (k := 3) rfl (by exact nI_add t 1) (by decide) rfl (fun ls hl => ?_)
              refine lv_goto (tgt := 52) hx hb dX0_next_104 (by decide) ?_
              have hc := cpZ_J (T := T) (K := K) hJ (by omega)
              have hc1 := hc.1
              have hck := hc.2.1
              unfold lmJ at hc1
              unfold lmK at hck
              have hc3 := hc.2.2.2
              rw [nxL, if_pos (by omega), if_neg (by omega)] at hQ
              refine ih (cpZ T Z K).1 (cpZ T Z K).2.1 0 (cpZ T Z K).2.2 (t + 1) ?_ hc.1 ?_ (by omega) (by omega) hc3 hQ _ _ hP hD hS _ (lv_sub hl [3, 1, 2, 0] rfl)
              · rcases Nat.eq_zero_or_pos (cpZ T Z K).2.2 with z | z
                · have := hc.2.2.1 z; omega
                · omega
              · rcases Nat.eq_zero_or_pos (cpZ T Z K).2.2 with z | z
                · have := hc.2.2.1 z; omega
                · omega
            · have c_31 := (bI_eqN (by omega)).mp c_31
              refine lv_iconst (v := nI 1) hx hb dX0_next_90 (by decide) ?_
              refine lv_goto (tgt := 95) hx hb dX0_next_91 (by decide) ?_
              refine lv_istore_n (lv' := [(2, .int (nI 1)), (0, .ref a0), (1, .int (nI f)), (3, .int (nI t))]) hx hb dX0_next_95 rfl hl (by decide) rfl (fun ls hl => ?_)
              refine lv_aload_n hx hb dX0_next_96 rfl (lv_at hl 1 rfl) ?_
              have hwH := hw.kept (H1 := H) (fun a h1 h2 => hS.2.1 a h1 (fun z => h2 (hAA a z)))
              refine lm_calli (va_runV (As := []) (rest := []) ⟨hx, hb, hml, hown, hts⟩ (c_cutPiece l dC dI cA a0 a1 a2 dK dV A0 H.size Z T K (show Z 2 ≤ 32768 by omega) (show Z 4 < 65536 by omega) (show Z 10 < 2 ^ 29 by omega) (show Z 11 ≤ 1 by omega) (show Z 6 < 2 ^ 29 by omega) (show Z 14 < 2 ^ 29 by omega) (show Z 15 < 2 ^ 29 by omega) (show Z 3 < Z 2 by omega)) (cwV 0 hts (gV (fun _ h => h) ml_X0_51 im_X0_cutPiece se_X0_cutPiece ini_X0 co_X0_cutPiece) rfl rfl rfl pd_X0_cutPiece ⟨Nat.le_of_ble_eq_true rfl, Nat.le_of_ble_eq_true rfl⟩) (lm_preW hK hP hD hwH) rfl rfl hl.1 rfl (lv_room (Nat.le_of_ble_eq_true rfl)) dX0_next_97 ⟨Nat.zero_le _, Nat.zero_le _⟩) hD hS hA (fun r_37 u_36 H locs q_35 hP hD hS => ?_)
              obtain ⟨rfl, rfl⟩ := q_35
              have hP : va_P (dC, dI) vwCl (lmW cA a0 a1 a2 ((cpZ T Z K).1, T, (cpZ T Z K).2.1)) H := hP
              have hD : va_D A (lmW cA a0 a1 a2 ((cpZ T Z K).1, T, (cpZ T Z K).2.1)) := hD
              refine lv_istore_n (lv' := [(1, .int (nI ((cpZ T Z K).2.2))), (2, .int (nI 1)), (0, .ref a0), (3, .int (nI t))]) hx hb dX0_next_100 rfl hl (by decide) rfl (fun ls hl => ?_)
              refine lv_iinc (v := nI (t + 1)) (lv' := [(3, .int (nI (t + 1))), (1, .int (nI ((cpZ T Z K).2.2))), (2, .int (nI 1)), (0, .ref a0)]) hx hb dX0_next_101 hl (k := 3) rfl (by exact nI_add t 1) (by decide) rfl (fun ls hl => ?_)
              refine lv_goto (tgt := 52) hx hb dX0_next_104 (by decide) ?_
              have hc := cpZ_J (T := T) (K := K) hJ (by omega)
              have hc1 := hc.1
              have hck := hc.2.1
              unfold lmJ at hc1
              unfold lmK at hck
              have hc3 := hc.2.2.2
              rw [nxL, if_pos (by omega), if_pos (by omega)] at hQ
              refine ih (cpZ T Z K).1 (cpZ T Z K).2.1 1 (cpZ T Z K).2.2 (t + 1) ?_ hc.1 ?_ (by omega) (by omega) hc3 hQ _ _ hP hD hS _ (lv_sub hl [3, 1, 2, 0] rfl)
              · rcases Nat.eq_zero_or_pos (cpZ T Z K).2.2 with z | z
                · have := hc.2.2.1 z; omega
                · omega
              · rcases Nat.eq_zero_or_pos (cpZ T Z K).2.2 with z | z
                · have := hc.2.2.1 z; omega
                · omega
set_option maxHeartbeats 4000000 in
set_option maxRecDepth 100000 in
theorem c_next (l : Launch) (dC : Nat → ClassId) (dI : Nat → Nat → Nat) (cA : ClassId) (a0 a1 a2 : Nat) (dK dV : Nat → Nat) (A0 : Nat → Prop) (sz : Nat) (Z : Nat → Nat) (T K : Nat → Int64)  (hI : lmI Z) (hAA : ∀ q, va_A (lmW cA a0 a1 a2 (Z, T, K)) sz q → A0 q) : Met l yX0_next wX0_next ({ frames := 7, cells := 0, slots := 0, locals := 159 }) (va_Pc [.ref a0] (fun U => lmP dC dI cA a0 a1 a2 sz (Z, T, K) U ∧ swd dK dV A0 U U.heap)) (va_Qi (fun (r : Int32) (u : lmU) => r = (nxZ T Z K).2.2 ∧ u = ((nxZ T Z K).1, T, (nxZ T Z K).2.1)) (lmB dC dI cA a0 a1 a2 (va_A (lmW cA a0 a1 a2 (Z, T, K)) sz)) (va_A (lmW cA a0 a1 a2 (Z, T, K)) sz)) 0 0 (va_A (lmW cA a0 a1 a2 (Z, T, K)) sz) := by
  refine Met.ofW (cc := cX0_next) (maxL := 4) (ret := (some .int)) (by decide) rfl ?_
  intro p e s m args below meth c s₁ B hml hv
  obtain ⟨rfl, ⟨hsz, hP, hK, hD0⟩, hw⟩ := hv
  have hx := B.exec
  have hb := B.bytes
  have hr := B.returns
  have hts : ∀ w ∈ bw, w.before _ s = true := fun w h => atoms_spec (ws := wX0_next) B.pre w (bc w h)
  have hown : s.vm.findClass RX0 = some m.cls := findClass_of_methodNamed B.named
  have hlocks := B.notSynchronized
  subst hsz
  have hD := hD0.self (sz := s.heap.size)
  generalize hAe : va_A (lmW cA a0 a1 a2 (Z, T, K)) s.heap.size = A at hD ⊢
  have hA : ∀ q : Nat, s.heap.size ≤ q → A q := fun q h => by rw [← hAe]; exact Or.inr h
  have hAA : ∀ q, A q → A0 q := fun q h => hAA q (by rw [hAe]; exact h)
  have hS : va_S A s.heap s.heap [] := va_S.rf
  have hl := lv_entry ([.ref a0]) (n := 4) (Nat.le_of_ble_eq_true rfl)
  rw [lg_entry_eq]
  generalize (lg_sl ([.ref a0]) ++ List.replicate (4 - (lg_sl ([.ref a0])).length) Slot.unset).toArray = ls at hl ⊢
  have hl : lv_has ls 4 [(0, .ref a0)] := hl
  unfold lmI at hI
  refine lv_aload_n hx hb dX0_next_0 rfl (lv_at hl 0 rfl) ?_
  refine lv_iconst (v := nI 0) hx hb dX0_next_1 (by decide) ?_
  refine va_put (D := (dC, dI)) (ci := 0) (v := .int (nI 0)) (ty := .int) (C := RX0) (T := TX0) (N := 16) hx hb hts inX0 tyX0 okX0 nmX0 hown hK hP hD hS 0 rfl rfl 9 (by decide) (hts _ fl_X0_32) (fun _ h9 => h9) rfl (by decide +kernel) rfl rfl (Nat.le_of_ble_eq_true rfl) dX0_next_2 (fun H locs hP hD hS => ?_)
  have hP : va_P (dC, dI) vwCl (lmW cA a0 a1 a2 ((zu Z 9 0), T, K)) H := hP
  have hD : va_D A (lmW cA a0 a1 a2 ((zu Z 9 0), T, K)) := hD
  refine lv_aload_n hx hb dX0_next_5 rfl (lv_at hl 0 rfl) ?_
  refine va_get (D := (dC, dI)) (ci := 0) (v := .int (nI (Z 8))) (C := RX0) (T := TX0) (N := 16) hx hb hts inX0 hown hK hP 0 rfl rfl 8 (by decide) (hts _ fl_X0_35) (fun _ h9 => h9) rfl dX0_next_6 ?_
  refine lv_if_eq (tgt := 15) hx hb dX0_next_9 (by decide) (fun c_1 => ?_) (fun c_1 => ?_)
  · have c_1 := (nI_eq (a := Z 8) (b := 0) (by omega) (by omega)).mp c_1
    refine lv_aload_n hx hb dX0_next_15 rfl (lv_at hl 0 rfl) ?_
    refine lv_aload_n hx hb dX0_next_16 rfl (lv_at hl 0 rfl) ?_
    refine lv_aload_n hx hb dX0_next_17 rfl (lv_at hl 0 rfl) ?_
    refine va_get (D := (dC, dI)) (ci := 0) (v := .int (nI (Z 3))) (C := RX0) (T := TX0) (N := 16) hx hb hts inX0 hown hK hP 0 rfl rfl 3 (by decide) (hts _ fl_X0_39) (fun _ h9 => h9) rfl dX0_next_18 ?_
    refine vp_callSi (va_Run.run (va_runV (As := [.int (nI (Z 3))]) (rest := [.ref a0]) ⟨hx, hb, hml, hown, hts⟩ (c_leftFrom l dC dI cA a0 a1 a2 (zu Z 9 0) T K (Z 3) (show Z 2 ≤ 32768 by omega) (show Z 3 < 2 ^ 30 by omega)) (cwV 1 hts (gV (fun _ h => h) ml_X0_42 im_X0_leftFrom se_X0_leftFrom ini_X0 co_X0_leftFrom) rfl rfl rfl pd_X0_leftFrom ⟨Nat.le_of_ble_eq_true rfl, Nat.le_of_ble_eq_true rfl⟩) (lm_preR hK hP) rfl rfl hl.1 rfl (lv_room (Nat.le_of_ble_eq_true rfl)) dX0_next_21 ⟨Nat.zero_le _, Nat.zero_le _⟩)) (fun r_2 (e_3 : r_2 = nI (lf T (Z 2) (Z 3))) => ?_)
    subst e_3
    have := lf_b T (Z 2) (Z 3)
    refine lm_calli (va_runV (As := [.int (nI (lf T (Z 2) (Z 3)))]) (rest := []) ⟨hx, hb, hml, hown, hts⟩ (c_pass l dC dI cA a0 a1 a2 H.size (zu Z 9 0) T K (lf T (Z 2) (Z 3)) (show Z 2 ≤ 32768 by omega) (show lf T (Z 2) (Z 3) < 2 ^ 29 by omega) (show Z 3 < 2 ^ 29 by omega)) (cwV 1 hts (gV (fun _ h => h) ml_X0_45 im_X0_pass se_X0_pass ini_X0 co_X0_pass) rfl rfl rfl pd_X0_pass ⟨Nat.le_of_ble_eq_true rfl, Nat.le_of_ble_eq_true rfl⟩) (lm_preS hK hP hD) rfl rfl hl.1 rfl (lv_room (Nat.le_of_ble_eq_true rfl)) dX0_next_24 ⟨Nat.zero_le _, Nat.zero_le _⟩) hD hS hA (fun r_6 u_5 H locs q_4 hP hD hS => ?_)
    obtain ⟨a_7, li_8, n_9, hp_10, rfl, rfl⟩ := q_4
    have hp_10 : pss T (Z 2) (lf T (Z 2) (Z 3)) (Z 3) (Z 4) 0 = (a_7, li_8, n_9) := hp_10
    have := pss_b hp_10
    have hP : va_P (dC, dI) vwCl (lmW cA a0 a1 a2 ((zu (zu (zu Z 3 a_7) 4 li_8) 9 0), T, K)) H := hP
    have hD : va_D A (lmW cA a0 a1 a2 ((zu (zu (zu Z 3 a_7) 4 li_8) 9 0), T, K)) := hD
    refine lv_pop hx hb dX0_next_27 rfl ?_
    refine lv_aload_n hx hb dX0_next_28 rfl (lv_at hl 0 rfl) ?_
    refine va_get (D := (dC, dI)) (ci := 0) (v := .int (nI a_7)) (C := RX0) (T := TX0) (N := 16) hx hb hts inX0 hown hK hP 0 rfl rfl 3 (by decide) (hts _ fl_X0_39) (fun _ h9 => h9) rfl dX0_next_29 ?_
    refine lv_aload_n hx hb dX0_next_32 rfl (lv_at hl 0 rfl) ?_
    refine va_get (D := (dC, dI)) (ci := 0) (v := .int (nI (Z 2))) (C := RX0) (T := TX0) (N := 16) hx hb hts inX0 hown hK hP 0 rfl rfl 2 (by decide) (hts _ fl_X0_19) (fun _ h9 => h9) rfl dX0_next_33 ?_
    refine lv_icmp_lt (tgt := 42) hx hb dX0_next_36 (by decide) (fun c_11 => ?_) (fun c_11 => ?_)
    · have c_11 := (nI_ltI (a := a_7) (b := Z 2) (by omega) (by omega)).mp c_11
      refine lv_aload_n hx hb dX0_next_42 rfl (lv_at hl 0 rfl) ?_
      refine lm_callv (va_runV (As := []) (rest := []) ⟨hx, hb, hml, hown, hts⟩ (c_openLine l dC dI cA a0 a1 a2 H.size (zu (zu (zu Z 3 a_7) 4 li_8) 9 0) T K  ) (cwV 0 hts (gV (fun _ h => h) ml_X0_48 im_X0_openLine se_X0_openLine ini_X0 co_X0_openLine) rfl rfl rfl pd_X0_openLine ⟨Nat.le_of_ble_eq_true rfl, Nat.le_of_ble_eq_true rfl⟩) (lm_preS hK hP hD) rfl rfl hl.1 rfl (lv_room (Nat.le_of_ble_eq_true rfl)) dX0_next_43 ⟨Nat.zero_le _, Nat.zero_le _⟩) hD hS hA (fun u_13 H locs q_12 hP hD hS => ?_)
      subst q_12
      have hP : va_P (dC, dI) vwCl (lmW cA a0 a1 a2 ((zu (zu (zu (zu (zu (zu (zu Z 3 a_7) 4 li_8) 9 0) 10 0) 11 1) 14 0) 15 0), T, K)) H := hP
      have hD : va_D A (lmW cA a0 a1 a2 ((zu (zu (zu (zu (zu (zu (zu Z 3 a_7) 4 li_8) 9 0) 10 0) 11 1) 14 0) 15 0), T, K)) := hD
      refine lv_iconst (v := nI 0) hx hb dX0_next_46 (by decide) ?_
      refine lv_istore_n (lv' := [(1, .int (nI 0)), (0, .ref a0)]) hx hb dX0_next_47 rfl hl (by decide) rfl (fun ls hl => ?_)
      refine lv_iconst (v := nI 0) hx hb dX0_next_48 (by decide) ?_
      refine lv_istore_n (lv' := [(2, .int (nI 0)), (1, .int (nI 0)), (0, .ref a0)]) hx hb dX0_next_49 rfl hl (by decide) rfl (fun ls hl => ?_)
      refine lv_iconst (v := nI 0) hx hb dX0_next_50 (by decide) ?_
      refine lv_istore_n (lv' := [(3, .int (nI 0)), (2, .int (nI 0)), (1, .int (nI 0)), (0, .ref a0)]) hx hb dX0_next_51 rfl hl (by decide) rfl (fun ls hl => ?_)
      have e2 : (zu (zu (zu (zu (zu (zu (zu Z 3 a_7) 4 li_8) 9 0) 10 0) 11 1) 14 0) 15 0) 2 = Z 2 := rfl
      have e3 : (zu (zu (zu (zu (zu (zu (zu Z 3 a_7) 4 li_8) 9 0) 10 0) 11 1) 14 0) 15 0) 3 = a_7 := rfl
      have e4 : (zu (zu (zu (zu (zu (zu (zu Z 3 a_7) 4 li_8) 9 0) 10 0) 11 1) 14 0) 15 0) 4 = li_8 := rfl
      have e5 : (zu (zu (zu (zu (zu (zu (zu Z 3 a_7) 4 li_8) 9 0) 10 0) 11 1) 14 0) 15 0) 5 = Z 5 := rfl
      have e6 : (zu (zu (zu (zu (zu (zu (zu Z 3 a_7) 4 li_8) 9 0) 10 0) 11 1) 14 0) 15 0) 6 = Z 6 := rfl
      have e10 : (zu (zu (zu (zu (zu (zu (zu Z 3 a_7) 4 li_8) 9 0) 10 0) 11 1) 14 0) 15 0) 10 = 0 := rfl
      have e11 : (zu (zu (zu (zu (zu (zu (zu Z 3 a_7) 4 li_8) 9 0) 10 0) 11 1) 14 0) 15 0) 11 = 1 := rfl
      have e14 : (zu (zu (zu (zu (zu (zu (zu Z 3 a_7) 4 li_8) 9 0) 10 0) 11 1) 14 0) 15 0) 14 = 0 := rfl
      have e15 : (zu (zu (zu (zu (zu (zu (zu Z 3 a_7) 4 li_8) 9 0) 10 0) 11 1) 14 0) 15 0) 15 = 0 := rfl
      refine k_next_52 hx hb hr hml hown hts hlocks hK hA hw hAA (fun r u => r = (nxZ T Z K).2.2 ∧ u = ((nxZ T Z K).1, T, (nxZ T Z K).2.1)) 40000 (zu (zu (zu (zu (zu (zu (zu Z 3 a_7) 4 li_8) 9 0) 10 0) 11 1) 14 0) 15 0) K 0 0 0 (by omega) (by unfold lmJ; omega) (by omega) (by omega) (by omega) (by omega) ?_ _ _ hP hD hS _ (lv_sub hl [3, 2, 1, 0] rfl)
      rw [nxZ, if_neg (by omega), nxY, hp_10, if_neg (by show ¬ Z 2 ≤ a_7; omega)]
      exact ⟨rfl, rfl⟩
    · have c_11 := mt (nI_ltI (a := a_7) (b := Z 2) (by omega) (by omega)).mpr c_11
      refine lv_bipush (v := (-2)) hx hb dX0_next_39 (by decide) ?_
      exact W.iret (v := (-2)) hx hb hr (fun t ht hW => ⟨⟨_, ((zu (zu (zu Z 3 a_7) 4 li_8) 9 0), T, K), rfl, (by rw [nxZ, if_neg (by omega), nxY, hp_10, if_pos (by show Z 2 ≤ a_7; omega)]; exact ⟨rfl, rfl⟩), by rw [ht]; exact hP, va_K.moved hW.alike hK, hD⟩, hS.F ht⟩) hS.2.2 dX0_next_41
  · have c_1 := mt (nI_eq (a := Z 8) (b := 0) (by omega) (by omega)).mpr c_1
    refine lv_bipush (v := (-2)) hx hb dX0_next_12 (by decide) ?_
    exact W.iret (v := (-2)) hx hb hr (fun t ht hW => ⟨⟨_, ((zu Z 9 0), T, K), rfl, (by rw [nxZ, if_pos (by omega)]; exact ⟨rfl, rfl⟩), by rw [ht]; exact hP, va_K.moved hW.alike hK, hD⟩, hS.F ht⟩) hS.2.2 dX0_next_14
