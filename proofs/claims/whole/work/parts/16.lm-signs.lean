/-- hasSign from place n on, with k turns at most: the constant i in steps of w -/
def hsG (i w x y z : Nat) : Nat → Nat → Bool
  | 0, _ => false
  | k + 1, n => if n + w ≤ lS.getD i 0 then (if cS i n = x ∧ (w < 2 ∨ cS i (n + 1) = y) ∧ (w < 3 ∨ cS i (n + 2) = z) then true else hsG i w x y z k (n + w)) else false
set_option maxHeartbeats 4000000 in
set_option maxRecDepth 100000 in
theorem k_hasSign_3 {p : Program} {l : Launch} {e : Env} {s : State} {m : MethodId} {args : Array Value} {below : List Frame} {meth : Method} {c : Code} (hx : p.tables.exec = Jvm.exec) (hb : c.code = cX0_hasSign) (hr : meth.sig.returnType = (some .boolean)) (hml : c.maxLocals = 6) (hown : s.vm.findClass RX0 = some m.cls) (hts : ∀ w ∈ bw, w.before args s = true) (hlocks : meth.locks = false) {dK dV : Nat → Nat} {A0 : Nat → Prop} (hw : swd dK dV A0 s s.heap) (i w x y z : Nat) (hi : i < 7) (hw1 : 0 < w) (hw3 : w ≤ 3) (P : Int32 → Prop) : ∀ (k : Nat) (n : Nat), lS.getD i 0 + 1 - n < k → n < 2 ^ 20 → P (b2i (hsG i w x y z k n)) → ∀ ls, lv_has ls 6 [(0, .ref (dK i)), (1, .int (nI w)), (2, .int (bI x)), (3, .int (bI y)), (4, .int (bI z)), (5, .int (nI n))] → W p l e (headSpec wX0_hasSign ({ frames := 4, cells := 0, slots := 0, locals := 85 })).room s m args below meth c s.heap [] 0 0 (MQ below (vp_Si P) args s 0 0 (fun _ => False)) (F0 m 3 ls []) := by
  intro k
  induction k with
  | zero => intro n hk; exact absurd hk (by omega)
  | succ k ih =>
    intro n hk hn hQ ls hl
    have hlb := lS_b i hi
    refine lv_iload hx hb dX0_hasSign_3 (lv_at hl 5 rfl) ?_
    refine lv_iload_n hx hb dX0_hasSign_5 rfl (lv_at hl 1 rfl) ?_
    refine lv_iadd hx hb dX0_hasSign_6 ?_
    refine lv_topi (fun x_1 e_2 => ?_)
    obtain rfl : x_1 = nI (n + w) := e_2.trans (nI_add n w)
    refine lv_aload_n hx hb dX0_hasSign_7 rfl (lv_at hl 0 rfl) ?_
    refine vp_callSi (va_Run.run (va_runV (As := []) (rest := [.int (nI (n + w))]) ⟨hx, hb, hml, hown, hts⟩ (cj_J0_length l dK dV A0 i hi) (cwV 0 hts (gV (fun _ h => h) ml_X0_175 im_J0_length se_J0_length ini_J0 co_J0_length) rfl rfl rfl pd_J0_length ⟨Nat.le_of_ble_eq_true rfl, Nat.le_of_ble_eq_true rfl⟩) (sw_preV hw hi) rfl rfl hl.1 rfl (lv_room (Nat.le_of_ble_eq_true rfl)) dX0_hasSign_8 ⟨Nat.zero_le _, Nat.zero_le _⟩)) (fun r_3 (e_4 : r_3 = nI (lS.getD i 0)) => ?_)
    subst e_4
    refine lv_icmp_gt (tgt := 70) hx hb dX0_hasSign_11 (by decide) (fun c_5 => ?_) (fun c_5 => ?_)
    · have c_5 := (nI_ltI (a := lS.getD i 0) (b := n + w) (by omega) (by omega)).mp c_5
      refine lv_iconst (v := nI 0) hx hb dX0_hasSign_70 (by decide) ?_
      exact W.zret (v := nI 0) hx hb hr rfl (fun t ht hW => ⟨_, rfl, (by rw [hsG, if_neg (by omega)] at hQ; exact hQ), ht⟩) (fun q h => by cases h) dX0_hasSign_71
    · have c_5 := mt (nI_ltI (a := lS.getD i 0) (b := n + w) (by omega) (by omega)).mpr c_5
      refine lv_aload_n hx hb dX0_hasSign_14 rfl (lv_at hl 0 rfl) ?_
      refine lv_iload hx hb dX0_hasSign_15 (lv_at hl 5 rfl) ?_
      refine vp_callSi (va_Run.run (va_runV (As := [.int (nI n)]) (rest := []) ⟨hx, hb, hml, hown, hts⟩ (cj_J0_charAt l dK dV A0 i n hi (by omega)) (cwV 1 hts (gV (fun _ h => h) ml_X0_179 im_J0_charAt se_J0_charAt ini_J0 co_J0_charAt) rfl rfl rfl pd_J0_charAt ⟨Nat.le_of_ble_eq_true rfl, Nat.le_of_ble_eq_true rfl⟩) (sw_preV hw hi) rfl rfl hl.1 rfl (lv_room (Nat.le_of_ble_eq_true rfl)) dX0_hasSign_17 ⟨Nat.zero_le _, Nat.zero_le _⟩)) (fun r_6 (e_7 : r_6 = nI (cS i n)) => ?_)
      subst e_7
      have := (bS_n i hi n (by omega)).2
      refine lv_iload_n hx hb dX0_hasSign_20 rfl (lv_at hl 2 rfl) ?_
      refine lv_icmp_ne (tgt := 61) hx hb dX0_hasSign_21 (by decide) (fun c_8 => ?_) (fun c_8 => ?_)
      · have c_8 := mt (bI_Neq (by omega)).mpr c_8
        refine lv_iload hx hb dX0_hasSign_61 (lv_at hl 5 rfl) ?_
        refine lv_iload_n hx hb dX0_hasSign_63 rfl (lv_at hl 1 rfl) ?_
        refine lv_iadd hx hb dX0_hasSign_64 ?_
        refine lv_topi (fun x_9 e_10 => ?_)
        obtain rfl : x_9 = nI (n + w) := e_10.trans (nI_add n w)
        refine lv_istore (lv' := [(5, .int (nI (n + w))), (0, .ref (dK i)), (1, .int (nI w)), (2, .int (bI x)), (3, .int (bI y)), (4, .int (bI z))]) hx hb dX0_hasSign_65 hl (by decide) rfl (fun ls hl => ?_)
        refine lv_goto (tgt := 3) hx hb dX0_hasSign_67 (by decide) ?_
        exact ih (n + w) (by omega) (by omega) (by rw [hsG, if_pos (by omega), if_neg (by omega)] at hQ; exact hQ) _ (lv_sub hl [1, 2, 3, 4, 5, 0] rfl)
      · have c_8 := (bI_Neq (by omega)).mp c_8
        refine lv_iload_n hx hb dX0_hasSign_24 rfl (lv_at hl 1 rfl) ?_
        refine lv_iconst (v := nI 2) hx hb dX0_hasSign_25 (by decide) ?_
        refine lv_icmp_lt (tgt := 41) hx hb dX0_hasSign_26 (by decide) (fun c_11 => ?_) (fun c_11 => ?_)
        · have c_11 := (nI_ltI (a := w) (b := 2) (by omega) (by omega)).mp c_11
          refine lv_iload_n hx hb dX0_hasSign_41 rfl (lv_at hl 1 rfl) ?_
          refine lv_iconst (v := nI 3) hx hb dX0_hasSign_42 (by decide) ?_
          refine lv_icmp_lt (tgt := 59) hx hb dX0_hasSign_43 (by decide) (fun c_12 => ?_) (fun c_12 => ?_)
          · have c_12 := (nI_ltI (a := w) (b := 3) (by omega) (by omega)).mp c_12
            refine lv_iconst (v := nI 1) hx hb dX0_hasSign_59 (by decide) ?_
            exact W.zret (v := nI 1) hx hb hr rfl (fun t ht hW => ⟨_, rfl, (by rw [hsG, if_pos (by omega), if_pos (by omega)] at hQ; exact hQ), ht⟩) (fun q h => by cases h) dX0_hasSign_60
          · have c_12 := mt (nI_ltI (a := w) (b := 3) (by omega) (by omega)).mpr c_12
            refine lv_aload_n hx hb dX0_hasSign_46 rfl (lv_at hl 0 rfl) ?_
            refine lv_iload hx hb dX0_hasSign_47 (lv_at hl 5 rfl) ?_
            refine lv_iconst (v := nI 2) hx hb dX0_hasSign_49 (by decide) ?_
            refine lv_iadd hx hb dX0_hasSign_50 ?_
            refine lv_topi (fun x_13 e_14 => ?_)
            obtain rfl : x_13 = nI (n + 2) := e_14.trans (nI_add n 2)
            refine vp_callSi (va_Run.run (va_runV (As := [.int (nI (n + 2))]) (rest := []) ⟨hx, hb, hml, hown, hts⟩ (cj_J0_charAt l dK dV A0 i (n + 2) hi (by omega)) (cwV 1 hts (gV (fun _ h => h) ml_X0_179 im_J0_charAt se_J0_charAt ini_J0 co_J0_charAt) rfl rfl rfl pd_J0_charAt ⟨Nat.le_of_ble_eq_true rfl, Nat.le_of_ble_eq_true rfl⟩) (sw_preV hw hi) rfl rfl hl.1 rfl (lv_room (Nat.le_of_ble_eq_true rfl)) dX0_hasSign_51 ⟨Nat.zero_le _, Nat.zero_le _⟩)) (fun r_15 (e_16 : r_15 = nI (cS i (n + 2))) => ?_)
            subst e_16
            have := (bS_n i hi (n + 2) (by omega)).2
            refine lv_iload hx hb dX0_hasSign_54 (lv_at hl 4 rfl) ?_
            refine lv_icmp_ne (tgt := 61) hx hb dX0_hasSign_56 (by decide) (fun c_17 => ?_) (fun c_17 => ?_)
            · have c_17 := mt (bI_Neq (by omega)).mpr c_17
              refine lv_iload hx hb dX0_hasSign_61 (lv_at hl 5 rfl) ?_
              refine lv_iload_n hx hb dX0_hasSign_63 rfl (lv_at hl 1 rfl) ?_
              refine lv_iadd hx hb dX0_hasSign_64 ?_
              refine lv_topi (fun x_18 e_19 => ?_)
              obtain rfl : x_18 = nI (n + w) := e_19.trans (nI_add n w)
              refine lv_istore (lv' := [(5, .int (nI (n + w))), (0, .ref (dK i)), (1, .int (nI w)), (2, .int (bI x)), (3, .int (bI y)), (4, .int (bI z))]) hx hb dX0_hasSign_65 hl (by decide) rfl (fun ls hl => ?_)
              refine lv_goto (tgt := 3) hx hb dX0_hasSign_67 (by decide) ?_
              exact ih (n + w) (by omega) (by omega) (by rw [hsG, if_pos (by omega), if_neg (by omega)] at hQ; exact hQ) _ (lv_sub hl [1, 2, 3, 4, 5, 0] rfl)
            · have c_17 := (bI_Neq (by omega)).mp c_17
              refine lv_iconst (v := nI 1) hx hb dX0_hasSign_59 (by decide) ?_
              exact W.zret (v := nI 1) hx hb hr rfl (fun t ht hW => ⟨_, rfl, (by rw [hsG, if_pos (by omega), if_pos (by omega)] at hQ; exact hQ), ht⟩) (fun q h => by cases h) dX0_hasSign_60
        · have c_11 := mt (nI_ltI (a := w) (b := 2) (by omega) (by omega)).mpr c_11
          refine lv_aload_n hx hb dX0_hasSign_29 rfl (lv_at hl 0 rfl) ?_
          refine lv_iload hx hb dX0_hasSign_30 (lv_at hl 5 rfl) ?_
          refine lv_iconst (v := nI 1) hx hb dX0_hasSign_32 (by decide) ?_
          refine lv_iadd hx hb dX0_hasSign_33 ?_
          refine lv_topi (fun x_20 e_21 => ?_)
          obtain rfl : x_20 = nI (n + 1) := e_21.trans (nI_add n 1)
          refine vp_callSi (va_Run.run (va_runV (As := [.int (nI (n + 1))]) (rest := []) ⟨hx, hb, hml, hown, hts⟩ (cj_J0_charAt l dK dV A0 i (n + 1) hi (by omega)) (cwV 1 hts (gV (fun _ h => h) ml_X0_179 im_J0_charAt se_J0_charAt ini_J0 co_J0_charAt) rfl rfl rfl pd_J0_charAt ⟨Nat.le_of_ble_eq_true rfl, Nat.le_of_ble_eq_true rfl⟩) (sw_preV hw hi) rfl rfl hl.1 rfl (lv_room (Nat.le_of_ble_eq_true rfl)) dX0_hasSign_34 ⟨Nat.zero_le _, Nat.zero_le _⟩)) (fun r_22 (e_23 : r_22 = nI (cS i (n + 1))) => ?_)
          subst e_23
          have := (bS_n i hi (n + 1) (by omega)).2
          refine lv_iload_n hx hb dX0_hasSign_37 rfl (lv_at hl 3 rfl) ?_
          refine lv_icmp_ne (tgt := 61) hx hb dX0_hasSign_38 (by decide) (fun c_24 => ?_) (fun c_24 => ?_)
          · have c_24 := mt (bI_Neq (by omega)).mpr c_24
            refine lv_iload hx hb dX0_hasSign_61 (lv_at hl 5 rfl) ?_
            refine lv_iload_n hx hb dX0_hasSign_63 rfl (lv_at hl 1 rfl) ?_
            refine lv_iadd hx hb dX0_hasSign_64 ?_
            refine lv_topi (fun x_25 e_26 => ?_)
            obtain rfl : x_25 = nI (n + w) := e_26.trans (nI_add n w)
            refine lv_istore (lv' := [(5, .int (nI (n + w))), (0, .ref (dK i)), (1, .int (nI w)), (2, .int (bI x)), (3, .int (bI y)), (4, .int (bI z))]) hx hb dX0_hasSign_65 hl (by decide) rfl (fun ls hl => ?_)
            refine lv_goto (tgt := 3) hx hb dX0_hasSign_67 (by decide) ?_
            exact ih (n + w) (by omega) (by omega) (by rw [hsG, if_pos (by omega), if_neg (by omega)] at hQ; exact hQ) _ (lv_sub hl [1, 2, 3, 4, 5, 0] rfl)
          · have c_24 := (bI_Neq (by omega)).mp c_24
            refine lv_iload_n hx hb dX0_hasSign_41 rfl (lv_at hl 1 rfl) ?_
            refine lv_iconst (v := nI 3) hx hb dX0_hasSign_42 (by decide) ?_
            refine lv_icmp_lt (tgt := 59) hx hb dX0_hasSign_43 (by decide) (fun c_27 => ?_) (fun c_27 => ?_)
            · have c_27 := (nI_ltI (a := w) (b := 3) (by omega) (by omega)).mp c_27
              refine lv_iconst (v := nI 1) hx hb dX0_hasSign_59 (by decide) ?_
              exact W.zret (v := nI 1) hx hb hr rfl (fun t ht hW => ⟨_, rfl, (by rw [hsG, if_pos (by omega), if_pos (by omega)] at hQ; exact hQ), ht⟩) (fun q h => by cases h) dX0_hasSign_60
            · have c_27 := mt (nI_ltI (a := w) (b := 3) (by omega) (by omega)).mpr c_27
              refine lv_aload_n hx hb dX0_hasSign_46 rfl (lv_at hl 0 rfl) ?_
              refine lv_iload hx hb dX0_hasSign_47 (lv_at hl 5 rfl) ?_
              refine lv_iconst (v := nI 2) hx hb dX0_hasSign_49 (by decide) ?_
              refine lv_iadd hx hb dX0_hasSign_50 ?_
              refine lv_topi (fun x_28 e_29 => ?_)
              obtain rfl : x_28 = nI (n + 2) := e_29.trans (nI_add n 2)
              refine vp_callSi (va_Run.run (va_runV (As := [.int (nI (n + 2))]) (rest := []) ⟨hx, hb, hml, hown, hts⟩ (cj_J0_charAt l dK dV A0 i (n + 2) hi (by omega)) (cwV 1 hts (gV (fun _ h => h) ml_X0_179 im_J0_charAt se_J0_charAt ini_J0 co_J0_charAt) rfl rfl rfl pd_J0_charAt ⟨Nat.le_of_ble_eq_true rfl, Nat.le_of_ble_eq_true rfl⟩) (sw_preV hw hi) rfl rfl hl.1 rfl (lv_room (Nat.le_of_ble_eq_true rfl)) dX0_hasSign_51 ⟨Nat.zero_le _, Nat.zero_le _⟩)) (fun r_30 (e_31 : r_30 = nI (cS i (n + 2))) => ?_)
              subst e_31
              have := (bS_n i hi (n + 2) (by omega)).2
              refine lv_iload hx hb dX0_hasSign_54 (lv_at hl 4 rfl) ?_
              refine lv_icmp_ne (tgt := 61) hx hb dX0_hasSign_56 (by decide) (fun c_32 => ?_) (fun c_32 => ?_)
              · have c_32 := mt (bI_Neq (by omega)).mpr c_32
                refine lv_iload hx hb dX0_hasSign_61 (lv_at hl 5 rfl) ?_
                refine lv_iload_n hx hb dX0_hasSign_63 rfl (lv_at hl 1 rfl) ?_
                refine lv_iadd hx hb dX0_hasSign_64 ?_
                refine lv_topi (fun x_33 e_34 => ?_)
                obtain rfl : x_33 = nI (n + w) := e_34.trans (nI_add n w)
                refine lv_istore (lv' := [(5, .int (nI (n + w))), (0, .ref (dK i)), (1, .int (nI w)), (2, .int (bI x)), (3, .int (bI y)), (4, .int (bI z))]) hx hb dX0_hasSign_65 hl (by decide) rfl (fun ls hl => ?_)
                refine lv_goto (tgt := 3) hx hb dX0_hasSign_67 (by decide) ?_
                exact ih (n + w) (by omega) (by omega) (by rw [hsG, if_pos (by omega), if_neg (by omega)] at hQ; exact hQ) _ (lv_sub hl [1, 2, 3, 4, 5, 0] rfl)
              · have c_32 := (bI_Neq (by omega)).mp c_32
                refine lv_iconst (v := nI 1) hx hb dX0_hasSign_59 (by decide) ?_
                exact W.zret (v := nI 1) hx hb hr rfl (fun t ht hW => ⟨_, rfl, (by rw [hsG, if_pos (by omega), if_pos (by omega)] at hQ; exact hQ), ht⟩) (fun q h => by cases h) dX0_hasSign_60
set_option maxHeartbeats 4000000 in
set_option maxRecDepth 100000 in
theorem c_hasSign (l : Launch) (dK dV : Nat → Nat) (A0 : Nat → Prop) (i : Nat) (w : Nat) (x : Nat) (y : Nat) (z : Nat) (hi : i < 7) (hw1 : 0 < w) (hw3 : w ≤ 3) : Met l yX0_hasSign wX0_hasSign ({ frames := 4, cells := 0, slots := 0, locals := 85 }) (va_Pc [.ref (dK i), .int (nI w), .int (bI x), .int (bI y), .int (bI z)] (fun U => swd dK dV A0 U U.heap)) (vp_Si (fun r => r = b2i (hsG i w x y z 65 0))) 0 0 (fun _ => False) := by
  refine Met.ofW (cc := cX0_hasSign) (maxL := 6) (ret := (some .boolean)) (by decide) rfl ?_
  intro p e s m args below meth c s₁ B hml hv
  obtain ⟨rfl, hw⟩ := hv
  have hx := B.exec
  have hb := B.bytes
  have hr := B.returns
  have hts : ∀ w ∈ bw, w.before _ s = true := fun w h => atoms_spec (ws := wX0_hasSign) B.pre w (bc w h)
  have hown : s.vm.findClass RX0 = some m.cls := findClass_of_methodNamed B.named
  have hlocks := B.notSynchronized
  have hl := lv_entry ([.ref (dK i), .int (nI w), .int (bI x), .int (bI y), .int (bI z)]) (n := 6) (Nat.le_of_ble_eq_true rfl)
  rw [lg_entry_eq]
  generalize (lg_sl ([.ref (dK i), .int (nI w), .int (bI x), .int (bI y), .int (bI z)]) ++ List.replicate (6 - (lg_sl ([.ref (dK i), .int (nI w), .int (bI x), .int (bI y), .int (bI z)])).length) Slot.unset).toArray = ls at hl ⊢
  have hl : lv_has ls 6 [(0, .ref (dK i)), (1, .int (nI w)), (2, .int (bI x)), (3, .int (bI y)), (4, .int (bI z))] := hl
  have hlb := lS_b i hi
  refine lv_iconst (v := nI 0) hx hb dX0_hasSign_0 (by decide) ?_
  refine lv_istore (lv' := [(5, .int (nI 0)), (0, .ref (dK i)), (1, .int (nI w)), (2, .int (bI x)), (3, .int (bI y)), (4, .int (bI z))]) hx hb dX0_hasSign_1 hl (by decide) rfl (fun ls hl => ?_)
  exact k_hasSign_3 hx hb hr hml hown hts hlocks hw i w x y z hi hw1 hw3 (fun r => r = b2i (hsG i w x y z 65 0)) 65 0 (by omega) (by decide) rfl _ (lv_sub hl [1, 2, 3, 4, 5, 0] rfl)
