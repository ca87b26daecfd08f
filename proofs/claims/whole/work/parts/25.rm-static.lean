set_option maxHeartbeats 4000000 in
set_option maxRecDepth 100000 in
theorem r_isLetter (l : Launch) (x : Nat) : Met l yX1_isLetter wX1_isLetter ({ frames := 0, cells := 0, slots := 0, locals := 0 }) (va_Pc [.int (bI x)] (fun _ => True)) (vp_Si (fun r => r = b2i (isL x))) 0 0 (fun _ => False) := by
  refine Met.ofW (cc := cX1_isLetter) (maxL := 1) (ret := (some .boolean)) (by decide) rfl ?_
  intro p e s m args below meth c s₁ B hml hv
  obtain ⟨rfl, -⟩ := hv
  have hx := B.exec
  have hb := B.bytes
  have hr := B.returns
  have hts : ∀ w ∈ bw, w.before _ s = true := fun w h => atoms_spec (ws := wX1_isLetter) B.pre w (bc w h)
  have hown : s.vm.findClass RX1 = some m.cls := findClass_of_methodNamed B.named
  have hlocks := B.notSynchronized
  have hl := lv_entry ([.int (bI x)]) (n := 1) (Nat.le_of_ble_eq_true rfl)
  rw [lg_entry_eq]
  generalize (lg_sl ([.int (bI x)]) ++ List.replicate (1 - (lg_sl ([.int (bI x)])).length) Slot.unset).toArray = ls at hl ⊢
  have hl : lv_has ls 1 [(0, .int (bI x))] := hl
  refine lv_iload_n hx hb dX1_isLetter_0 rfl (lv_at hl 0 rfl) ?_
  refine lv_bipush (v := nI 65) hx hb dX1_isLetter_1 (by decide) ?_
  refine lv_icmp_lt (tgt := 12) hx hb dX1_isLetter_3 (by decide) (fun c_1 => ?_) (fun c_1 => ?_)
  · have c_1 := (bI_ltN (k := 65) (by omega)).mp c_1
    refine lv_iload_n hx hb dX1_isLetter_12 rfl (lv_at hl 0 rfl) ?_
    refine lv_bipush (v := nI 97) hx hb dX1_isLetter_13 (by decide) ?_
    refine lv_icmp_lt (tgt := 24) hx hb dX1_isLetter_15 (by decide) (fun c_2 => ?_) (fun c_2 => ?_)
    · have c_2 := (bI_ltN (k := 97) (by omega)).mp c_2
      refine lv_iload_n hx hb dX1_isLetter_24 rfl (lv_at hl 0 rfl) ?_
      refine lv_bipush (v := nI 95) hx hb dX1_isLetter_25 (by decide) ?_
      refine lv_icmp_ne (tgt := 34) hx hb dX1_isLetter_27 (by decide) (fun c_3 => ?_) (fun c_3 => ?_)
      · have c_3 := mt (bI_eqN (k := 95) (by omega)).mpr c_3
        refine lv_iconst (v := nI 0) hx hb dX1_isLetter_34 (by decide) ?_
        exact W.zret (v := nI 0) hx hb hr rfl (fun t ht hW => ⟨_, rfl, (by rw [isL_f (by omega)]; rfl), ht⟩) (fun q h => by cases h) dX1_isLetter_35
      · have c_3 := (bI_eqN (k := 95) (by omega)).mp c_3
        refine lv_iconst (v := nI 1) hx hb dX1_isLetter_30 (by decide) ?_
        refine lv_goto (tgt := 35) hx hb dX1_isLetter_31 (by decide) ?_
        exact W.zret (v := nI 1) hx hb hr rfl (fun t ht hW => ⟨_, rfl, (by rw [isL_t (by omega)]; rfl), ht⟩) (fun q h => by cases h) dX1_isLetter_35
    · have c_2 := mt (bI_ltN (k := 97) (by omega)).mpr c_2
      refine lv_iload_n hx hb dX1_isLetter_18 rfl (lv_at hl 0 rfl) ?_
      refine lv_bipush (v := nI 122) hx hb dX1_isLetter_19 (by decide) ?_
      refine lv_icmp_le (tgt := 30) hx hb dX1_isLetter_21 (by decide) (fun c_4 => ?_) (fun c_4 => ?_)
      · have c_4 := (bI_leN (k := 122) (by omega)).mp c_4
        refine lv_iconst (v := nI 1) hx hb dX1_isLetter_30 (by decide) ?_
        refine lv_goto (tgt := 35) hx hb dX1_isLetter_31 (by decide) ?_
        exact W.zret (v := nI 1) hx hb hr rfl (fun t ht hW => ⟨_, rfl, (by rw [isL_t (by omega)]; rfl), ht⟩) (fun q h => by cases h) dX1_isLetter_35
      · have c_4 := mt (bI_leN (k := 122) (by omega)).mpr c_4
        refine lv_iload_n hx hb dX1_isLetter_24 rfl (lv_at hl 0 rfl) ?_
        refine lv_bipush (v := nI 95) hx hb dX1_isLetter_25 (by decide) ?_
        refine lv_icmp_ne (tgt := 34) hx hb dX1_isLetter_27 (by decide) (fun c_5 => ?_) (fun c_5 => ?_)
        · have c_5 := mt (bI_eqN (k := 95) (by omega)).mpr c_5
          refine lv_iconst (v := nI 0) hx hb dX1_isLetter_34 (by decide) ?_
          exact W.zret (v := nI 0) hx hb hr rfl (fun t ht hW => ⟨_, rfl, (by rw [isL_f (by omega)]; rfl), ht⟩) (fun q h => by cases h) dX1_isLetter_35
        · have c_5 := (bI_eqN (k := 95) (by omega)).mp c_5
          refine lv_iconst (v := nI 1) hx hb dX1_isLetter_30 (by decide) ?_
          refine lv_goto (tgt := 35) hx hb dX1_isLetter_31 (by decide) ?_
          exact W.zret (v := nI 1) hx hb hr rfl (fun t ht hW => ⟨_, rfl, (by rw [isL_t (by omega)]; rfl), ht⟩) (fun q h => by cases h) dX1_isLetter_35
  · have c_1 := mt (bI_ltN (k := 65) (by omega)).mpr c_1
    refine lv_iload_n hx hb dX1_isLetter_6 rfl (lv_at hl 0 rfl) ?_
    refine lv_bipush (v := nI 90) hx hb dX1_isLetter_7 (by decide) ?_
    refine lv_icmp_le (tgt := 30) hx hb dX1_isLetter_9 (by decide) (fun c_6 => ?_) (fun c_6 => ?_)
    · have c_6 := (bI_leN (k := 90) (by omega)).mp c_6
      refine lv_iconst (v := nI 1) hx hb dX1_isLetter_30 (by decide) ?_
      refine lv_goto (tgt := 35) hx hb dX1_isLetter_31 (by decide) ?_
      exact W.zret (v := nI 1) hx hb hr rfl (fun t ht hW => ⟨_, rfl, (by rw [isL_t (by omega)]; rfl), ht⟩) (fun q h => by cases h) dX1_isLetter_35
    · have c_6 := mt (bI_leN (k := 90) (by omega)).mpr c_6
      refine lv_iload_n hx hb dX1_isLetter_12 rfl (lv_at hl 0 rfl) ?_
      refine lv_bipush (v := nI 97) hx hb dX1_isLetter_13 (by decide) ?_
      refine lv_icmp_lt (tgt := 24) hx hb dX1_isLetter_15 (by decide) (fun c_7 => ?_) (fun c_7 => ?_)
      · have c_7 := (bI_ltN (k := 97) (by omega)).mp c_7
        refine lv_iload_n hx hb dX1_isLetter_24 rfl (lv_at hl 0 rfl) ?_
        refine lv_bipush (v := nI 95) hx hb dX1_isLetter_25 (by decide) ?_
        refine lv_icmp_ne (tgt := 34) hx hb dX1_isLetter_27 (by decide) (fun c_8 => ?_) (fun c_8 => ?_)
        · have c_8 := mt (bI_eqN (k := 95) (by omega)).mpr c_8
          refine lv_iconst (v := nI 0) hx hb dX1_isLetter_34 (by decide) ?_
          exact W.zret (v := nI 0) hx hb hr rfl (fun t ht hW => ⟨_, rfl, (by rw [isL_f (by omega)]; rfl), ht⟩) (fun q h => by cases h) dX1_isLetter_35
        · have c_8 := (bI_eqN (k := 95) (by omega)).mp c_8
          refine lv_iconst (v := nI 1) hx hb dX1_isLetter_30 (by decide) ?_
          refine lv_goto (tgt := 35) hx hb dX1_isLetter_31 (by decide) ?_
          exact W.zret (v := nI 1) hx hb hr rfl (fun t ht hW => ⟨_, rfl, (by rw [isL_t (by omega)]; rfl), ht⟩) (fun q h => by cases h) dX1_isLetter_35
      · have c_7 := mt (bI_ltN (k := 97) (by omega)).mpr c_7
        refine lv_iload_n hx hb dX1_isLetter_18 rfl (lv_at hl 0 rfl) ?_
        refine lv_bipush (v := nI 122) hx hb dX1_isLetter_19 (by decide) ?_
        refine lv_icmp_le (tgt := 30) hx hb dX1_isLetter_21 (by decide) (fun c_9 => ?_) (fun c_9 => ?_)
        · have c_9 := (bI_leN (k := 122) (by omega)).mp c_9
          refine lv_iconst (v := nI 1) hx hb dX1_isLetter_30 (by decide) ?_
          refine lv_goto (tgt := 35) hx hb dX1_isLetter_31 (by decide) ?_
          exact W.zret (v := nI 1) hx hb hr rfl (fun t ht hW => ⟨_, rfl, (by rw [isL_t (by omega)]; rfl), ht⟩) (fun q h => by cases h) dX1_isLetter_35
        · have c_9 := mt (bI_leN (k := 122) (by omega)).mpr c_9
          refine lv_iload_n hx hb dX1_isLetter_24 rfl (lv_at hl 0 rfl) ?_
          refine lv_bipush (v := nI 95) hx hb dX1_isLetter_25 (by decide) ?_
          refine lv_icmp_ne (tgt := 34) hx hb dX1_isLetter_27 (by decide) (fun c_10 => ?_) (fun c_10 => ?_)
          · have c_10 := mt (bI_eqN (k := 95) (by omega)).mpr c_10
            refine lv_iconst (v := nI 0) hx hb dX1_isLetter_34 (by decide) ?_
            exact W.zret (v := nI 0) hx hb hr rfl (fun t ht hW => ⟨_, rfl, (by rw [isL_f (by omega)]; rfl), ht⟩) (fun q h => by cases h) dX1_isLetter_35
          · have c_10 := (bI_eqN (k := 95) (by omega)).mp c_10
            refine lv_iconst (v := nI 1) hx hb dX1_isLetter_30 (by decide) ?_
            refine lv_goto (tgt := 35) hx hb dX1_isLetter_31 (by decide) ?_
            exact W.zret (v := nI 1) hx hb hr rfl (fun t ht hW => ⟨_, rfl, (by rw [isL_t (by omega)]; rfl), ht⟩) (fun q h => by cases h) dX1_isLetter_35
set_option maxHeartbeats 4000000 in
set_option maxRecDepth 100000 in
theorem r_isDigit (l : Launch) (x : Nat) : Met l yX1_isDigit wX1_isDigit ({ frames := 0, cells := 0, slots := 0, locals := 0 }) (va_Pc [.int (bI x)] (fun _ => True)) (vp_Si (fun r => r = b2i (isD x))) 0 0 (fun _ => False) := by
  refine Met.ofW (cc := cX1_isDigit) (maxL := 1) (ret := (some .boolean)) (by decide) rfl ?_
  intro p e s m args below meth c s₁ B hml hv
  obtain ⟨rfl, -⟩ := hv
  have hx := B.exec
  have hb := B.bytes
  have hr := B.returns
  have hts : ∀ w ∈ bw, w.before _ s = true := fun w h => atoms_spec (ws := wX1_isDigit) B.pre w (bc w h)
  have hown : s.vm.findClass RX1 = some m.cls := findClass_of_methodNamed B.named
  have hlocks := B.notSynchronized
  have hl := lv_entry ([.int (bI x)]) (n := 1) (Nat.le_of_ble_eq_true rfl)
  rw [lg_entry_eq]
  generalize (lg_sl ([.int (bI x)]) ++ List.replicate (1 - (lg_sl ([.int (bI x)])).length) Slot.unset).toArray = ls at hl ⊢
  have hl : lv_has ls 1 [(0, .int (bI x))] := hl
  refine lv_iload_n hx hb dX1_isDigit_0 rfl (lv_at hl 0 rfl) ?_
  refine lv_bipush (v := nI 48) hx hb dX1_isDigit_1 (by decide) ?_
  refine lv_icmp_lt (tgt := 16) hx hb dX1_isDigit_3 (by decide) (fun c_1 => ?_) (fun c_1 => ?_)
  · have c_1 := (bI_ltN (k := 48) (by omega)).mp c_1
    refine lv_iconst (v := nI 0) hx hb dX1_isDigit_16 (by decide) ?_
    exact W.zret (v := nI 0) hx hb hr rfl (fun t ht hW => ⟨_, rfl, (by rw [isD_f (by omega)]; rfl), ht⟩) (fun q h => by cases h) dX1_isDigit_17
  · have c_1 := mt (bI_ltN (k := 48) (by omega)).mpr c_1
    refine lv_iload_n hx hb dX1_isDigit_6 rfl (lv_at hl 0 rfl) ?_
    refine lv_bipush (v := nI 57) hx hb dX1_isDigit_7 (by decide) ?_
    refine lv_icmp_gt (tgt := 16) hx hb dX1_isDigit_9 (by decide) (fun c_2 => ?_) (fun c_2 => ?_)
    · have c_2 := (bI_Nlt (k := 57) (by omega)).mp c_2
      refine lv_iconst (v := nI 0) hx hb dX1_isDigit_16 (by decide) ?_
      exact W.zret (v := nI 0) hx hb hr rfl (fun t ht hW => ⟨_, rfl, (by rw [isD_f (by omega)]; rfl), ht⟩) (fun q h => by cases h) dX1_isDigit_17
    · have c_2 := mt (bI_Nlt (k := 57) (by omega)).mpr c_2
      refine lv_iconst (v := nI 1) hx hb dX1_isDigit_12 (by decide) ?_
      refine lv_goto (tgt := 17) hx hb dX1_isDigit_13 (by decide) ?_
      exact W.zret (v := nI 1) hx hb hr rfl (fun t ht hW => ⟨_, rfl, (by rw [isD_t (by omega)]; rfl), ht⟩) (fun q h => by cases h) dX1_isDigit_17
set_option maxHeartbeats 4000000 in
set_option maxRecDepth 100000 in
theorem r_isBlank (l : Launch) (x : Nat) : Met l yX1_isBlank wX1_isBlank ({ frames := 0, cells := 0, slots := 0, locals := 0 }) (va_Pc [.int (bI x)] (fun _ => True)) (vp_Si (fun r => r = b2i (isB x))) 0 0 (fun _ => False) := by
  refine Met.ofW (cc := cX1_isBlank) (maxL := 1) (ret := (some .boolean)) (by decide) rfl ?_
  intro p e s m args below meth c s₁ B hml hv
  obtain ⟨rfl, -⟩ := hv
  have hx := B.exec
  have hb := B.bytes
  have hr := B.returns
  have hts : ∀ w ∈ bw, w.before _ s = true := fun w h => atoms_spec (ws := wX1_isBlank) B.pre w (bc w h)
  have hown : s.vm.findClass RX1 = some m.cls := findClass_of_methodNamed B.named
  have hlocks := B.notSynchronized
  have hl := lv_entry ([.int (bI x)]) (n := 1) (Nat.le_of_ble_eq_true rfl)
  rw [lg_entry_eq]
  generalize (lg_sl ([.int (bI x)]) ++ List.replicate (1 - (lg_sl ([.int (bI x)])).length) Slot.unset).toArray = ls at hl ⊢
  have hl : lv_has ls 1 [(0, .int (bI x))] := hl
  refine lv_iload_n hx hb dX1_isBlank_0 rfl (lv_at hl 0 rfl) ?_
  refine lv_bipush (v := nI 32) hx hb dX1_isBlank_1 (by decide) ?_
  refine lv_icmp_eq (tgt := 30) hx hb dX1_isBlank_3 (by decide) (fun c_1 => ?_) (fun c_1 => ?_)
  · have c_1 := (bI_eqN (k := 32) (by omega)).mp c_1
    refine lv_iconst (v := nI 1) hx hb dX1_isBlank_30 (by decide) ?_
    refine lv_goto (tgt := 35) hx hb dX1_isBlank_31 (by decide) ?_
    exact W.zret (v := nI 1) hx hb hr rfl (fun t ht hW => ⟨_, rfl, (by rw [isB_t (by omega)]; rfl), ht⟩) (fun q h => by cases h) dX1_isBlank_35
  · have c_1 := mt (bI_eqN (k := 32) (by omega)).mpr c_1
    refine lv_iload_n hx hb dX1_isBlank_6 rfl (lv_at hl 0 rfl) ?_
    refine lv_bipush (v := nI 9) hx hb dX1_isBlank_7 (by decide) ?_
    refine lv_icmp_eq (tgt := 30) hx hb dX1_isBlank_9 (by decide) (fun c_2 => ?_) (fun c_2 => ?_)
    · have c_2 := (bI_eqN (k := 9) (by omega)).mp c_2
      refine lv_iconst (v := nI 1) hx hb dX1_isBlank_30 (by decide) ?_
      refine lv_goto (tgt := 35) hx hb dX1_isBlank_31 (by decide) ?_
      exact W.zret (v := nI 1) hx hb hr rfl (fun t ht hW => ⟨_, rfl, (by rw [isB_t (by omega)]; rfl), ht⟩) (fun q h => by cases h) dX1_isBlank_35
    · have c_2 := mt (bI_eqN (k := 9) (by omega)).mpr c_2
      refine lv_iload_n hx hb dX1_isBlank_12 rfl (lv_at hl 0 rfl) ?_
      refine lv_bipush (v := nI 11) hx hb dX1_isBlank_13 (by decide) ?_
      refine lv_icmp_eq (tgt := 30) hx hb dX1_isBlank_15 (by decide) (fun c_3 => ?_) (fun c_3 => ?_)
      · have c_3 := (bI_eqN (k := 11) (by omega)).mp c_3
        refine lv_iconst (v := nI 1) hx hb dX1_isBlank_30 (by decide) ?_
        refine lv_goto (tgt := 35) hx hb dX1_isBlank_31 (by decide) ?_
        exact W.zret (v := nI 1) hx hb hr rfl (fun t ht hW => ⟨_, rfl, (by rw [isB_t (by omega)]; rfl), ht⟩) (fun q h => by cases h) dX1_isBlank_35
      · have c_3 := mt (bI_eqN (k := 11) (by omega)).mpr c_3
        refine lv_iload_n hx hb dX1_isBlank_18 rfl (lv_at hl 0 rfl) ?_
        refine lv_bipush (v := nI 12) hx hb dX1_isBlank_19 (by decide) ?_
        refine lv_icmp_eq (tgt := 30) hx hb dX1_isBlank_21 (by decide) (fun c_4 => ?_) (fun c_4 => ?_)
        · have c_4 := (bI_eqN (k := 12) (by omega)).mp c_4
          refine lv_iconst (v := nI 1) hx hb dX1_isBlank_30 (by decide) ?_
          refine lv_goto (tgt := 35) hx hb dX1_isBlank_31 (by decide) ?_
          exact W.zret (v := nI 1) hx hb hr rfl (fun t ht hW => ⟨_, rfl, (by rw [isB_t (by omega)]; rfl), ht⟩) (fun q h => by cases h) dX1_isBlank_35
        · have c_4 := mt (bI_eqN (k := 12) (by omega)).mpr c_4
          refine lv_iload_n hx hb dX1_isBlank_24 rfl (lv_at hl 0 rfl) ?_
          refine lv_bipush (v := nI 13) hx hb dX1_isBlank_25 (by decide) ?_
          refine lv_icmp_ne (tgt := 34) hx hb dX1_isBlank_27 (by decide) (fun c_5 => ?_) (fun c_5 => ?_)
          · have c_5 := mt (bI_eqN (k := 13) (by omega)).mpr c_5
            refine lv_iconst (v := nI 0) hx hb dX1_isBlank_34 (by decide) ?_
            exact W.zret (v := nI 0) hx hb hr rfl (fun t ht hW => ⟨_, rfl, (by rw [isB_f (by omega)]; rfl), ht⟩) (fun q h => by cases h) dX1_isBlank_35
          · have c_5 := (bI_eqN (k := 13) (by omega)).mp c_5
            refine lv_iconst (v := nI 1) hx hb dX1_isBlank_30 (by decide) ?_
            refine lv_goto (tgt := 35) hx hb dX1_isBlank_31 (by decide) ?_
            exact W.zret (v := nI 1) hx hb hr rfl (fun t ht hW => ⟨_, rfl, (by rw [isB_t (by omega)]; rfl), ht⟩) (fun q h => by cases h) dX1_isBlank_35
/-- isOneOf: is x a char of the constant i, from place n on, with k turns at most -/
def ioG (i x : Nat) : Nat → Nat → Bool → Bool
  | 0, _, b => b
  | k + 1, n, b => if n < lS.getD i 0 then ioG i x k (n + 1) (b || decide (x = cS i n)) else b
set_option maxHeartbeats 4000000 in
set_option maxRecDepth 100000 in
theorem q_isOneOf_4 {p : Program} {l : Launch} {e : Env} {s : State} {m : MethodId} {args : Array Value} {below : List Frame} {meth : Method} {c : Code} (hx : p.tables.exec = Jvm.exec) (hb : c.code = cX1_isOneOf) (hr : meth.sig.returnType = (some .boolean)) (hml : c.maxLocals = 4) (hown : s.vm.findClass RX1 = some m.cls) (hts : ∀ w ∈ bw, w.before args s = true) (hlocks : meth.locks = false) {dK dV : Nat → Nat} {A0 : Nat → Prop} (hw : swd dK dV A0 s s.heap) (i x : Nat) (hi : i < 7) (P : Int32 → Prop) : ∀ (k : Nat) (n : Nat) (b : Bool), (lS.getD i 0 - n) < k → (n < 2 ^ 20) → P (b2i (ioG i x k n b)) → ∀ ls, lv_has ls 4 [(0, .int (bI x)), (1, .ref (dK i)), (2, .int (b2i b)), (3, .int (nI n))] → W p l e (headSpec wX1_isOneOf ({ frames := 4, cells := 0, slots := 0, locals := 85 })).room s m args below meth c s.heap [] 0 0 (MQ below (vp_Si P) args s 0 0 (fun _ => False)) (F0 m 4 ls []) := by
  intro k
  induction k with
  | zero => intro n b hk; exact absurd hk (by omega)
  | succ k ih =>
    intro n b hk hn hQ ls hl
    have hlb := lS_b i hi
    refine lv_iload_n hx hb dX1_isOneOf_4 rfl (lv_at hl 3 rfl) ?_
    refine lv_aload_n hx hb dX1_isOneOf_5 rfl (lv_at hl 1 rfl) ?_
    refine vp_callSi (va_Run.run (va_runV (As := []) (rest := [.int (nI n)]) ⟨hx, hb, hml, hown, hts⟩ (cj_J0_length l dK dV A0 i hi) (cwV 0 hts (gV (fun _ h => h) ml_X1_69 im_J0_length se_J0_length ini_J0 co_J0_length) rfl rfl rfl pd_J0_length ⟨Nat.le_of_ble_eq_true rfl, Nat.le_of_ble_eq_true rfl⟩) (sw_preV hw hi) rfl rfl hl.1 rfl (lv_room (Nat.le_of_ble_eq_true rfl)) dX1_isOneOf_6 ⟨Nat.zero_le _, Nat.zero_le _⟩)) (fun r_1 (e_2 : r_1 = nI (lS.getD i 0)) => ?_)
    subst e_2
    refine lv_icmp_ge (tgt := 37) hx hb dX1_isOneOf_9 (by decide) (fun c_3 => ?_) (fun c_3 => ?_)
    · have c_3 := (nI_leI (a := lS.getD i 0) (b := n) (by omega) (by omega)).mp c_3
      refine lv_iload_n hx hb dX1_isOneOf_37 rfl (lv_at hl 2 rfl) ?_
      exact W.zret (v := b2i b) hx hb hr (b2i_nar _) (fun t ht hW => ⟨_, rfl, (by rw [ioG, if_neg (by omega)] at hQ; exact hQ), ht⟩) (fun q h => by cases h) dX1_isOneOf_38
    · have c_3 := mt (nI_leI (a := lS.getD i 0) (b := n) (by omega) (by omega)).mpr c_3
      refine lv_iload_n hx hb dX1_isOneOf_12 rfl (lv_at hl 2 rfl) ?_
      refine lv_if_ne (tgt := 25) hx hb dX1_isOneOf_13 (by decide) (fun c_4 => ?_) (fun c_4 => ?_)
      · have c_4 := mt (b2i_z b).mpr c_4
        refine lv_iconst (v := nI 1) hx hb dX1_isOneOf_25 (by decide) ?_
        refine lv_goto (tgt := 30) hx hb dX1_isOneOf_26 (by decide) ?_
        refine lv_istore_n (lv' := [(2, .int (nI 1)), (0, .int (bI x)), (1, .ref (dK i)), (3, .int (nI n))]) hx hb dX1_isOneOf_30 rfl hl (by decide) rfl (fun ls hl => ?_)
        refine lv_iinc (v := nI (n + 1)) (lv' := [(3, .int (nI (n + 1))), (2, .int (nI 1)), (0, .int (bI x)), (1, .ref (dK i))]) hx hb dX1_isOneOf_31 hl (k := 3) rfl (by exact nI_add n 1) (by decide) rfl (fun ls hl => ?_)
        refine lv_goto (tgt := 4) hx hb dX1_isOneOf_34 (by decide) ?_
        exact ih (n + 1) true (by omega) (by omega) (by rw [ioG, if_pos (by omega), show (b || decide (x = cS i n)) = true by rw [show b = true by simpa using c_4, Bool.true_or]] at hQ; exact hQ) _ (lv_sub hl [2, 3, 1, 0] rfl)
      · have c_4 := (b2i_z b).mp c_4
        refine lv_iload_n hx hb dX1_isOneOf_16 rfl (lv_at hl 0 rfl) ?_
        refine lv_aload_n hx hb dX1_isOneOf_17 rfl (lv_at hl 1 rfl) ?_
        refine lv_iload_n hx hb dX1_isOneOf_18 rfl (lv_at hl 3 rfl) ?_
        refine vp_callSi (va_Run.run (va_runV (As := [.int (nI n)]) (rest := [.int (bI x)]) ⟨hx, hb, hml, hown, hts⟩ (cj_J0_charAt l dK dV A0 i n hi (by omega)) (cwV 1 hts (gV (fun _ h => h) ml_X1_75 im_J0_charAt se_J0_charAt ini_J0 co_J0_charAt) rfl rfl rfl pd_J0_charAt ⟨Nat.le_of_ble_eq_true rfl, Nat.le_of_ble_eq_true rfl⟩) (sw_preV hw hi) rfl rfl hl.1 rfl (lv_room (Nat.le_of_ble_eq_true rfl)) dX1_isOneOf_19 ⟨Nat.zero_le _, Nat.zero_le _⟩)) (fun r_5 (e_6 : r_5 = nI (cS i n)) => ?_)
        subst e_6
        have := (bS_n i hi n (by omega)).2
        refine lv_icmp_ne (tgt := 29) hx hb dX1_isOneOf_22 (by decide) (fun c_7 => ?_) (fun c_7 => ?_)
        · have c_7 := mt (bI_eqN (k := cS i n) (by omega)).mpr c_7
          refine lv_iconst (v := nI 0) hx hb dX1_isOneOf_29 (by decide) ?_
          refine lv_istore_n (lv' := [(2, .int (nI 0)), (0, .int (bI x)), (1, .ref (dK i)), (3, .int (nI n))]) hx hb dX1_isOneOf_30 rfl hl (by decide) rfl (fun ls hl => ?_)
          refine lv_iinc (v := nI (n + 1)) (lv' := [(3, .int (nI (n + 1))), (2, .int (nI 0)), (0, .int (bI x)), (1, .ref (dK i))]) hx hb dX1_isOneOf_31 hl (k := 3) rfl (by exact nI_add n 1) (by decide) rfl (fun ls hl => ?_)
          refine lv_goto (tgt := 4) hx hb dX1_isOneOf_34 (by decide) ?_
          exact ih (n + 1) false (by omega) (by omega) (by rw [ioG, if_pos (by omega), show (b || decide (x = cS i n)) = false by rw [c_4, show decide (x = cS i n) = false by simp; omega]; rfl] at hQ; exact hQ) _ (lv_sub hl [2, 3, 1, 0] rfl)
        · have c_7 := (bI_eqN (k := cS i n) (by omega)).mp c_7
          refine lv_iconst (v := nI 1) hx hb dX1_isOneOf_25 (by decide) ?_
          refine lv_goto (tgt := 30) hx hb dX1_isOneOf_26 (by decide) ?_
          refine lv_istore_n (lv' := [(2, .int (nI 1)), (0, .int (bI x)), (1, .ref (dK i)), (3, .int (nI n))]) hx hb dX1_isOneOf_30 rfl hl (by decide) rfl (fun ls hl => ?_)
          refine lv_iinc (v := nI (n + 1)) (lv' := [(3, .int (nI (n + 1))), (2, .int (nI 1)), (0, .int (bI x)), (1, .ref (dK i))]) hx hb dX1_isOneOf_31 hl (k := 3) rfl (by exact nI_add n 1) (by decide) rfl (fun ls hl => ?_)
          refine lv_goto (tgt := 4) hx hb dX1_isOneOf_34 (by decide) ?_
          exact ih (n + 1) true (by omega) (by omega) (by rw [ioG, if_pos (by omega), show (b || decide (x = cS i n)) = true by rw [show decide (x = cS i n) = true by simp; omega, Bool.or_true]] at hQ; exact hQ) _ (lv_sub hl [2, 3, 1, 0] rfl)
set_option maxHeartbeats 4000000 in
set_option maxRecDepth 100000 in
theorem r_isOneOf (l : Launch) (dK dV : Nat → Nat) (A0 : Nat → Prop) (x : Nat) (i : Nat) (hi : i < 7) : Met l yX1_isOneOf wX1_isOneOf ({ frames := 4, cells := 0, slots := 0, locals := 85 }) (va_Pc [.int (bI x), .ref (dK i)] (fun U => swd dK dV A0 U U.heap)) (vp_Si (fun r => r = b2i (ioG i x 65 0 false))) 0 0 (fun _ => False) := by
  refine Met.ofW (cc := cX1_isOneOf) (maxL := 4) (ret := (some .boolean)) (by decide) rfl ?_
  intro p e s m args below meth c s₁ B hml hv
  obtain ⟨rfl, hw⟩ := hv
  have hx := B.exec
  have hb := B.bytes
  have hr := B.returns
  have hts : ∀ w ∈ bw, w.before _ s = true := fun w h => atoms_spec (ws := wX1_isOneOf) B.pre w (bc w h)
  have hown : s.vm.findClass RX1 = some m.cls := findClass_of_methodNamed B.named
  have hlocks := B.notSynchronized
  have hl := lv_entry ([.int (bI x), .ref (dK i)]) (n := 4) (Nat.le_of_ble_eq_true rfl)
  rw [lg_entry_eq]
  generalize (lg_sl ([.int (bI x), .ref (dK i)]) ++ List.replicate (4 - (lg_sl ([.int (bI x), .ref (dK i)])).length) Slot.unset).toArray = ls at hl ⊢
  have hl : lv_has ls 4 [(0, .int (bI x)), (1, .ref (dK i))] := hl
  have hlb := lS_b i hi
  refine lv_iconst (v := nI 0) hx hb dX1_isOneOf_0 (by decide) ?_
  refine lv_istore_n (lv' := [(2, .int (nI 0)), (0, .int (bI x)), (1, .ref (dK i))]) hx hb dX1_isOneOf_1 rfl hl (by decide) rfl (fun ls hl => ?_)
  refine lv_iconst (v := nI 0) hx hb dX1_isOneOf_2 (by decide) ?_
  refine lv_istore_n (lv' := [(3, .int (nI 0)), (2, .int (nI 0)), (0, .int (bI x)), (1, .ref (dK i))]) hx hb dX1_isOneOf_3 rfl hl (by decide) rfl (fun ls hl => ?_)
  exact q_isOneOf_4 hx hb hr hml hown hts hlocks hw i x hi (fun r => r = b2i (ioG i x 65 0 false)) 65 0 false (by omega) (by decide) rfl _ (lv_sub hl [2, 3, 1, 0] rfl)
