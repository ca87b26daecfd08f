/-- next behind its loop -/
def rE1 (Y : Nat → Nat) (pl li : Nat) : Nat → Nat := zu (zu Y 2 pl) 3 li
def rSt (Y : Nat → Nat) (b : Nat) : Nat → Nat := zu (zu (zu Y 4 1) 5 b) 13 0
def rE (x1 x2 x3 x4 : Nat → Nat) (Y x5 x6 x7 x8 x9 : Nat → Nat) (g many much first en : Nat) : Int32 × rmU :=
  if 0 < many ∧ Y 6 = 20000 then ((-10) - nI 21, (rSt (rE1 Y (if en = 0 then Y 0 else x3 g + 1) (if en = 0 then Y 12 else x4 g + 1)) first, x1, x2, x3, x4, x5, x6, x7, x8, x9))
  else if 8000 < many then ((-10) - nI 21, (rSt (zu (rE1 Y (if en = 0 then Y 0 else x3 g + 1) (if en = 0 then Y 12 else x4 g + 1)) 6 (if 0 < many then Y 6 + 1 else Y 6)) much, x1, x2, x3, x4, x5, x6, x7, x8, x9))
  else (nI (Y 13), (zu (rE1 Y (if en = 0 then Y 0 else x3 g + 1) (if en = 0 then Y 12 else x4 g + 1)) 6 (if 0 < many then Y 6 + 1 else Y 6), x1, x2, x3, x4, x5, x6, x7, x8, x9))
/-- keep, where there is room -/
def rK5 (Y x5 : Nat → Nat) (many : Nat) : Nat → Nat := if many < 8000 then nu x5 (Y 13) (Y 18) else x5
def rK6 (Y x6 : Nat → Nat) (many n : Nat) : Nat → Nat := if many < 8000 then nu x6 (Y 13) n else x6
def rK9 (x2 Y x9 : Nat → Nat) (many g n : Nat) : Nat → Nat := if many < 8000 then cpG (fun i => x2 (g + i)) (Y 18) n x9 else x9
def rKY (Y : Nat → Nat) (many n : Nat) : Nat → Nat := if many < 8000 then zu (zu Y 13 (Y 13 + 1)) 18 (Y 18 + n) else Y
/-- the quotes without an end, counted -/
def rQ (Y : Nat → Nat) (n b : Nat) : Nat → Nat := if n = 1 ∧ (b = 34 ∨ b = 39) then zu Y 7 (Y 7 + 1) else Y
/-- next's loop, k turns at most -/
def rL (x1 x2 x3 x4 : Nat → Nat) : Nat → (Nat → Nat) → (Nat → Nat) → (Nat → Nat) → (Nat → Nat) → (Nat → Nat) → (Nat → Nat) → Nat → Nat → Nat → Nat → Nat → Nat → Int32 × rmU
  | 0, Y, x5, x6, x7, x8, x9, g, many, much, _, first, en => rE x1 x2 x3 x4 Y x5 x6 x7 x8 x9 g many much first en
  | k + 1, Y, x5, x6, x7, x8, x9, g, many, much, bf, first, en =>
    if ¬ (en = 0 ∧ g < Y 8) then rE x1 x2 x3 x4 Y x5 x6 x7 x8 x9 g many much first en
    else if x2 g = 10 then rL x1 x2 x3 x4 k Y x5 x6 x7 x8 x9 g many much bf first 1
    else if isB (x2 g) = true then rL x1 x2 x3 x4 k Y x5 x6 x7 x8 x9 (g + 1) many much 1 first en
    else if x2 g = 47 ∧ rb x2 (Y 8) (g + 1) = 42 then
      (match ceO x2 (Y 8) g with
      | none => ((-10) - nI 1, (rSt Y (x4 g), x1, x2, x3, x4, x5, x6, x7, x8, x9))
      | some to => rL x1 x2 x3 x4 k Y x5 x6 x7 x8 x9 to many much 1 first en)
    else if x2 g = 47 ∧ rb x2 (Y 8) (g + 1) = 47 then rL x1 x2 x3 x4 k Y x5 x6 x7 x8 x9 (lnI x2 (Y 8) g) many much 1 first en
    else if ts1 x2 (Y 8) g = 1 ∧ (x2 g = 34 ∨ x2 g = 39) ∧ 1000 < Y 7 + 1 then ((-10) - nI 21, (rSt (rQ Y (ts1 x2 (Y 8) g) (x2 g)) (x4 g), x1, x2, x3, x4, x5, x6, x7, x8, x9))
    else rL x1 x2 x3 x4 k (rKY (rQ Y (ts1 x2 (Y 8) g) (x2 g)) many (ts1 x2 (Y 8) g)) (rK5 Y x5 many) (rK6 Y x6 many (ts1 x2 (Y 8) g)) (rK6 Y x7 many (x4 g)) (rK6 Y x8 many bf) (rK9 x2 Y x9 many g (ts1 x2 (Y 8) g)) (g + ts1 x2 (Y 8) g) (many + 1) (if many = 8000 then x4 g else much) 0 (if many = 0 then x4 g else first) en
set_option maxHeartbeats 4000000 in
set_option maxRecDepth 100000 in
theorem q_next_197 {p : Program} {l : Launch} {e : Env} {s : State} {m : MethodId} {args : Array Value} {below : List Frame} {meth : Method} {c : Code} (hx : p.tables.exec = Jvm.exec) (hb : c.code = cX1_next) (hr : meth.sig.returnType = (some .int)) (hml : c.maxLocals = 10) (hown : s.vm.findClass RX1 = some m.cls) (hts : ∀ w ∈ bw, w.before args s = true) (hlocks : meth.locks = false) {dC : Nat → ClassId} {dI : Nat → Nat → Nat} {ct : Nat → ClassId} {ad : Nat → Nat} {Y x1 x2 x3 x4 x5 x6 x7 x8 x9 : Nat → Nat} (hK : va_K (dC, dI) vwCl (rmT ct) s) {H : Heap} {locs : List Loc} {Q : State → Prop} (hP : va_P (dC, dI) vwCl (rmW ct ad (Y, x1, x2, x3, x4, x5, x6, x7, x8, x9)) H) (many much first en t0 : Nat) (hlim : Y 8 ≤ 32768) (h2 : ∀ j, x2 j < 256) (kk : ∀ ls, lv_has ls 10 [(0, .ref (ad 0)), (1, .int (nI t0)), (2, .int (nI many)), (3, .int (nI much)), (5, .int (nI first)), (6, .int (nI en))] → W p l e (headSpec wX1_next ({ frames := 7, cells := 0, slots := 0, locals := 163 })).room s m args below meth c H locs 0 0 Q (F0 m 222 ls [])) : ∀ (k n : Nat), Y 8 - n < k → n < 2 ^ 30 → lnI x2 (Y 8) n = t0 → ∀ ls, lv_has ls 10 [(0, .ref (ad 0)), (1, .int (nI n)), (2, .int (nI many)), (3, .int (nI much)), (5, .int (nI first)), (6, .int (nI en))] → W p l e (headSpec wX1_next ({ frames := 7, cells := 0, slots := 0, locals := 163 })).room s m args below meth c H locs 0 0 Q (F0 m 197 ls []) := by
  intro k
  induction k with
  | zero => intro n hk; exact absurd hk (by omega)
  | succ k ih =>
    intro n hk hn hT ls hl
    refine lv_iload_n hx hb dX1_next_197 rfl (lv_at hl 1 rfl) ?_
    refine lv_aload_n hx hb dX1_next_198 rfl (lv_at hl 0 rfl) ?_
    refine va_get (D := (dC, dI)) (ci := 1) (v := .int (nI (Y 8))) (C := RX1) (T := TX1) (N := 20) hx hb hts inX1 hown hK hP 0 rfl rfl 8 (by decide) (hts _ fl_X1_107) (fun _ h9 => h9) rfl dX1_next_199 ?_
    refine lv_icmp_ge (tgt := 222) hx hb dX1_next_202 (by decide) (fun c_1 => ?_) (fun c_1 => ?_)
    · have c_1 := (nI_leI (a := Y 8) (b := n) (by omega) (by omega)).mp c_1
      have ht0 : n = t0 := by rw [← hT, lnI, if_neg (by omega)]
      subst ht0
      exact kk _ (lv_sub hl [0, 1, 2, 3, 4, 5] rfl)
    · have c_1 := mt (nI_leI (a := Y 8) (b := n) (by omega) (by omega)).mpr c_1
      refine lv_aload_n hx hb dX1_next_205 rfl (lv_at hl 0 rfl) ?_
      refine va_get (D := (dC, dI)) (ci := 1) (v := .ref (ad 2)) (C := RX1) (T := TX1) (N := 20) hx hb hts inX1 hown hK hP 0 rfl rfl 9 (by decide) (hts _ fl_X1_14) (fun _ h9 => h9) rfl dX1_next_206 ?_
      refine lv_iload_n hx hb dX1_next_209 rfl (lv_at hl 1 rfl) ?_
      refine va_bald hx hb hK hP 2 0 rfl rfl (vp_in_nI (by omega) (by decide)) dX1_next_210 ?_
      refine lv_topi (fun x_2 e_3 => ?_)
      obtain rfl : x_2 = sb_b (x2 n) := e_3.trans (by rw [nI_clamp (by omega)])
      have := h2 n
      refine lv_bipush (v := nI 10) hx hb dX1_next_211 (by decide) ?_
      refine lv_icmp_eq (tgt := 222) hx hb dX1_next_213 (by decide) (fun c_4 => ?_) (fun c_4 => ?_)
      · have c_4 := (sb_eqN (by omega) (by omega)).mp c_4
        have ht0 : n = t0 := by rw [← hT, lnI, if_neg (by omega)]
        subst ht0
        exact kk _ (lv_sub hl [0, 1, 2, 3, 4, 5] rfl)
      · have c_4 := mt (sb_eqN (by omega) (by omega)).mpr c_4
        refine lv_iinc (v := nI (n + 1)) (lv' := [(1, .int (nI (n + 1))), (0, .ref (ad 0)), (2, .int (nI many)), (3, .int (nI much)), (5, .int (nI first)), (6, .int (nI en))]) hx hb dX1_next_216 hl (k := 1) rfl (by exact nI_add n 1) (by decide) rfl (fun ls hl => ?_)
        refine lv_goto (tgt := 197) hx hb dX1_next_219 (by decide) ?_
        exact ih (n + 1) (by omega) (by omega) (by rw [← hT, show lnI x2 (Y 8) n = lnI x2 (Y 8) (n + 1) by rw [lnI, if_pos (by omega)]]) _ (lv_sub hl [1, 0, 2, 3, 4, 5] rfl)
theorem oI_ge0 {o : Option Nat} (h : ∀ k, o = some k → k < 2 ^ 31) (c : ¬ 0 ≤ oI o) : o = none := by
  cases o with
  | none => rfl
  | some k => exact absurd (nI_pos' (h k rfl)) c
set_option maxHeartbeats 4000000 in
set_option maxRecDepth 100000 in
theorem q_next_65 {p : Program} {l : Launch} {e : Env} {s : State} {m : MethodId} {args : Array Value} {below : List Frame} {meth : Method} {c : Code} (hx : p.tables.exec = Jvm.exec) (hb : c.code = cX1_next) (hr : meth.sig.returnType = (some .int)) (hml : c.maxLocals = 10) (hown : s.vm.findClass RX1 = some m.cls) (hts : ∀ w ∈ bw, w.before args s = true) (hlocks : meth.locks = false) {A : Nat → Prop} {dC : Nat → ClassId} {dI : Nat → Nat → Nat} {ct : Nat → ClassId} {ad : Nat → Nat} {x1 x2 x3 x4 : Nat → Nat} (hK : va_K (dC, dI) vwCl (rmT ct) s) (hA : ∀ q, s.heap.size ≤ q → A q) (h2 : ∀ j, x2 j < 256) {dK dV : Nat → Nat} {A0 : Nat → Prop} (hw : swd dK dV A0 s s.heap) (hAA : ∀ q, A q → A0 q)  (P : Int32 → rmU → Prop) : ∀ (k : Nat) (Y : Nat → Nat) (x5 : Nat → Nat) (x6 : Nat → Nat) (x7 : Nat → Nat) (x8 : Nat → Nat) (x9 : Nat → Nat) (g : Nat) (many : Nat) (much : Nat) (bf : Nat) (first : Nat) (en : Nat), (Y 8 - g + 1 - en) < k → (Y 8 ≤ 32768) → (g ≤ Y 8) → (Y 18 ≤ g) → (many ≤ g) → (many ≤ 8000 → Y 13 = many) → (bf ≤ 1) → (en ≤ 1) → (Y 7 ≤ 1000) → (Y 6 ≤ 20000) → (en = 1 → g < Y 8) → P (rL x1 x2 x3 x4 k Y x5 x6 x7 x8 x9 g many much bf first en).1 (rL x1 x2 x3 x4 k Y x5 x6 x7 x8 x9 g many much bf first en).2 → ∀ (H : Heap) (locs : List Loc), va_P (dC, dI) vwCl (rmW ct ad (Y, x1, x2, x3, x4, x5, x6, x7, x8, x9)) H → va_D A (rmW ct ad (Y, x1, x2, x3, x4, x5, x6, x7, x8, x9)) → va_S A s.heap H locs → ∀ ls, lv_has ls 10 [(0, .ref (ad 0)), (1, .int (nI g)), (2, .int (nI many)), (3, .int (nI much)), (4, .int (nI bf)), (5, .int (nI first)), (6, .int (nI en))] → W p l e (headSpec wX1_next ({ frames := 7, cells := 0, slots := 0, locals := 163 })).room s m args below meth c H locs 0 0 (MQ below (va_Qi P (rmB dC dI ct ad A) A) args s 0 0 A) (F0 m 65 ls []) := by
  intro k
  induction k with
  | zero => intro Y x5 x6 x7 x8 x9 g many much bf first en hk; exact absurd hk (by omega)
  | succ k ih =>
    intro Y x5 x6 x7 x8 x9 g many much bf first en hk h8 hg hsp hmg hcm hbf hen h7 h6 heg hQ H locs hP hD hS ls hl
    refine lv_iload hx hb dX1_next_65 (lv_at hl 6 rfl) ?_
    refine lv_if_ne (tgt := 357) hx hb dX1_next_67 (by decide) (fun c_1 => ?_) (fun c_1 => ?_)
    · have c_1 := mt (nI_eq (a := en) (b := 0) (by omega) (by omega)).mpr c_1
      refine lv_aload_n hx hb dX1_next_357 rfl (lv_at hl 0 rfl) ?_
      refine lv_iload hx hb dX1_next_358 (lv_at hl 6 rfl) ?_
      refine lv_if_eq (tgt := 374) hx hb dX1_next_360 (by decide) (fun c_2 => ?_) (fun c_2 => ?_)
      · have c_2 := (nI_eq (a := en) (b := 0) (by omega) (by omega)).mp c_2
        refine lv_aload_n hx hb dX1_next_374 rfl (lv_at hl 0 rfl) ?_
        refine va_get (D := (dC, dI)) (ci := 1) (v := .int (nI (Y 0))) (C := RX1) (T := TX1) (N := 20) hx hb hts inX1 hown hK hP 0 rfl rfl 0 (by decide) (hts _ fl_X1_43) (fun _ h9 => h9) rfl dX1_next_375 ?_
        refine va_put (D := (dC, dI)) (ci := 1) (v := .int (nI (Y 0))) (ty := .int) (C := RX1) (T := TX1) (N := 20) hx hb hts inX1 tyX1 okX1 nmX1 hown hK hP hD hS 0 rfl rfl 2 (by decide) (hts _ fl_X1_47) (fun _ h9 => h9) rfl (by decide +kernel) rfl rfl (Nat.le_of_ble_eq_true rfl) dX1_next_378 (fun H locs hP hD hS => ?_)
        have hP : va_P (dC, dI) vwCl (rmW ct ad ((zu Y 2 (Y 0)), x1, x2, x3, x4, x5, x6, x7, x8, x9)) H := hP
        have hD : va_D A (rmW ct ad ((zu Y 2 (Y 0)), x1, x2, x3, x4, x5, x6, x7, x8, x9)) := hD
        refine lv_aload_n hx hb dX1_next_381 rfl (lv_at hl 0 rfl) ?_
        refine lv_iload hx hb dX1_next_382 (lv_at hl 6 rfl) ?_
        refine lv_if_eq (tgt := 398) hx hb dX1_next_384 (by decide) (fun c_3 => ?_) (fun c_3 => ?_)
        · have c_3 := (nI_eq (a := en) (b := 0) (by omega) (by omega)).mp c_3
          refine lv_aload_n hx hb dX1_next_398 rfl (lv_at hl 0 rfl) ?_
          refine va_get (D := (dC, dI)) (ci := 1) (v := .int (nI (Y 12))) (C := RX1) (T := TX1) (N := 20) hx hb hts inX1 hown hK hP 0 rfl rfl 12 (by decide) (hts _ fl_X1_110) (fun _ h9 => h9) rfl dX1_next_399 ?_
          refine va_put (D := (dC, dI)) (ci := 1) (v := .int (nI (Y 12))) (ty := .int) (C := RX1) (T := TX1) (N := 20) hx hb hts inX1 tyX1 okX1 nmX1 hown hK hP hD hS 0 rfl rfl 3 (by decide) (hts _ fl_X1_50) (fun _ h9 => h9) rfl (by decide +kernel) rfl rfl (Nat.le_of_ble_eq_true rfl) dX1_next_402 (fun H locs hP hD hS => ?_)
          have hP : va_P (dC, dI) vwCl (rmW ct ad ((zu (zu Y 2 (Y 0)) 3 (Y 12)), x1, x2, x3, x4, x5, x6, x7, x8, x9)) H := hP
          have hD : va_D A (rmW ct ad ((zu (zu Y 2 (Y 0)) 3 (Y 12)), x1, x2, x3, x4, x5, x6, x7, x8, x9)) := hD
          refine lv_iload_n hx hb dX1_next_405 rfl (lv_at hl 2 rfl) ?_
          refine lv_if_le (tgt := 428) hx hb dX1_next_406 (by decide) (fun c_4 => ?_) (fun c_4 => ?_)
          · have c_4 := (nI_leI (a := many) (b := 0) (by omega) (by omega)).mp c_4
            refine lv_aload_n hx hb dX1_next_428 rfl (lv_at hl 0 rfl) ?_
            refine lv_iload_n hx hb dX1_next_429 rfl (lv_at hl 2 rfl) ?_
            refine lv_if_le (tgt := 442) hx hb dX1_next_430 (by decide) (fun c_5 => ?_) (fun c_5 => ?_)
            · have c_5 := (nI_leI (a := many) (b := 0) (by omega) (by omega)).mp c_5
              refine lv_aload_n hx hb dX1_next_442 rfl (lv_at hl 0 rfl) ?_
              refine va_get (D := (dC, dI)) (ci := 1) (v := .int (nI (Y 6))) (C := RX1) (T := TX1) (N := 20) hx hb hts inX1 hown hK hP 0 rfl rfl 6 (by decide) (hts _ fl_X1_60) (fun _ h9 => h9) rfl dX1_next_443 ?_
              refine va_put (D := (dC, dI)) (ci := 1) (v := .int (nI (Y 6))) (ty := .int) (C := RX1) (T := TX1) (N := 20) hx hb hts inX1 tyX1 okX1 nmX1 hown hK hP hD hS 0 rfl rfl 6 (by decide) (hts _ fl_X1_60) (fun _ h9 => h9) rfl (by decide +kernel) rfl rfl (Nat.le_of_ble_eq_true rfl) dX1_next_446 (fun H locs hP hD hS => ?_)
              have hP : va_P (dC, dI) vwCl (rmW ct ad ((zu (zu (zu Y 2 (Y 0)) 3 (Y 12)) 6 (Y 6)), x1, x2, x3, x4, x5, x6, x7, x8, x9)) H := hP
              have hD : va_D A (rmW ct ad ((zu (zu (zu Y 2 (Y 0)) 3 (Y 12)) 6 (Y 6)), x1, x2, x3, x4, x5, x6, x7, x8, x9)) := hD
              refine lv_iload_n hx hb dX1_next_449 rfl (lv_at hl 2 rfl) ?_
              refine lv_sipush (v := nI 8000) hx hb dX1_next_450 (by decide) ?_
              refine lv_icmp_le (tgt := 464) hx hb dX1_next_453 (by decide) (fun c_6 => ?_) (fun c_6 => ?_)
              · have c_6 := (nI_leI (a := many) (b := 8000) (by omega) (by omega)).mp c_6
                refine lv_aload_n hx hb dX1_next_464 rfl (lv_at hl 0 rfl) ?_
                refine va_get (D := (dC, dI)) (ci := 1) (v := .int (nI (Y 13))) (C := RX1) (T := TX1) (N := 20) hx hb hts inX1 hown hK hP 0 rfl rfl 13 (by decide) (hts _ fl_X1_66) (fun _ h9 => h9) rfl dX1_next_465 ?_
                have hP : va_P (dC, dI) vwCl (rmW ct ad (zu (rE1 Y (Y 0) (Y 12)) 6 (Y 6), x1, x2, x3, x4, x5, x6, x7, x8, x9)) H := by skip; exact hP
                have hD : va_D A (rmW ct ad (zu (rE1 Y (Y 0) (Y 12)) 6 (Y 6), x1, x2, x3, x4, x5, x6, x7, x8, x9)) := by skip; exact hD
                exact W.iret (v := nI (Y 13)) hx hb hr (fun t ht hW => ⟨⟨_, (zu (rE1 Y (Y 0) (Y 12)) 6 (Y 6), x1, x2, x3, x4, x5, x6, x7, x8, x9), rfl, (by rw [rL, if_pos (by omega), rE, if_neg (by omega), if_neg (by omega), if_pos (by omega), if_pos (by omega), if_neg (by omega)] at hQ; exact hQ), by rw [ht]; exact hP, va_K.moved hW.alike hK, hD⟩, hS.F ht⟩) hS.2.2 dX1_next_468
              · have c_6 := mt (nI_leI (a := many) (b := 8000) (by omega) (by omega)).mpr c_6
                omega
            · have c_5 := mt (nI_leI (a := many) (b := 0) (by omega) (by omega)).mpr c_5
              omega
          · have c_4 := mt (nI_leI (a := many) (b := 0) (by omega) (by omega)).mpr c_4
            refine lv_aload_n hx hb dX1_next_409 rfl (lv_at hl 0 rfl) ?_
            refine va_get (D := (dC, dI)) (ci := 1) (v := .int (nI (Y 6))) (C := RX1) (T := TX1) (N := 20) hx hb hts inX1 hown hK hP 0 rfl rfl 6 (by decide) (hts _ fl_X1_60) (fun _ h9 => h9) rfl dX1_next_410 ?_
            refine lv_sipush (v := nI 20000) hx hb dX1_next_413 (by decide) ?_
            refine lv_icmp_ne (tgt := 428) hx hb dX1_next_416 (by decide) (fun c_7 => ?_) (fun c_7 => ?_)
            · have c_7 := mt (nI_eq (a := Y 6) (b := 20000) (by omega) (by omega)).mpr c_7
              refine lv_aload_n hx hb dX1_next_428 rfl (lv_at hl 0 rfl) ?_
              refine lv_iload_n hx hb dX1_next_429 rfl (lv_at hl 2 rfl) ?_
              refine lv_if_le (tgt := 442) hx hb dX1_next_430 (by decide) (fun c_8 => ?_) (fun c_8 => ?_)
              · have c_8 := (nI_leI (a := many) (b := 0) (by omega) (by omega)).mp c_8
                omega
              · have c_8 := mt (nI_leI (a := many) (b := 0) (by omega) (by omega)).mpr c_8
                refine lv_aload_n hx hb dX1_next_433 rfl (lv_at hl 0 rfl) ?_
                refine va_get (D := (dC, dI)) (ci := 1) (v := .int (nI (Y 6))) (C := RX1) (T := TX1) (N := 20) hx hb hts inX1 hown hK hP 0 rfl rfl 6 (by decide) (hts _ fl_X1_60) (fun _ h9 => h9) rfl dX1_next_434 ?_
                refine lv_iconst (v := nI 1) hx hb dX1_next_437 (by decide) ?_
                refine lv_iadd hx hb dX1_next_438 ?_
                refine lv_topi (fun x_9 e_10 => ?_)
                obtain rfl : x_9 = nI (Y 6 + 1) := e_10.trans (nI_add (Y 6) 1)
                refine lv_goto (tgt := 446) hx hb dX1_next_439 (by decide) ?_
                refine va_put (D := (dC, dI)) (ci := 1) (v := .int (nI (Y 6 + 1))) (ty := .int) (C := RX1) (T := TX1) (N := 20) hx hb hts inX1 tyX1 okX1 nmX1 hown hK hP hD hS 0 rfl rfl 6 (by decide) (hts _ fl_X1_60) (fun _ h9 => h9) rfl (by decide +kernel) rfl rfl (Nat.le_of_ble_eq_true rfl) dX1_next_446 (fun H locs hP hD hS => ?_)
                have hP : va_P (dC, dI) vwCl (rmW ct ad ((zu (zu (zu Y 2 (Y 0)) 3 (Y 12)) 6 (Y 6 + 1)), x1, x2, x3, x4, x5, x6, x7, x8, x9)) H := hP
                have hD : va_D A (rmW ct ad ((zu (zu (zu Y 2 (Y 0)) 3 (Y 12)) 6 (Y 6 + 1)), x1, x2, x3, x4, x5, x6, x7, x8, x9)) := hD
                refine lv_iload_n hx hb dX1_next_449 rfl (lv_at hl 2 rfl) ?_
                refine lv_sipush (v := nI 8000) hx hb dX1_next_450 (by decide) ?_
                refine lv_icmp_le (tgt := 464) hx hb dX1_next_453 (by decide) (fun c_11 => ?_) (fun c_11 => ?_)
                · have c_11 := (nI_leI (a := many) (b := 8000) (by omega) (by omega)).mp c_11
                  refine lv_aload_n hx hb dX1_next_464 rfl (lv_at hl 0 rfl) ?_
                  refine va_get (D := (dC, dI)) (ci := 1) (v := .int (nI (Y 13))) (C := RX1) (T := TX1) (N := 20) hx hb hts inX1 hown hK hP 0 rfl rfl 13 (by decide) (hts _ fl_X1_66) (fun _ h9 => h9) rfl dX1_next_465 ?_
                  have hP : va_P (dC, dI) vwCl (rmW ct ad (zu (rE1 Y (Y 0) (Y 12)) 6 (Y 6 + 1), x1, x2, x3, x4, x5, x6, x7, x8, x9)) H := by skip; exact hP
                  have hD : va_D A (rmW ct ad (zu (rE1 Y (Y 0) (Y 12)) 6 (Y 6 + 1), x1, x2, x3, x4, x5, x6, x7, x8, x9)) := by skip; exact hD
                  exact W.iret (v := nI (Y 13)) hx hb hr (fun t ht hW => ⟨⟨_, (zu (rE1 Y (Y 0) (Y 12)) 6 (Y 6 + 1), x1, x2, x3, x4, x5, x6, x7, x8, x9), rfl, (by rw [rL, if_pos (by omega), rE, if_neg (by omega), if_neg (by omega), if_pos (by omega), if_pos (by omega), if_pos (by omega)] at hQ; exact hQ), by rw [ht]; exact hP, va_K.moved hW.alike hK, hD⟩, hS.F ht⟩) hS.2.2 dX1_next_468
                · have c_11 := mt (nI_leI (a := many) (b := 8000) (by omega) (by omega)).mpr c_11
                  refine lv_aload_n hx hb dX1_next_456 rfl (lv_at hl 0 rfl) ?_
                  refine lv_bipush (v := nI 21) hx hb dX1_next_457 (by decide) ?_
                  refine lv_iload_n hx hb dX1_next_459 rfl (lv_at hl 3 rfl) ?_
                  refine rm_calli (va_runV (As := [.int (nI 21), .int (nI much)]) (rest := []) ⟨hx, hb, hml, hown, hts⟩ (r_stop l dC dI ct ad H.size (zu (zu (zu Y 2 (Y 0)) 3 (Y 12)) 6 (Y 6 + 1)) x1 x2 x3 x4 x5 x6 x7 x8 x9 21 much) (cwV 2 hts (gV (fun _ h => h) ml_X1_126 im_X1_stop se_X1_stop ini_X1 co_X1_stop) rfl rfl rfl pd_X1_stop ⟨Nat.le_of_ble_eq_true rfl, Nat.le_of_ble_eq_true rfl⟩) (rm_preS hK hP hD) rfl rfl hl.1 rfl (lv_room (Nat.le_of_ble_eq_true rfl)) dX1_next_460 ⟨Nat.zero_le _, Nat.zero_le _⟩) hD hS hA (fun r_14 u_13 H locs q_12 hP hD hS => ?_)
                  obtain ⟨rfl, rfl⟩ := q_12
                  have hP : va_P (dC, dI) vwCl (rmW ct ad ((zu (zu (zu (zu (zu (zu Y 2 (Y 0)) 3 (Y 12)) 4 1) 5 much) 6 (Y 6 + 1)) 13 0), x1, x2, x3, x4, x5, x6, x7, x8, x9)) H := hP
                  have hD : va_D A (rmW ct ad ((zu (zu (zu (zu (zu (zu Y 2 (Y 0)) 3 (Y 12)) 4 1) 5 much) 6 (Y 6 + 1)) 13 0), x1, x2, x3, x4, x5, x6, x7, x8, x9)) := hD
                  have hP : va_P (dC, dI) vwCl (rmW ct ad (rSt (zu (rE1 Y (Y 0) (Y 12)) 6 (Y 6 + 1)) much, x1, x2, x3, x4, x5, x6, x7, x8, x9)) H := by skip; exact hP
                  have hD : va_D A (rmW ct ad (rSt (zu (rE1 Y (Y 0) (Y 12)) 6 (Y 6 + 1)) much, x1, x2, x3, x4, x5, x6, x7, x8, x9)) := by skip; exact hD
                  exact W.iret (v := (-10) - nI 21) hx hb hr (fun t ht hW => ⟨⟨_, (rSt (zu (rE1 Y (Y 0) (Y 12)) 6 (Y 6 + 1)) much, x1, x2, x3, x4, x5, x6, x7, x8, x9), rfl, (by rw [rL, if_pos (by omega), rE, if_neg (by omega), if_pos (by omega), if_pos (by omega), if_pos (by omega), if_pos (by omega)] at hQ; exact hQ), by rw [ht]; exact hP, va_K.moved hW.alike hK, hD⟩, hS.F ht⟩) hS.2.2 dX1_next_463
            · have c_7 := (nI_eq (a := Y 6) (b := 20000) (by omega) (by omega)).mp c_7
              refine lv_aload_n hx hb dX1_next_419 rfl (lv_at hl 0 rfl) ?_
              refine lv_bipush (v := nI 21) hx hb dX1_next_420 (by decide) ?_
              refine lv_iload hx hb dX1_next_422 (lv_at hl 5 rfl) ?_
              refine rm_calli (va_runV (As := [.int (nI 21), .int (nI first)]) (rest := []) ⟨hx, hb, hml, hown, hts⟩ (r_stop l dC dI ct ad H.size (zu (zu Y 2 (Y 0)) 3 (Y 12)) x1 x2 x3 x4 x5 x6 x7 x8 x9 21 first) (cwV 2 hts (gV (fun _ h => h) ml_X1_126 im_X1_stop se_X1_stop ini_X1 co_X1_stop) rfl rfl rfl pd_X1_stop ⟨Nat.le_of_ble_eq_true rfl, Nat.le_of_ble_eq_true rfl⟩) (rm_preS hK hP hD) rfl rfl hl.1 rfl (lv_room (Nat.le_of_ble_eq_true rfl)) dX1_next_424 ⟨Nat.zero_le _, Nat.zero_le _⟩) hD hS hA (fun r_17 u_16 H locs q_15 hP hD hS => ?_)
              obtain ⟨rfl, rfl⟩ := q_15
              have hP : va_P (dC, dI) vwCl (rmW ct ad ((zu (zu (zu (zu (zu Y 2 (Y 0)) 3 (Y 12)) 4 1) 5 first) 13 0), x1, x2, x3, x4, x5, x6, x7, x8, x9)) H := hP
              have hD : va_D A (rmW ct ad ((zu (zu (zu (zu (zu Y 2 (Y 0)) 3 (Y 12)) 4 1) 5 first) 13 0), x1, x2, x3, x4, x5, x6, x7, x8, x9)) := hD
              have hP : va_P (dC, dI) vwCl (rmW ct ad (rSt (rE1 Y (Y 0) (Y 12)) first, x1, x2, x3, x4, x5, x6, x7, x8, x9)) H := by skip; exact hP
              have hD : va_D A (rmW ct ad (rSt (rE1 Y (Y 0) (Y 12)) first, x1, x2, x3, x4, x5, x6, x7, x8, x9)) := by skip; exact hD
              exact W.iret (v := (-10) - nI 21) hx hb hr (fun t ht hW => ⟨⟨_, (rSt (rE1 Y (Y 0) (Y 12)) first, x1, x2, x3, x4, x5, x6, x7, x8, x9), rfl, (by rw [rL, if_pos (by omega), rE, if_pos (by omega), if_pos (by omega), if_pos (by omega)] at hQ; exact hQ), by rw [ht]; exact hP, va_K.moved hW.alike hK, hD⟩, hS.F ht⟩) hS.2.2 dX1_next_427
        · have c_3 := mt (nI_eq (a := en) (b := 0) (by omega) (by omega)).mpr c_3
          omega
      · have c_2 := mt (nI_eq (a := en) (b := 0) (by omega) (by omega)).mpr c_2
        refine lv_aload_n hx hb dX1_next_363 rfl (lv_at hl 0 rfl) ?_
        refine va_get (D := (dC, dI)) (ci := 1) (v := .ref (ad 3)) (C := RX1) (T := TX1) (N := 20) hx hb hts inX1 hown hK hP 0 rfl rfl 10 (by decide) (hts _ fl_X1_17) (fun _ h9 => h9) rfl dX1_next_364 ?_
        refine lv_iload_n hx hb dX1_next_367 rfl (lv_at hl 1 rfl) ?_
        refine va_iald hx hb hK hP 3 1 rfl rfl (vp_in_nI (by omega) (by decide)) dX1_next_368 ?_
        refine lv_topi (fun x_18 e_19 => ?_)
        obtain rfl : x_18 = nI (x3 g) := e_19.trans (by rw [nI_clamp (by omega)])
        refine lv_iconst (v := nI 1) hx hb dX1_next_369 (by decide) ?_
        refine lv_iadd hx hb dX1_next_370 ?_
        refine lv_topi (fun x_20 e_21 => ?_)
        obtain rfl : x_20 = nI (x3 g + 1) := e_21.trans (nI_add (x3 g) 1)
        refine lv_goto (tgt := 378) hx hb dX1_next_371 (by decide) ?_
        refine va_put (D := (dC, dI)) (ci := 1) (v := .int (nI (x3 g + 1))) (ty := .int) (C := RX1) (T := TX1) (N := 20) hx hb hts inX1 tyX1 okX1 nmX1 hown hK hP hD hS 0 rfl rfl 2 (by decide) (hts _ fl_X1_47) (fun _ h9 => h9) rfl (by decide +kernel) rfl rfl (Nat.le_of_ble_eq_true rfl) dX1_next_378 (fun H locs hP hD hS => ?_)
        have hP : va_P (dC, dI) vwCl (rmW ct ad ((zu Y 2 (x3 g + 1)), x1, x2, x3, x4, x5, x6, x7, x8, x9)) H := hP
        have hD : va_D A (rmW ct ad ((zu Y 2 (x3 g + 1)), x1, x2, x3, x4, x5, x6, x7, x8, x9)) := hD
        refine lv_aload_n hx hb dX1_next_381 rfl (lv_at hl 0 rfl) ?_
        refine lv_iload hx hb dX1_next_382 (lv_at hl 6 rfl) ?_
        refine lv_if_eq (tgt := 398) hx hb dX1_next_384 (by decide) (fun c_22 => ?_) (fun c_22 => ?_)
        · have c_22 := (nI_eq (a := en) (b := 0) (by omega) (by omega)).mp c_22
          omega
        · have c_22 := mt (nI_eq (a := en) (b := 0) (by omega) (by omega)).mpr c_22
          refine lv_aload_n hx hb dX1_next_387 rfl (lv_at hl 0 rfl) ?_
          refine va_get (D := (dC, dI)) (ci := 1) (v := .ref (ad 4)) (C := RX1) (T := TX1) (N := 20) hx hb hts inX1 hown hK hP 0 rfl rfl 11 (by decide) (hts _ fl_X1_21) (fun _ h9 => h9) rfl dX1_next_388 ?_
          refine lv_iload_n hx hb dX1_next_391 rfl (lv_at hl 1 rfl) ?_
          refine va_iald hx hb hK hP 4 1 rfl rfl (vp_in_nI (by omega) (by decide)) dX1_next_392 ?_
          refine lv_topi (fun x_23 e_24 => ?_)
          obtain rfl : x_23 = nI (x4 g) := e_24.trans (by rw [nI_clamp (by omega)])
          refine lv_iconst (v := nI 1) hx hb dX1_next_393 (by decide) ?_
          refine lv_iadd hx hb dX1_next_394 ?_
          refine lv_topi (fun x_25 e_26 => ?_)
          obtain rfl : x_25 = nI (x4 g + 1) := e_26.trans (nI_add (x4 g) 1)
          refine lv_goto (tgt := 402) hx hb dX1_next_395 (by decide) ?_
          refine va_put (D := (dC, dI)) (ci := 1) (v := .int (nI (x4 g + 1))) (ty := .int) (C := RX1) (T := TX1) (N := 20) hx hb hts inX1 tyX1 okX1 nmX1 hown hK hP hD hS 0 rfl rfl 3 (by decide) (hts _ fl_X1_50) (fun _ h9 => h9) rfl (by decide +kernel) rfl rfl (Nat.le_of_ble_eq_true rfl) dX1_next_402 (fun H locs hP hD hS => ?_)
          have hP : va_P (dC, dI) vwCl (rmW ct ad ((zu (zu Y 2 (x3 g + 1)) 3 (x4 g + 1)), x1, x2, x3, x4, x5, x6, x7, x8, x9)) H := hP
          have hD : va_D A (rmW ct ad ((zu (zu Y 2 (x3 g + 1)) 3 (x4 g + 1)), x1, x2, x3, x4, x5, x6, x7, x8, x9)) := hD
          refine lv_iload_n hx hb dX1_next_405 rfl (lv_at hl 2 rfl) ?_
          refine lv_if_le (tgt := 428) hx hb dX1_next_406 (by decide) (fun c_27 => ?_) (fun c_27 => ?_)
          · have c_27 := (nI_leI (a := many) (b := 0) (by omega) (by omega)).mp c_27
            refine lv_aload_n hx hb dX1_next_428 rfl (lv_at hl 0 rfl) ?_
            refine lv_iload_n hx hb dX1_next_429 rfl (lv_at hl 2 rfl) ?_
            refine lv_if_le (tgt := 442) hx hb dX1_next_430 (by decide) (fun c_28 => ?_) (fun c_28 => ?_)
            · have c_28 := (nI_leI (a := many) (b := 0) (by omega) (by omega)).mp c_28
              refine lv_aload_n hx hb dX1_next_442 rfl (lv_at hl 0 rfl) ?_
              refine va_get (D := (dC, dI)) (ci := 1) (v := .int (nI (Y 6))) (C := RX1) (T := TX1) (N := 20) hx hb hts inX1 hown hK hP 0 rfl rfl 6 (by decide) (hts _ fl_X1_60) (fun _ h9 => h9) rfl dX1_next_443 ?_
              refine va_put (D := (dC, dI)) (ci := 1) (v := .int (nI (Y 6))) (ty := .int) (C := RX1) (T := TX1) (N := 20) hx hb hts inX1 tyX1 okX1 nmX1 hown hK hP hD hS 0 rfl rfl 6 (by decide) (hts _ fl_X1_60) (fun _ h9 => h9) rfl (by decide +kernel) rfl rfl (Nat.le_of_ble_eq_true rfl) dX1_next_446 (fun H locs hP hD hS => ?_)
              have hP : va_P (dC, dI) vwCl (rmW ct ad ((zu (zu (zu Y 2 (x3 g + 1)) 3 (x4 g + 1)) 6 (Y 6)), x1, x2, x3, x4, x5, x6, x7, x8, x9)) H := hP
              have hD : va_D A (rmW ct ad ((zu (zu (zu Y 2 (x3 g + 1)) 3 (x4 g + 1)) 6 (Y 6)), x1, x2, x3, x4, x5, x6, x7, x8, x9)) := hD
              refine lv_iload_n hx hb dX1_next_449 rfl (lv_at hl 2 rfl) ?_
              refine lv_sipush (v := nI 8000) hx hb dX1_next_450 (by decide) ?_
              refine lv_icmp_le (tgt := 464) hx hb dX1_next_453 (by decide) (fun c_29 => ?_) (fun c_29 => ?_)
              · have c_29 := (nI_leI (a := many) (b := 8000) (by omega) (by omega)).mp c_29
                refine lv_aload_n hx hb dX1_next_464 rfl (lv_at hl 0 rfl) ?_
                refine va_get (D := (dC, dI)) (ci := 1) (v := .int (nI (Y 13))) (C := RX1) (T := TX1) (N := 20) hx hb hts inX1 hown hK hP 0 rfl rfl 13 (by decide) (hts _ fl_X1_66) (fun _ h9 => h9) rfl dX1_next_465 ?_
                have hP : va_P (dC, dI) vwCl (rmW ct ad (zu (rE1 Y (x3 g + 1) (x4 g + 1)) 6 (Y 6), x1, x2, x3, x4, x5, x6, x7, x8, x9)) H := by skip; exact hP
                have hD : va_D A (rmW ct ad (zu (rE1 Y (x3 g + 1) (x4 g + 1)) 6 (Y 6), x1, x2, x3, x4, x5, x6, x7, x8, x9)) := by skip; exact hD
                exact W.iret (v := nI (Y 13)) hx hb hr (fun t ht hW => ⟨⟨_, (zu (rE1 Y (x3 g + 1) (x4 g + 1)) 6 (Y 6), x1, x2, x3, x4, x5, x6, x7, x8, x9), rfl, (by rw [rL, if_pos (by omega), rE, if_neg (by omega), if_neg (by omega), if_neg (by omega), if_neg (by omega), if_neg (by omega)] at hQ; exact hQ), by rw [ht]; exact hP, va_K.moved hW.alike hK, hD⟩, hS.F ht⟩) hS.2.2 dX1_next_468
              · have c_29 := mt (nI_leI (a := many) (b := 8000) (by omega) (by omega)).mpr c_29
                omega
            · have c_28 := mt (nI_leI (a := many) (b := 0) (by omega) (by omega)).mpr c_28
              omega
          · have c_27 := mt (nI_leI (a := many) (b := 0) (by omega) (by omega)).mpr c_27
            refine lv_aload_n hx hb dX1_next_409 rfl (lv_at hl 0 rfl) ?_
            refine va_get (D := (dC, dI)) (ci := 1) (v := .int (nI (Y 6))) (C := RX1) (T := TX1) (N := 20) hx hb hts inX1 hown hK hP 0 rfl rfl 6 (by decide) (hts _ fl_X1_60) (fun _ h9 => h9) rfl dX1_next_410 ?_
            refine lv_sipush (v := nI 20000) hx hb dX1_next_413 (by decide) ?_
            refine lv_icmp_ne (tgt := 428) hx hb dX1_next_416 (by decide) (fun c_30 => ?_) (fun c_30 => ?_)
            · have c_30 := mt (nI_eq (a := Y 6) (b := 20000) (by omega) (by omega)).mpr c_30
              refine lv_aload_n hx hb dX1_next_428 rfl (lv_at hl 0 rfl) ?_
              refine lv_iload_n hx hb dX1_next_429 rfl (lv_at hl 2 rfl) ?_
              refine lv_if_le (tgt := 442) hx hb dX1_next_430 (by decide) (fun c_31 => ?_) (fun c_31 => ?_)
              · have c_31 := (nI_leI (a := many) (b := 0) (by omega) (by omega)).mp c_31
                omega
              · have c_31 := mt (nI_leI (a := many) (b := 0) (by omega) (by omega)).mpr c_31
                refine lv_aload_n hx hb dX1_next_433 rfl (lv_at hl 0 rfl) ?_
                refine va_get (D := (dC, dI)) (ci := 1) (v := .int (nI (Y 6))) (C := RX1) (T := TX1) (N := 20) hx hb hts inX1 hown hK hP 0 rfl rfl 6 (by decide) (hts _ fl_X1_60) (fun _ h9 => h9) rfl dX1_next_434 ?_
                refine lv_iconst (v := nI 1) hx hb dX1_next_437 (by decide) ?_
                refine lv_iadd hx hb dX1_next_438 ?_
                refine lv_topi (fun x_32 e_33 => ?_)
                obtain rfl : x_32 = nI (Y 6 + 1) := e_33.trans (nI_add (Y 6) 1)
                refine lv_goto (tgt := 446) hx hb dX1_next_439 (by decide) ?_
                refine va_put (D := (dC, dI)) (ci := 1) (v := .int (nI (Y 6 + 1))) (ty := .int) (C := RX1) (T := TX1) (N := 20) hx hb hts inX1 tyX1 okX1 nmX1 hown hK hP hD hS 0 rfl rfl 6 (by decide) (hts _ fl_X1_60) (fun _ h9 => h9) rfl (by decide +kernel) rfl rfl (Nat.le_of_ble_eq_true rfl) dX1_next_446 (fun H locs hP hD hS => ?_)
                have hP : va_P (dC, dI) vwCl (rmW ct ad ((zu (zu (zu Y 2 (x3 g + 1)) 3 (x4 g + 1)) 6 (Y 6 + 1)), x1, x2, x3, x4, x5, x6, x7, x8, x9)) H := hP
                have hD : va_D A (rmW ct ad ((zu (zu (zu Y 2 (x3 g + 1)) 3 (x4 g + 1)) 6 (Y 6 + 1)), x1, x2, x3, x4, x5, x6, x7, x8, x9)) := hD
                refine lv_iload_n hx hb dX1_next_449 rfl (lv_at hl 2 rfl) ?_
                refine lv_sipush (v := nI 8000) hx hb dX1_next_450 (by decide) ?_
                refine lv_icmp_le (tgt := 464) hx hb dX1_next_453 (by decide) (fun c_34 => ?_) (fun c_34 => ?_)
                · have c_34 := (nI_leI (a := many) (b := 8000) (by omega) (by omega)).mp c_34
                  refine lv_aload_n hx hb dX1_next_464 rfl (lv_at hl 0 rfl) ?_
                  refine va_get (D := (dC, dI)) (ci := 1) (v := .int (nI (Y 13))) (C := RX1) (T := TX1) (N := 20) hx hb hts inX1 hown hK hP 0 rfl rfl 13 (by decide) (hts _ fl_X1_66) (fun _ h9 => h9) rfl dX1_next_465 ?_
                  have hP : va_P (dC, dI) vwCl (rmW ct ad (zu (rE1 Y (x3 g + 1) (x4 g + 1)) 6 (Y 6 + 1), x1, x2, x3, x4, x5, x6, x7, x8, x9)) H := by skip; exact hP
                  have hD : va_D A (rmW ct ad (zu (rE1 Y (x3 g + 1) (x4 g + 1)) 6 (Y 6 + 1), x1, x2, x3, x4, x5, x6, x7, x8, x9)) := by skip; exact hD
                  exact W.iret (v := nI (Y 13)) hx hb hr (fun t ht hW => ⟨⟨_, (zu (rE1 Y (x3 g + 1) (x4 g + 1)) 6 (Y 6 + 1), x1, x2, x3, x4, x5, x6, x7, x8, x9), rfl, (by rw [rL, if_pos (by omega), rE, if_neg (by omega), if_neg (by omega), if_neg (by omega), if_neg (by omega), if_pos (by omega)] at hQ; exact hQ), by rw [ht]; exact hP, va_K.moved hW.alike hK, hD⟩, hS.F ht⟩) hS.2.2 dX1_next_468
                · have c_34 := mt (nI_leI (a := many) (b := 8000) (by omega) (by omega)).mpr c_34
                  refine lv_aload_n hx hb dX1_next_456 rfl (lv_at hl 0 rfl) ?_
                  refine lv_bipush (v := nI 21) hx hb dX1_next_457 (by decide) ?_
                  refine lv_iload_n hx hb dX1_next_459 rfl (lv_at hl 3 rfl) ?_
                  refine rm_calli (va_runV (As := [.int (nI 21), .int (nI much)]) (rest := []) ⟨hx, hb, hml, hown, hts⟩ (r_stop l dC dI ct ad H.size (zu (zu (zu Y 2 (x3 g + 1)) 3 (x4 g + 1)) 6 (Y 6 + 1)) x1 x2 x3 x4 x5 x6 x7 x8 x9 21 much) (cwV 2 hts (gV (fun _ h => h) ml_X1_126 im_X1_stop se_X1_stop ini_X1 co_X1_stop) rfl rfl rfl pd_X1_stop ⟨Nat.le_of_ble_eq_true rfl, Nat.le_of_ble_eq_true rfl⟩) (rm_preS hK hP hD) rfl rfl hl.1 rfl (lv_room (Nat.le_of_ble_eq_true rfl)) dX1_next_460 ⟨Nat.zero_le _, Nat.zero_le _⟩) hD hS hA (fun r_37 u_36 H locs q_35 hP hD hS => ?_)
                  obtain ⟨rfl, rfl⟩ := q_35
                  have hP : va_P (dC, dI) vwCl (rmW ct ad ((zu (zu (zu (zu (zu (zu Y 2 (x3 g + 1)) 3 (x4 g + 1)) 4 1) 5 much) 6 (Y 6 + 1)) 13 0), x1, x2, x3, x4, x5, x6, x7, x8, x9)) H := hP
                  have hD : va_D A (rmW ct ad ((zu (zu (zu (zu (zu (zu Y 2 (x3 g + 1)) 3 (x4 g + 1)) 4 1) 5 much) 6 (Y 6 + 1)) 13 0), x1, x2, x3, x4, x5, x6, x7, x8, x9)) := hD
                  have hP : va_P (dC, dI) vwCl (rmW ct ad (rSt (zu (rE1 Y (x3 g + 1) (x4 g + 1)) 6 (Y 6 + 1)) much, x1, x2, x3, x4, x5, x6, x7, x8, x9)) H := by skip; exact hP
                  have hD : va_D A (rmW ct ad (rSt (zu (rE1 Y (x3 g + 1) (x4 g + 1)) 6 (Y 6 + 1)) much, x1, x2, x3, x4, x5, x6, x7, x8, x9)) := by skip; exact hD
                  exact W.iret (v := (-10) - nI 21) hx hb hr (fun t ht hW => ⟨⟨_, (rSt (zu (rE1 Y (x3 g + 1) (x4 g + 1)) 6 (Y 6 + 1)) much, x1, x2, x3, x4, x5, x6, x7, x8, x9), rfl, (by rw [rL, if_pos (by omega), rE, if_neg (by omega), if_pos (by omega), if_neg (by omega), if_neg (by omega), if_pos (by omega)] at hQ; exact hQ), by rw [ht]; exact hP, va_K.moved hW.alike hK, hD⟩, hS.F ht⟩) hS.2.2 dX1_next_463
            · have c_30 := (nI_eq (a := Y 6) (b := 20000) (by omega) (by omega)).mp c_30
              refine lv_aload_n hx hb dX1_next_419 rfl (lv_at hl 0 rfl) ?_
              refine lv_bipush (v := nI 21) hx hb dX1_next_420 (by decide) ?_
              refine lv_iload hx hb dX1_next_422 (lv_at hl 5 rfl) ?_
              refine rm_calli (va_runV (As := [.int (nI 21), .int (nI first)]) (rest := []) ⟨hx, hb, hml, hown, hts⟩ (r_stop l dC dI ct ad H.size (zu (zu Y 2 (x3 g + 1)) 3 (x4 g + 1)) x1 x2 x3 x4 x5 x6 x7 x8 x9 21 first) (cwV 2 hts (gV (fun _ h => h) ml_X1_126 im_X1_stop se_X1_stop ini_X1 co_X1_stop) rfl rfl rfl pd_X1_stop ⟨Nat.le_of_ble_eq_true rfl, Nat.le_of_ble_eq_true rfl⟩) (rm_preS hK hP hD) rfl rfl hl.1 rfl (lv_room (Nat.le_of_ble_eq_true rfl)) dX1_next_424 ⟨Nat.zero_le _, Nat.zero_le _⟩) hD hS hA (fun r_40 u_39 H locs q_38 hP hD hS => ?_)
              obtain ⟨rfl, rfl⟩ := q_38
              have hP : va_P (dC, dI) vwCl (rmW ct ad ((zu (zu (zu (zu (zu Y 2 (x3 g + 1)) 3 (x4 g + 1)) 4 1) 5 first) 13 0), x1, x2, x3, x4, x5, x6, x7, x8, x9)) H := hP
              have hD : va_D A (rmW ct ad ((zu (zu (zu (zu (zu Y 2 (x3 g + 1)) 3 (x4 g + 1)) 4 1) 5 first) 13 0), x1, x2, x3, x4, x5, x6, x7, x8, x9)) := hD
              have hP : va_P (dC, dI) vwCl (rmW ct ad (rSt (rE1 Y (x3 g + 1) (x4 g + 1)) first, x1, x2, x3, x4, x5, x6, x7, x8, x9)) H := by skip; exact hP
              have hD : va_D A (rmW ct ad (rSt (rE1 Y (x3 g + 1) (x4 g + 1)) first, x1, x2, x3, x4, x5, x6, x7, x8, x9)) := by skip; exact hD
              exact W.iret (v := (-10) - nI 21) hx hb hr (fun t ht hW => ⟨⟨_, (rSt (rE1 Y (x3 g + 1) (x4 g + 1)) first, x1, x2, x3, x4, x5, x6, x7, x8, x9), rfl, (by rw [rL, if_pos (by omega), rE, if_pos (by omega), if_neg (by omega), if_neg (by omega)] at hQ; exact hQ), by rw [ht]; exact hP, va_K.moved hW.alike hK, hD⟩, hS.F ht⟩) hS.2.2 dX1_next_427
    · have c_1 := (nI_eq (a := en) (b := 0) (by omega) (by omega)).mp c_1
      refine lv_iload_n hx hb dX1_next_70 rfl (lv_at hl 1 rfl) ?_
      refine lv_aload_n hx hb dX1_next_71 rfl (lv_at hl 0 rfl) ?_
      refine va_get (D := (dC, dI)) (ci := 1) (v := .int (nI (Y 8))) (C := RX1) (T := TX1) (N := 20) hx hb hts inX1 hown hK hP 0 rfl rfl 8 (by decide) (hts _ fl_X1_107) (fun _ h9 => h9) rfl dX1_next_72 ?_
      refine lv_icmp_ge (tgt := 357) hx hb dX1_next_75 (by decide) (fun c_41 => ?_) (fun c_41 => ?_)
      · have c_41 := (nI_leI (a := Y 8) (b := g) (by omega) (by omega)).mp c_41
        refine lv_aload_n hx hb dX1_next_357 rfl (lv_at hl 0 rfl) ?_
        refine lv_iload hx hb dX1_next_358 (lv_at hl 6 rfl) ?_
        refine lv_if_eq (tgt := 374) hx hb dX1_next_360 (by decide) (fun c_42 => ?_) (fun c_42 => ?_)
        · have c_42 := (nI_eq (a := en) (b := 0) (by omega) (by omega)).mp c_42
          refine lv_aload_n hx hb dX1_next_374 rfl (lv_at hl 0 rfl) ?_
          refine va_get (D := (dC, dI)) (ci := 1) (v := .int (nI (Y 0))) (C := RX1) (T := TX1) (N := 20) hx hb hts inX1 hown hK hP 0 rfl rfl 0 (by decide) (hts _ fl_X1_43) (fun _ h9 => h9) rfl dX1_next_375 ?_
          refine va_put (D := (dC, dI)) (ci := 1) (v := .int (nI (Y 0))) (ty := .int) (C := RX1) (T := TX1) (N := 20) hx hb hts inX1 tyX1 okX1 nmX1 hown hK hP hD hS 0 rfl rfl 2 (by decide) (hts _ fl_X1_47) (fun _ h9 => h9) rfl (by decide +kernel) rfl rfl (Nat.le_of_ble_eq_true rfl) dX1_next_378 (fun H locs hP hD hS => ?_)
          have hP : va_P (dC, dI) vwCl (rmW ct ad ((zu Y 2 (Y 0)), x1, x2, x3, x4, x5, x6, x7, x8, x9)) H := hP
          have hD : va_D A (rmW ct ad ((zu Y 2 (Y 0)), x1, x2, x3, x4, x5, x6, x7, x8, x9)) := hD
          refine lv_aload_n hx hb dX1_next_381 rfl (lv_at hl 0 rfl) ?_
          refine lv_iload hx hb dX1_next_382 (lv_at hl 6 rfl) ?_
          refine lv_if_eq (tgt := 398) hx hb dX1_next_384 (by decide) (fun c_43 => ?_) (fun c_43 => ?_)
          · have c_43 := (nI_eq (a := en) (b := 0) (by omega) (by omega)).mp c_43
            refine lv_aload_n hx hb dX1_next_398 rfl (lv_at hl 0 rfl) ?_
            refine va_get (D := (dC, dI)) (ci := 1) (v := .int (nI (Y 12))) (C := RX1) (T := TX1) (N := 20) hx hb hts inX1 hown hK hP 0 rfl rfl 12 (by decide) (hts _ fl_X1_110) (fun _ h9 => h9) rfl dX1_next_399 ?_
            refine va_put (D := (dC, dI)) (ci := 1) (v := .int (nI (Y 12))) (ty := .int) (C := RX1) (T := TX1) (N := 20) hx hb hts inX1 tyX1 okX1 nmX1 hown hK hP hD hS 0 rfl rfl 3 (by decide) (hts _ fl_X1_50) (fun _ h9 => h9) rfl (by decide +kernel) rfl rfl (Nat.le_of_ble_eq_true rfl) dX1_next_402 (fun H locs hP hD hS => ?_)
            have hP : va_P (dC, dI) vwCl (rmW ct ad ((zu (zu Y 2 (Y 0)) 3 (Y 12)), x1, x2, x3, x4, x5, x6, x7, x8, x9)) H := hP
            have hD : va_D A (rmW ct ad ((zu (zu Y 2 (Y 0)) 3 (Y 12)), x1, x2, x3, x4, x5, x6, x7, x8, x9)) := hD
            refine lv_iload_n hx hb dX1_next_405 rfl (lv_at hl 2 rfl) ?_
            refine lv_if_le (tgt := 428) hx hb dX1_next_406 (by decide) (fun c_44 => ?_) (fun c_44 => ?_)
            · have c_44 := (nI_leI (a := many) (b := 0) (by omega) (by omega)).mp c_44
              refine lv_aload_n hx hb dX1_next_428 rfl (lv_at hl 0 rfl) ?_
              refine lv_iload_n hx hb dX1_next_429 rfl (lv_at hl 2 rfl) ?_
              refine lv_if_le (tgt := 442) hx hb dX1_next_430 (by decide) (fun c_45 => ?_) (fun c_45 => ?_)
              · have c_45 := (nI_leI (a := many) (b := 0) (by omega) (by omega)).mp c_45
                refine lv_aload_n hx hb dX1_next_442 rfl (lv_at hl 0 rfl) ?_
                refine va_get (D := (dC, dI)) (ci := 1) (v := .int (nI (Y 6))) (C := RX1) (T := TX1) (N := 20) hx hb hts inX1 hown hK hP 0 rfl rfl 6 (by decide) (hts _ fl_X1_60) (fun _ h9 => h9) rfl dX1_next_443 ?_
                refine va_put (D := (dC, dI)) (ci := 1) (v := .int (nI (Y 6))) (ty := .int) (C := RX1) (T := TX1) (N := 20) hx hb hts inX1 tyX1 okX1 nmX1 hown hK hP hD hS 0 rfl rfl 6 (by decide) (hts _ fl_X1_60) (fun _ h9 => h9) rfl (by decide +kernel) rfl rfl (Nat.le_of_ble_eq_true rfl) dX1_next_446 (fun H locs hP hD hS => ?_)
                have hP : va_P (dC, dI) vwCl (rmW ct ad ((zu (zu (zu Y 2 (Y 0)) 3 (Y 12)) 6 (Y 6)), x1, x2, x3, x4, x5, x6, x7, x8, x9)) H := hP
                have hD : va_D A (rmW ct ad ((zu (zu (zu Y 2 (Y 0)) 3 (Y 12)) 6 (Y 6)), x1, x2, x3, x4, x5, x6, x7, x8, x9)) := hD
                refine lv_iload_n hx hb dX1_next_449 rfl (lv_at hl 2 rfl) ?_
                refine lv_sipush (v := nI 8000) hx hb dX1_next_450 (by decide) ?_
                refine lv_icmp_le (tgt := 464) hx hb dX1_next_453 (by decide) (fun c_46 => ?_) (fun c_46 => ?_)
                · have c_46 := (nI_leI (a := many) (b := 8000) (by omega) (by omega)).mp c_46
                  refine lv_aload_n hx hb dX1_next_464 rfl (lv_at hl 0 rfl) ?_
                  refine va_get (D := (dC, dI)) (ci := 1) (v := .int (nI (Y 13))) (C := RX1) (T := TX1) (N := 20) hx hb hts inX1 hown hK hP 0 rfl rfl 13 (by decide) (hts _ fl_X1_66) (fun _ h9 => h9) rfl dX1_next_465 ?_
                  have hP : va_P (dC, dI) vwCl (rmW ct ad (zu (rE1 Y (Y 0) (Y 12)) 6 (Y 6), x1, x2, x3, x4, x5, x6, x7, x8, x9)) H := by skip; exact hP
                  have hD : va_D A (rmW ct ad (zu (rE1 Y (Y 0) (Y 12)) 6 (Y 6), x1, x2, x3, x4, x5, x6, x7, x8, x9)) := by skip; exact hD
                  exact W.iret (v := nI (Y 13)) hx hb hr (fun t ht hW => ⟨⟨_, (zu (rE1 Y (Y 0) (Y 12)) 6 (Y 6), x1, x2, x3, x4, x5, x6, x7, x8, x9), rfl, (by rw [rL, if_pos (by omega), rE, if_neg (by omega), if_neg (by omega), if_pos (by omega), if_pos (by omega), if_neg (by omega)] at hQ; exact hQ), by rw [ht]; exact hP, va_K.moved hW.alike hK, hD⟩, hS.F ht⟩) hS.2.2 dX1_next_468
                · have c_46 := mt (nI_leI (a := many) (b := 8000) (by omega) (by omega)).mpr c_46
                  omega
              · have c_45 := mt (nI_leI (a := many) (b := 0) (by omega) (by omega)).mpr c_45
                omega
            · have c_44 := mt (nI_leI (a := many) (b := 0) (by omega) (by omega)).mpr c_44
              refine lv_aload_n hx hb dX1_next_409 rfl (lv_at hl 0 rfl) ?_
              refine va_get (D := (dC, dI)) (ci := 1) (v := .int (nI (Y 6))) (C := RX1) (T := TX1) (N := 20) hx hb hts inX1 hown hK hP 0 rfl rfl 6 (by decide) (hts _ fl_X1_60) (fun _ h9 => h9) rfl dX1_next_410 ?_
              refine lv_sipush (v := nI 20000) hx hb dX1_next_413 (by decide) ?_
              refine lv_icmp_ne (tgt := 428) hx hb dX1_next_416 (by decide) (fun c_47 => ?_) (fun c_47 => ?_)
              · have c_47 := mt (nI_eq (a := Y 6) (b := 20000) (by omega) (by omega)).mpr c_47
                refine lv_aload_n hx hb dX1_next_428 rfl (lv_at hl 0 rfl) ?_
                refine lv_iload_n hx hb dX1_next_429 rfl (lv_at hl 2 rfl) ?_
                refine lv_if_le (tgt := 442) hx hb dX1_next_430 (by decide) (fun c_48 => ?_) (fun c_48 => ?_)
                · have c_48 := (nI_leI (a := many) (b := 0) (by omega) (by omega)).mp c_48
                  omega
                · have c_48 := mt (nI_leI (a := many) (b := 0) (by omega) (by omega)).mpr c_48
                  refine lv_aload_n hx hb dX1_next_433 rfl (lv_at hl 0 rfl) ?_
                  refine va_get (D := (dC, dI)) (ci := 1) (v := .int (nI (Y 6))) (C := RX1) (T := TX1) (N := 20) hx hb hts inX1 hown hK hP 0 rfl rfl 6 (by decide) (hts _ fl_X1_60) (fun _ h9 => h9) rfl dX1_next_434 ?_
                  refine lv_iconst (v := nI 1) hx hb dX1_next_437 (by decide) ?_
                  refine lv_iadd hx hb dX1_next_438 ?_
                  refine lv_topi (fun x_49 e_50 => ?_)
                  obtain rfl : x_49 = nI (Y 6 + 1) := e_50.trans (nI_add (Y 6) 1)
                  refine lv_goto (tgt := 446) hx hb dX1_next_439 (by decide) ?_
                  refine va_put (D := (dC, dI)) (ci := 1) (v := .int (nI (Y 6 + 1))) (ty := .int) (C := RX1) (T := TX1) (N := 20) hx hb hts inX1 tyX1 okX1 nmX1 hown hK hP hD hS 0 rfl rfl 6 (by decide) (hts _ fl_X1_60) (fun _ h9 => h9) rfl (by decide +kernel) rfl rfl (Nat.le_of_ble_eq_true rfl) dX1_next_446 (fun H locs hP hD hS => ?_)
                  have hP : va_P (dC, dI) vwCl (rmW ct ad ((zu (zu (zu Y 2 (Y 0)) 3 (Y 12)) 6 (Y 6 + 1)), x1, x2, x3, x4, x5, x6, x7, x8, x9)) H := hP
                  have hD : va_D A (rmW ct ad ((zu (zu (zu Y 2 (Y 0)) 3 (Y 12)) 6 (Y 6 + 1)), x1, x2, x3, x4, x5, x6, x7, x8, x9)) := hD
                  refine lv_iload_n hx hb dX1_next_449 rfl (lv_at hl 2 rfl) ?_
                  refine lv_sipush (v := nI 8000) hx hb dX1_next_450 (by decide) ?_
                  refine lv_icmp_le (tgt := 464) hx hb dX1_next_453 (by decide) (fun c_51 => ?_) (fun c_51 => ?_)
                  · have c_51 := (nI_leI (a := many) (b := 8000) (by omega) (by omega)).mp c_51
                    refine lv_aload_n hx hb dX1_next_464 rfl (lv_at hl 0 rfl) ?_
                    refine va_get (D := (dC, dI)) (ci := 1) (v := .int (nI (Y 13))) (C := RX1) (T := TX1) (N := 20) hx hb hts inX1 hown hK hP 0 rfl rfl 13 (by decide) (hts _ fl_X1_66) (fun _ h9 => h9) rfl dX1_next_465 ?_
                    have hP : va_P (dC, dI) vwCl (rmW ct ad (zu (rE1 Y (Y 0) (Y 12)) 6 (Y 6 + 1), x1, x2, x3, x4, x5, x6, x7, x8, x9)) H := by skip; exact hP
                    have hD : va_D A (rmW ct ad (zu (rE1 Y (Y 0) (Y 12)) 6 (Y 6 + 1), x1, x2, x3, x4, x5, x6, x7, x8, x9)) := by skip; exact hD
                    exact W.iret (v := nI (Y 13)) hx hb hr (fun t ht hW => ⟨⟨_, (zu (rE1 Y (Y 0) (Y 12)) 6 (Y 6 + 1), x1, x2, x3, x4, x5, x6, x7, x8, x9), rfl, (by rw [rL, if_pos (by omega), rE, if_neg (by omega), if_neg (by omega), if_pos (by omega), if_pos (by omega), if_pos (by omega)] at hQ; exact hQ), by rw [ht]; exact hP, va_K.moved hW.alike hK, hD⟩, hS.F ht⟩) hS.2.2 dX1_next_468
                  · have c_51 := mt (nI_leI (a := many) (b := 8000) (by omega) (by omega)).mpr c_51
                    refine lv_aload_n hx hb dX1_next_456 rfl (lv_at hl 0 rfl) ?_
                    refine lv_bipush (v := nI 21) hx hb dX1_next_457 (by decide) ?_
                    refine lv_iload_n hx hb dX1_next_459 rfl (lv_at hl 3 rfl) ?_
                    refine rm_calli (va_runV (As := [.int (nI 21), .int (nI much)]) (rest := []) ⟨hx, hb, hml, hown, hts⟩ (r_stop l dC dI ct ad H.size (zu (zu (zu Y 2 (Y 0)) 3 (Y 12)) 6 (Y 6 + 1)) x1 x2 x3 x4 x5 x6 x7 x8 x9 21 much) (cwV 2 hts (gV (fun _ h => h) ml_X1_126 im_X1_stop se_X1_stop ini_X1 co_X1_stop) rfl rfl rfl pd_X1_stop ⟨Nat.le_of_ble_eq_true rfl, Nat.le_of_ble_eq_true rfl⟩) (rm_preS hK hP hD) rfl rfl hl.1 rfl (lv_room (Nat.le_of_ble_eq_true rfl)) dX1_next_460 ⟨Nat.zero_le _, Nat.zero_le _⟩) hD hS hA (fun r_54 u_53 H locs q_52 hP hD hS => ?_)
                    obtain ⟨rfl, rfl⟩ := q_52
                    have hP : va_P (dC, dI) vwCl (rmW ct ad ((zu (zu (zu (zu (zu (zu Y 2 (Y 0)) 3 (Y 12)) 4 1) 5 much) 6 (Y 6 + 1)) 13 0), x1, x2, x3, x4, x5, x6, x7, x8, x9)) H := hP
                    have hD : va_D A (rmW ct ad ((zu (zu (zu (zu (zu (zu Y 2 (Y 0)) 3 (Y 12)) 4 1) 5 much) 6 (Y 6 + 1)) 13 0), x1, x2, x3, x4, x5, x6, x7, x8, x9)) := hD
                    have hP : va_P (dC, dI) vwCl (rmW ct ad (rSt (zu (rE1 Y (Y 0) (Y 12)) 6 (Y 6 + 1)) much, x1, x2, x3, x4, x5, x6, x7, x8, x9)) H := by skip; exact hP
                    have hD : va_D A (rmW ct ad (rSt (zu (rE1 Y (Y 0) (Y 12)) 6 (Y 6 + 1)) much, x1, x2, x3, x4, x5, x6, x7, x8, x9)) := by skip; exact hD
                    exact W.iret (v := (-10) - nI 21) hx hb hr (fun t ht hW => ⟨⟨_, (rSt (zu (rE1 Y (Y 0) (Y 12)) 6 (Y 6 + 1)) much, x1, x2, x3, x4, x5, x6, x7, x8, x9), rfl, (by rw [rL, if_pos (by omega), rE, if_neg (by omega), if_pos (by omega), if_pos (by omega), if_pos (by omega), if_pos (by omega)] at hQ; exact hQ), by rw [ht]; exact hP, va_K.moved hW.alike hK, hD⟩, hS.F ht⟩) hS.2.2 dX1_next_463
              · have c_47 := (nI_eq (a := Y 6) (b := 20000) (by omega) (by omega)).mp c_47
                refine lv_aload_n hx hb dX1_next_419 rfl (lv_at hl 0 rfl) ?_
                refine lv_bipush (v := nI 21) hx hb dX1_next_420 (by decide) ?_
                refine lv_iload hx hb dX1_next_422 (lv_at hl 5 rfl) ?_
                refine rm_calli (va_runV (As := [.int (nI 21), .int (nI first)]) (rest := []) ⟨hx, hb, hml, hown, hts⟩ (r_stop l dC dI ct ad H.size (zu (zu Y 2 (Y 0)) 3 (Y 12)) x1 x2 x3 x4 x5 x6 x7 x8 x9 21 first) (cwV 2 hts (gV (fun _ h => h) ml_X1_126 im_X1_stop se_X1_stop ini_X1 co_X1_stop) rfl rfl rfl pd_X1_stop ⟨Nat.le_of_ble_eq_true rfl, Nat.le_of_ble_eq_true rfl⟩) (rm_preS hK hP hD) rfl rfl hl.1 rfl (lv_room (Nat.le_of_ble_eq_true rfl)) dX1_next_424 ⟨Nat.zero_le _, Nat.zero_le _⟩) hD hS hA (fun r_57 u_56 H locs q_55 hP hD hS => ?_)
                obtain ⟨rfl, rfl⟩ := q_55
                have hP : va_P (dC, dI) vwCl (rmW ct ad ((zu (zu (zu (zu (zu Y 2 (Y 0)) 3 (Y 12)) 4 1) 5 first) 13 0), x1, x2, x3, x4, x5, x6, x7, x8, x9)) H := hP
                have hD : va_D A (rmW ct ad ((zu (zu (zu (zu (zu Y 2 (Y 0)) 3 (Y 12)) 4 1) 5 first) 13 0), x1, x2, x3, x4, x5, x6, x7, x8, x9)) := hD
                have hP : va_P (dC, dI) vwCl (rmW ct ad (rSt (rE1 Y (Y 0) (Y 12)) first, x1, x2, x3, x4, x5, x6, x7, x8, x9)) H := by skip; exact hP
                have hD : va_D A (rmW ct ad (rSt (rE1 Y (Y 0) (Y 12)) first, x1, x2, x3, x4, x5, x6, x7, x8, x9)) := by skip; exact hD
                exact W.iret (v := (-10) - nI 21) hx hb hr (fun t ht hW => ⟨⟨_, (rSt (rE1 Y (Y 0) (Y 12)) first, x1, x2, x3, x4, x5, x6, x7, x8, x9), rfl, (by rw [rL, if_pos (by omega), rE, if_pos (by omega), if_pos (by omega), if_pos (by omega)] at hQ; exact hQ), by rw [ht]; exact hP, va_K.moved hW.alike hK, hD⟩, hS.F ht⟩) hS.2.2 dX1_next_427
          · have c_43 := mt (nI_eq (a := en) (b := 0) (by omega) (by omega)).mpr c_43
            omega
        · have c_42 := mt (nI_eq (a := en) (b := 0) (by omega) (by omega)).mpr c_42
          refine lv_aload_n hx hb dX1_next_363 rfl (lv_at hl 0 rfl) ?_
          refine va_get (D := (dC, dI)) (ci := 1) (v := .ref (ad 3)) (C := RX1) (T := TX1) (N := 20) hx hb hts inX1 hown hK hP 0 rfl rfl 10 (by decide) (hts _ fl_X1_17) (fun _ h9 => h9) rfl dX1_next_364 ?_
          refine lv_iload_n hx hb dX1_next_367 rfl (lv_at hl 1 rfl) ?_
          refine va_iald hx hb hK hP 3 1 rfl rfl (vp_in_nI (by omega) (by decide)) dX1_next_368 ?_
          refine lv_topi (fun x_58 e_59 => ?_)
          obtain rfl : x_58 = nI (x3 g) := e_59.trans (by rw [nI_clamp (by omega)])
          refine lv_iconst (v := nI 1) hx hb dX1_next_369 (by decide) ?_
          refine lv_iadd hx hb dX1_next_370 ?_
          refine lv_topi (fun x_60 e_61 => ?_)
          obtain rfl : x_60 = nI (x3 g + 1) := e_61.trans (nI_add (x3 g) 1)
          refine lv_goto (tgt := 378) hx hb dX1_next_371 (by decide) ?_
          refine va_put (D := (dC, dI)) (ci := 1) (v := .int (nI (x3 g + 1))) (ty := .int) (C := RX1) (T := TX1) (N := 20) hx hb hts inX1 tyX1 okX1 nmX1 hown hK hP hD hS 0 rfl rfl 2 (by decide) (hts _ fl_X1_47) (fun _ h9 => h9) rfl (by decide +kernel) rfl rfl (Nat.le_of_ble_eq_true rfl) dX1_next_378 (fun H locs hP hD hS => ?_)
          have hP : va_P (dC, dI) vwCl (rmW ct ad ((zu Y 2 (x3 g + 1)), x1, x2, x3, x4, x5, x6, x7, x8, x9)) H := hP
          have hD : va_D A (rmW ct ad ((zu Y 2 (x3 g + 1)), x1, x2, x3, x4, x5, x6, x7, x8, x9)) := hD
          refine lv_aload_n hx hb dX1_next_381 rfl (lv_at hl 0 rfl) ?_
          refine lv_iload hx hb dX1_next_382 (lv_at hl 6 rfl) ?_
          refine lv_if_eq (tgt := 398) hx hb dX1_next_384 (by decide) (fun c_62 => ?_) (fun c_62 => ?_)
          · have c_62 := (nI_eq (a := en) (b := 0) (by omega) (by omega)).mp c_62
            omega
          · have c_62 := mt (nI_eq (a := en) (b := 0) (by omega) (by omega)).mpr c_62
            refine lv_aload_n hx hb dX1_next_387 rfl (lv_at hl 0 rfl) ?_
            refine va_get (D := (dC, dI)) (ci := 1) (v := .ref (ad 4)) (C := RX1) (T := TX1) (N := 20) hx hb hts inX1 hown hK hP 0 rfl rfl 11 (by decide) (hts _ fl_X1_21) (fun _ h9 => h9) rfl dX1_next_388 ?_
            refine lv_iload_n hx hb dX1_next_391 rfl (lv_at hl 1 rfl) ?_
            refine va_iald hx hb hK hP 4 1 rfl rfl (vp_in_nI (by omega) (by decide)) dX1_next_392 ?_
            refine lv_topi (fun x_63 e_64 => ?_)
            obtain rfl : x_63 = nI (x4 g) := e_64.trans (by rw [nI_clamp (by omega)])
            refine lv_iconst (v := nI 1) hx hb dX1_next_393 (by decide) ?_
            refine lv_iadd hx hb dX1_next_394 ?_
            refine lv_topi (fun x_65 e_66 => ?_)
            obtain rfl : x_65 = nI (x4 g + 1) := e_66.trans (nI_add (x4 g) 1)
            refine lv_goto (tgt := 402) hx hb dX1_next_395 (by decide) ?_
            refine va_put (D := (dC, dI)) (ci := 1) (v := .int (nI (x4 g + 1))) (ty := .int) (C := RX1) (T := TX1) (N := 20) hx hb hts inX1 tyX1 okX1 nmX1 hown hK hP hD hS 0 rfl rfl 3 (by decide) (hts _ fl_X1_50) (fun _ h9 => h9) rfl (by decide +kernel) rfl rfl (Nat.le_of_ble_eq_true rfl) dX1_next_402 (fun H locs hP hD hS => ?_)
            have hP : va_P (dC, dI) vwCl (rmW ct ad ((zu (zu Y 2 (x3 g + 1)) 3 (x4 g + 1)), x1, x2, x3, x4, x5, x6, x7, x8, x9)) H := hP
            have hD : va_D A (rmW ct ad ((zu (zu Y 2 (x3 g + 1)) 3 (x4 g + 1)), x1, x2, x3, x4, x5, x6, x7, x8, x9)) := hD
            refine lv_iload_n hx hb dX1_next_405 rfl (lv_at hl 2 rfl) ?_
            refine lv_if_le (tgt := 428) hx hb dX1_next_406 (by decide) (fun c_67 => ?_) (fun c_67 => ?_)
            · have c_67 := (nI_leI (a := many) (b := 0) (by omega) (by omega)).mp c_67
              refine lv_aload_n hx hb dX1_next_428 rfl (lv_at hl 0 rfl) ?_
              refine lv_iload_n hx hb dX1_next_429 rfl (lv_at hl 2 rfl) ?_
              refine lv_if_le (tgt := 442) hx hb dX1_next_430 (by decide) (fun c_68 => ?_) (fun c_68 => ?_)
              · have c_68 := (nI_leI (a := many) (b := 0) (by omega) (by omega)).mp c_68
                refine lv_aload_n hx hb dX1_next_442 rfl (lv_at hl 0 rfl) ?_
                refine va_get (D := (dC, dI)) (ci := 1) (v := .int (nI (Y 6))) (C := RX1) (T := TX1) (N := 20) hx hb hts inX1 hown hK hP 0 rfl rfl 6 (by decide) (hts _ fl_X1_60) (fun _ h9 => h9) rfl dX1_next_443 ?_
                refine va_put (D := (dC, dI)) (ci := 1) (v := .int (nI (Y 6))) (ty := .int) (C := RX1) (T := TX1) (N := 20) hx hb hts inX1 tyX1 okX1 nmX1 hown hK hP hD hS 0 rfl rfl 6 (by decide) (hts _ fl_X1_60) (fun _ h9 => h9) rfl (by decide +kernel) rfl rfl (Nat.le_of_ble_eq_true rfl) dX1_next_446 (fun H locs hP hD hS => ?_)
                have hP : va_P (dC, dI) vwCl (rmW ct ad ((zu (zu (zu Y 2 (x3 g + 1)) 3 (x4 g + 1)) 6 (Y 6)), x1, x2, x3, x4, x5, x6, x7, x8, x9)) H := hP
                have hD : va_D A (rmW ct ad ((zu (zu (zu Y 2 (x3 g + 1)) 3 (x4 g + 1)) 6 (Y 6)), x1, x2, x3, x4, x5, x6, x7, x8, x9)) := hD
                refine lv_iload_n hx hb dX1_next_449 rfl (lv_at hl 2 rfl) ?_
                refine lv_sipush (v := nI 8000) hx hb dX1_next_450 (by decide) ?_
                refine lv_icmp_le (tgt := 464) hx hb dX1_next_453 (by decide) (fun c_69 => ?_) (fun c_69 => ?_)
                · have c_69 := (nI_leI (a := many) (b := 8000) (by omega) (by omega)).mp c_69
                  refine lv_aload_n hx hb dX1_next_464 rfl (lv_at hl 0 rfl) ?_
                  refine va_get (D := (dC, dI)) (ci := 1) (v := .int (nI (Y 13))) (C := RX1) (T := TX1) (N := 20) hx hb hts inX1 hown hK hP 0 rfl rfl 13 (by decide) (hts _ fl_X1_66) (fun _ h9 => h9) rfl dX1_next_465 ?_
                  have hP : va_P (dC, dI) vwCl (rmW ct ad (zu (rE1 Y (x3 g + 1) (x4 g + 1)) 6 (Y 6), x1, x2, x3, x4, x5, x6, x7, x8, x9)) H := by skip; exact hP
                  have hD : va_D A (rmW ct ad (zu (rE1 Y (x3 g + 1) (x4 g + 1)) 6 (Y 6), x1, x2, x3, x4, x5, x6, x7, x8, x9)) := by skip; exact hD
                  exact W.iret (v := nI (Y 13)) hx hb hr (fun t ht hW => ⟨⟨_, (zu (rE1 Y (x3 g + 1) (x4 g + 1)) 6 (Y 6), x1, x2, x3, x4, x5, x6, x7, x8, x9), rfl, (by rw [rL, if_pos (by omega), rE, if_neg (by omega), if_neg (by omega), if_neg (by omega), if_neg (by omega), if_neg (by omega)] at hQ; exact hQ), by rw [ht]; exact hP, va_K.moved hW.alike hK, hD⟩, hS.F ht⟩) hS.2.2 dX1_next_468
                · have c_69 := mt (nI_leI (a := many) (b := 8000) (by omega) (by omega)).mpr c_69
                  omega
              · have c_68 := mt (nI_leI (a := many) (b := 0) (by omega) (by omega)).mpr c_68
                omega
            · have c_67 := mt (nI_leI (a := many) (b := 0) (by omega) (by omega)).mpr c_67
              refine lv_aload_n hx hb dX1_next_409 rfl (lv_at hl 0 rfl) ?_
              refine va_get (D := (dC, dI)) (ci := 1) (v := .int (nI (Y 6))) (C := RX1) (T := TX1) (N := 20) hx hb hts inX1 hown hK hP 0 rfl rfl 6 (by decide) (hts _ fl_X1_60) (fun _ h9 => h9) rfl dX1_next_410 ?_
              refine lv_sipush (v := nI 20000) hx hb dX1_next_413 (by decide) ?_
              refine lv_icmp_ne (tgt := 428) hx hb dX1_next_416 (by decide) (fun c_70 => ?_) (fun c_70 => ?_)
              · have c_70 := mt (nI_eq (a := Y 6) (b := 20000) (by omega) (by omega)).mpr c_70
                refine lv_aload_n hx hb dX1_next_428 rfl (lv_at hl 0 rfl) ?_
                refine lv_iload_n hx hb dX1_next_429 rfl (lv_at hl 2 rfl) ?_
                refine lv_if_le (tgt := 442) hx hb dX1_next_430 (by decide) (fun c_71 => ?_) (fun c_71 => ?_)
                · have c_71 := (nI_leI (a := many) (b := 0) (by omega) (by omega)).mp c_71
                  omega
                · have c_71 := mt (nI_leI (a := many) (b := 0) (by omega) (by omega)).mpr c_71
                  refine lv_aload_n hx hb dX1_next_433 rfl (lv_at hl 0 rfl) ?_
                  refine va_get (D := (dC, dI)) (ci := 1) (v := .int (nI (Y 6))) (C := RX1) (T := TX1) (N := 20) hx hb hts inX1 hown hK hP 0 rfl rfl 6 (by decide) (hts _ fl_X1_60) (fun _ h9 => h9) rfl dX1_next_434 ?_
                  refine lv_iconst (v := nI 1) hx hb dX1_next_437 (by decide) ?_
                  refine lv_iadd hx hb dX1_next_438 ?_
                  refine lv_topi (fun x_72 e_73 => ?_)
                  obtain rfl : x_72 = nI (Y 6 + 1) := e_73.trans (nI_add (Y 6) 1)
                  refine lv_goto (tgt := 446) hx hb dX1_next_439 (by decide) ?_
                  refine va_put (D := (dC, dI)) (ci := 1) (v := .int (nI (Y 6 + 1))) (ty := .int) (C := RX1) (T := TX1) (N := 20) hx hb hts inX1 tyX1 okX1 nmX1 hown hK hP hD hS 0 rfl rfl 6 (by decide) (hts _ fl_X1_60) (fun _ h9 => h9) rfl (by decide +kernel) rfl rfl (Nat.le_of_ble_eq_true rfl) dX1_next_446 (fun H locs hP hD hS => ?_)
                  have hP : va_P (dC, dI) vwCl (rmW ct ad ((zu (zu (zu Y 2 (x3 g + 1)) 3 (x4 g + 1)) 6 (Y 6 + 1)), x1, x2, x3, x4, x5, x6, x7, x8, x9)) H := hP
                  have hD : va_D A (rmW ct ad ((zu (zu (zu Y 2 (x3 g + 1)) 3 (x4 g + 1)) 6 (Y 6 + 1)), x1, x2, x3, x4, x5, x6, x7, x8, x9)) := hD
                  refine lv_iload_n hx hb dX1_next_449 rfl (lv_at hl 2 rfl) ?_
                  refine lv_sipush (v := nI 8000) hx hb dX1_next_450 (by decide) ?_
                  refine lv_icmp_le (tgt := 464) hx hb dX1_next_453 (by decide) (fun c_74 => ?_) (fun c_74 => ?_)
                  · have c_74 := (nI_leI (a := many) (b := 8000) (by omega) (by omega)).mp c_74
                    refine lv_aload_n hx hb dX1_next_464 rfl (lv_at hl 0 rfl) ?_
                    refine va_get (D := (dC, dI)) (ci := 1) (v := .int (nI (Y 13))) (C := RX1) (T := TX1) (N := 20) hx hb hts inX1 hown hK hP 0 rfl rfl 13 (by decide) (hts _ fl_X1_66) (fun _ h9 => h9) rfl dX1_next_465 ?_
                    have hP : va_P (dC, dI) vwCl (rmW ct ad (zu (rE1 Y (x3 g + 1) (x4 g + 1)) 6 (Y 6 + 1), x1, x2, x3, x4, x5, x6, x7, x8, x9)) H := by skip; exact hP
                    have hD : va_D A (rmW ct ad (zu (rE1 Y (x3 g + 1) (x4 g + 1)) 6 (Y 6 + 1), x1, x2, x3, x4, x5, x6, x7, x8, x9)) := by skip; exact hD
                    exact W.iret (v := nI (Y 13)) hx hb hr (fun t ht hW => ⟨⟨_, (zu (rE1 Y (x3 g + 1) (x4 g + 1)) 6 (Y 6 + 1), x1, x2, x3, x4, x5, x6, x7, x8, x9), rfl, (by rw [rL, if_pos (by omega), rE, if_neg (by omega), if_neg (by omega), if_neg (by omega), if_neg (by omega), if_pos (by omega)] at hQ; exact hQ), by rw [ht]; exact hP, va_K.moved hW.alike hK, hD⟩, hS.F ht⟩) hS.2.2 dX1_next_468
                  · have c_74 := mt (nI_leI (a := many) (b := 8000) (by omega) (by omega)).mpr c_74
                    refine lv_aload_n hx hb dX1_next_456 rfl (lv_at hl 0 rfl) ?_
                    refine lv_bipush (v := nI 21) hx hb dX1_next_457 (by decide) ?_
                    refine lv_iload_n hx hb dX1_next_459 rfl (lv_at hl 3 rfl) ?_
                    refine rm_calli (va_runV (As := [.int (nI 21), .int (nI much)]) (rest := []) ⟨hx, hb, hml, hown, hts⟩ (r_stop l dC dI ct ad H.size (zu (zu (zu Y 2 (x3 g + 1)) 3 (x4 g + 1)) 6 (Y 6 + 1)) x1 x2 x3 x4 x5 x6 x7 x8 x9 21 much) (cwV 2 hts (gV (fun _ h => h) ml_X1_126 im_X1_stop se_X1_stop ini_X1 co_X1_stop) rfl rfl rfl pd_X1_stop ⟨Nat.le_of_ble_eq_true rfl, Nat.le_of_ble_eq_true rfl⟩) (rm_preS hK hP hD) rfl rfl hl.1 rfl (lv_room (Nat.le_of_ble_eq_true rfl)) dX1_next_460 ⟨Nat.zero_le _, Nat.zero_le _⟩) hD hS hA (fun r_77 u_76 H locs q_75 hP hD hS => ?_)
                    obtain ⟨rfl, rfl⟩ := q_75
                    have hP : va_P (dC, dI) vwCl (rmW ct ad ((zu (zu (zu (zu (zu (zu Y 2 (x3 g + 1)) 3 (x4 g + 1)) 4 1) 5 much) 6 (Y 6 + 1)) 13 0), x1, x2, x3, x4, x5, x6, x7, x8, x9)) H := hP
                    have hD : va_D A (rmW ct ad ((zu (zu (zu (zu (zu (zu Y 2 (x3 g + 1)) 3 (x4 g + 1)) 4 1) 5 much) 6 (Y 6 + 1)) 13 0), x1, x2, x3, x4, x5, x6, x7, x8, x9)) := hD
                    have hP : va_P (dC, dI) vwCl (rmW ct ad (rSt (zu (rE1 Y (x3 g + 1) (x4 g + 1)) 6 (Y 6 + 1)) much, x1, x2, x3, x4, x5, x6, x7, x8, x9)) H := by skip; exact hP
                    have hD : va_D A (rmW ct ad (rSt (zu (rE1 Y (x3 g + 1) (x4 g + 1)) 6 (Y 6 + 1)) much, x1, x2, x3, x4, x5, x6, x7, x8, x9)) := by skip; exact hD
                    exact W.iret (v := (-10) - nI 21) hx hb hr (fun t ht hW => ⟨⟨_, (rSt (zu (rE1 Y (x3 g + 1) (x4 g + 1)) 6 (Y 6 + 1)) much, x1, x2, x3, x4, x5, x6, x7, x8, x9), rfl, (by rw [rL, if_pos (by omega), rE, if_neg (by omega), if_pos (by omega), if_neg (by omega), if_neg (by omega), if_pos (by omega)] at hQ; exact hQ), by rw [ht]; exact hP, va_K.moved hW.alike hK, hD⟩, hS.F ht⟩) hS.2.2 dX1_next_463
              · have c_70 := (nI_eq (a := Y 6) (b := 20000) (by omega) (by omega)).mp c_70
                refine lv_aload_n hx hb dX1_next_419 rfl (lv_at hl 0 rfl) ?_
                refine lv_bipush (v := nI 21) hx hb dX1_next_420 (by decide) ?_
                refine lv_iload hx hb dX1_next_422 (lv_at hl 5 rfl) ?_
                refine rm_calli (va_runV (As := [.int (nI 21), .int (nI first)]) (rest := []) ⟨hx, hb, hml, hown, hts⟩ (r_stop l dC dI ct ad H.size (zu (zu Y 2 (x3 g + 1)) 3 (x4 g + 1)) x1 x2 x3 x4 x5 x6 x7 x8 x9 21 first) (cwV 2 hts (gV (fun _ h => h) ml_X1_126 im_X1_stop se_X1_stop ini_X1 co_X1_stop) rfl rfl rfl pd_X1_stop ⟨Nat.le_of_ble_eq_true rfl, Nat.le_of_ble_eq_true rfl⟩) (rm_preS hK hP hD) rfl rfl hl.1 rfl (lv_room (Nat.le_of_ble_eq_true rfl)) dX1_next_424 ⟨Nat.zero_le _, Nat.zero_le _⟩) hD hS hA (fun r_80 u_79 H locs q_78 hP hD hS => ?_)
                obtain ⟨rfl, rfl⟩ := q_78
                have hP : va_P (dC, dI) vwCl (rmW ct ad ((zu (zu (zu (zu (zu Y 2 (x3 g + 1)) 3 (x4 g + 1)) 4 1) 5 first) 13 0), x1, x2, x3, x4, x5, x6, x7, x8, x9)) H := hP
                have hD : va_D A (rmW ct ad ((zu (zu (zu (zu (zu Y 2 (x3 g + 1)) 3 (x4 g + 1)) 4 1) 5 first) 13 0), x1, x2, x3, x4, x5, x6, x7, x8, x9)) := hD
                have hP : va_P (dC, dI) vwCl (rmW ct ad (rSt (rE1 Y (x3 g + 1) (x4 g + 1)) first, x1, x2, x3, x4, x5, x6, x7, x8, x9)) H := by skip; exact hP
                have hD : va_D A (rmW ct ad (rSt (rE1 Y (x3 g + 1) (x4 g + 1)) first, x1, x2, x3, x4, x5, x6, x7, x8, x9)) := by skip; exact hD
                exact W.iret (v := (-10) - nI 21) hx hb hr (fun t ht hW => ⟨⟨_, (rSt (rE1 Y (x3 g + 1) (x4 g + 1)) first, x1, x2, x3, x4, x5, x6, x7, x8, x9), rfl, (by rw [rL, if_pos (by omega), rE, if_pos (by omega), if_neg (by omega), if_neg (by omega)] at hQ; exact hQ), by rw [ht]; exact hP, va_K.moved hW.alike hK, hD⟩, hS.F ht⟩) hS.2.2 dX1_next_427
      · have c_41 := mt (nI_leI (a := Y 8) (b := g) (by omega) (by omega)).mpr c_41
        refine lv_aload_n hx hb dX1_next_78 rfl (lv_at hl 0 rfl) ?_
        refine va_get (D := (dC, dI)) (ci := 1) (v := .ref (ad 2)) (C := RX1) (T := TX1) (N := 20) hx hb hts inX1 hown hK hP 0 rfl rfl 9 (by decide) (hts _ fl_X1_14) (fun _ h9 => h9) rfl dX1_next_79 ?_
        refine lv_iload_n hx hb dX1_next_82 rfl (lv_at hl 1 rfl) ?_
        refine va_bald hx hb hK hP 2 0 rfl rfl (vp_in_nI (by omega) (by decide)) dX1_next_83 ?_
        refine lv_topi (fun x_81 e_82 => ?_)
        obtain rfl : x_81 = sb_b (x2 g) := e_82.trans (by rw [nI_clamp (by omega)])
        have := h2 g
        refine lv_sipush (v := nI 255) hx hb dX1_next_84 (by decide) ?_
        refine lv_iand hx hb dX1_next_87 ?_
        refine lv_topi (fun x_83 e_84 => ?_)
        obtain rfl : x_83 = nI (x2 g) := e_84.trans (sb_m (by omega))
        refine lv_istore (lv' := [(7, .int (nI (x2 g))), (0, .ref (ad 0)), (1, .int (nI g)), (2, .int (nI many)), (3, .int (nI much)), (4, .int (nI bf)), (5, .int (nI first)), (6, .int (nI en))]) hx hb dX1_next_88 hl (by decide) rfl (fun ls hl => ?_)
        refine lv_aload_n hx hb dX1_next_90 rfl (lv_at hl 1 rfl) ?_
        refine va_get (D := (dC, dI)) (ci := 1) (v := .ref (ad 2)) (C := RX1) (T := TX1) (N := 20) hx hb hts inX1 hown hK hP 0 rfl rfl 9 (by decide) (hts _ fl_X1_14) (fun _ h9 => h9) rfl dX1_next_91 ?_
        refine lv_iload_n hx hb dX1_next_94 rfl (lv_at hl 2 rfl) ?_
        refine lv_iconst (v := nI 1) hx hb dX1_next_95 (by decide) ?_
        refine lv_iadd hx hb dX1_next_96 ?_
        refine lv_topi (fun x_85 e_86 => ?_)
        obtain rfl : x_85 = nI (g + 1) := e_86.trans (nI_add g 1)
        refine lv_aload_n hx hb dX1_next_97 rfl (lv_at hl 1 rfl) ?_
        refine va_get (D := (dC, dI)) (ci := 1) (v := .int (nI (Y 8))) (C := RX1) (T := TX1) (N := 20) hx hb hts inX1 hown hK hP 0 rfl rfl 8 (by decide) (hts _ fl_X1_107) (fun _ h9 => h9) rfl dX1_next_98 ?_
        refine vp_callSi (va_Run.run (va_runS (As := [.ref (ad 2), .int (nI (g + 1)), .int (nI (Y 8))]) (rest := []) ⟨hx, hb, hml, hown, hts⟩ (r_byteAt l dC dI ct ad Y x1 x2 x3 x4 x5 x6 x7 x8 x9 (g + 1) (Y 8) (show g + 1 < 2 ^ 31 by omega) (show Y 8 ≤ 32768 by omega) h2) (cwS 3 hts (gS (fun _ h => h) ml_X1_79 sm_X1_byteAt ini_X1 co_X1_byteAt) rfl rfl rfl pd_X1_byteAt ⟨Nat.le_of_ble_eq_true rfl, Nat.le_of_ble_eq_true rfl⟩) (rm_preRS hK hP) rfl rfl hl.1 rfl (lv_room (Nat.le_of_ble_eq_true rfl)) dX1_next_101 ⟨Nat.zero_le _, Nat.zero_le _⟩)) (fun r_87 (e_88 : r_87 = bI (rb x2 (Y 8) (g + 1))) => ?_)
        subst e_88
        have := rb_in h2 (Y 8) (g + 1)
        refine lv_istore (lv' := [(8, .int (bI (rb x2 (Y 8) (g + 1)))), (7, .int (nI (x2 g))), (0, .ref (ad 0)), (1, .int (nI g)), (2, .int (nI many)), (3, .int (nI much)), (4, .int (nI bf)), (5, .int (nI first)), (6, .int (nI en))]) hx hb dX1_next_104 hl (by decide) rfl (fun ls hl => ?_)
        refine lv_iload hx hb dX1_next_106 (lv_at hl 1 rfl) ?_
        refine lv_bipush (v := nI 10) hx hb dX1_next_108 (by decide) ?_
        refine lv_icmp_ne (tgt := 119) hx hb dX1_next_110 (by decide) (fun c_89 => ?_) (fun c_89 => ?_)
        · have c_89 := mt (nI_eq (a := x2 g) (b := 10) (by omega) (by omega)).mpr c_89
          refine lv_iload hx hb dX1_next_119 (lv_at hl 1 rfl) ?_
          refine lv_topi (fun x_90 e_91 => ?_)
          obtain rfl : x_90 = bI (x2 g) := e_91.trans (bI_lo (h2 g)).symm
          refine vp_callSi (va_Run.run (va_runS (As := [.int (bI (x2 g))]) (rest := []) ⟨hx, hb, hml, hown, hts⟩ (r_isBlank l (x2 g)) (cwS 1 hts (gS (fun _ h => h) ml_X1_119 sm_X1_isBlank ini_X1 co_X1_isBlank) rfl rfl rfl pd_X1_isBlank ⟨Nat.le_of_ble_eq_true rfl, Nat.le_of_ble_eq_true rfl⟩) st_pre rfl rfl hl.1 rfl (lv_room (Nat.le_of_ble_eq_true rfl)) dX1_next_121 ⟨Nat.zero_le _, Nat.zero_le _⟩)) (fun r_92 (e_93 : r_92 = b2i (isB (x2 g))) => ?_)
          subst e_93
          refine lv_if_eq (tgt := 136) hx hb dX1_next_124 (by decide) (fun c_94 => ?_) (fun c_94 => ?_)
          · have c_94 := (b2i_z (isB (x2 g))).mp c_94
            refine lv_iload hx hb dX1_next_136 (lv_at hl 1 rfl) ?_
            refine lv_bipush (v := nI 47) hx hb dX1_next_138 (by decide) ?_
            refine lv_icmp_ne (tgt := 183) hx hb dX1_next_140 (by decide) (fun c_95 => ?_) (fun c_95 => ?_)
            · have c_95 := mt (nI_eq (a := x2 g) (b := 47) (by omega) (by omega)).mpr c_95
              refine lv_iload hx hb dX1_next_183 (lv_at hl 1 rfl) ?_
              refine lv_bipush (v := nI 47) hx hb dX1_next_185 (by decide) ?_
              refine lv_icmp_ne (tgt := 228) hx hb dX1_next_187 (by decide) (fun c_96 => ?_) (fun c_96 => ?_)
              · have c_96 := mt (nI_eq (a := x2 g) (b := 47) (by omega) (by omega)).mpr c_96
                refine lv_aload_n hx hb dX1_next_228 rfl (lv_at hl 2 rfl) ?_
                refine lv_iload_n hx hb dX1_next_229 rfl (lv_at hl 3 rfl) ?_
                refine lv_aload_n hx hb dX1_next_230 rfl (lv_at hl 2 rfl) ?_
                refine va_get (D := (dC, dI)) (ci := 1) (v := .int (nI (Y 8))) (C := RX1) (T := TX1) (N := 20) hx hb hts inX1 hown hK hP 0 rfl rfl 8 (by decide) (hts _ fl_X1_107) (fun _ h9 => h9) rfl dX1_next_231 ?_
                have hwH := hw.kept (H1 := H) (fun a h1 h2 => hS.2.1 a h1 (fun z => h2 (hAA a z)))
                refine vp_callSi (va_Run.run (va_runV (As := [.int (nI g), .int (nI (Y 8))]) (rest := []) ⟨hx, hb, hml, hown, hts⟩ (r_tokenSizeAt l dC dI ct ad dK dV A0 Y x1 x2 x3 x4 x5 x6 x7 x8 x9 g (Y 8) (show g < Y 8 by omega) (show Y 8 ≤ 32768 by omega) h2) (cwV 2 hts (gV (fun _ h => h) ml_X1_129 im_X1_tokenSizeAt se_X1_tokenSizeAt ini_X1 co_X1_tokenSizeAt) rfl rfl rfl pd_X1_tokenSizeAt ⟨Nat.le_of_ble_eq_true rfl, Nat.le_of_ble_eq_true rfl⟩) (rm_preRW hK hP hwH) rfl rfl hl.1 rfl (lv_room (Nat.le_of_ble_eq_true rfl)) dX1_next_234 ⟨Nat.zero_le _, Nat.zero_le _⟩)) (fun r_97 (e_98 : r_97 = nI (ts1 x2 (Y 8) g)) => ?_)
                subst e_98
                have := ts1_b h2 (show g < Y 8 by omega)
                refine lv_istore (lv' := [(9, .int (nI (ts1 x2 (Y 8) g))), (8, .int (bI (rb x2 (Y 8) (g + 1)))), (7, .int (nI (x2 g))), (0, .ref (ad 0)), (1, .int (nI g)), (2, .int (nI many)), (3, .int (nI much)), (4, .int (nI bf)), (5, .int (nI first)), (6, .int (nI en))]) hx hb dX1_next_237 hl (by decide) rfl (fun ls hl => ?_)
                refine lv_iload hx hb dX1_next_239 (lv_at hl 0 rfl) ?_
                refine lv_iconst (v := nI 1) hx hb dX1_next_241 (by decide) ?_
                refine lv_icmp_ne (tgt := 292) hx hb dX1_next_242 (by decide) (fun c_99 => ?_) (fun c_99 => ?_)
                · have c_99 := mt (nI_eq (a := ts1 x2 (Y 8) g) (b := 1) (by omega) (by omega)).mpr c_99
                  refine lv_iload_n hx hb dX1_next_292 rfl (lv_at hl 5 rfl) ?_
                  refine lv_if_ne (tgt := 305) hx hb dX1_next_293 (by decide) (fun c_100 => ?_) (fun c_100 => ?_)
                  · have c_100 := mt (nI_eq (a := many) (b := 0) (by omega) (by omega)).mpr c_100
                    refine lv_iload hx hb dX1_next_305 (lv_at hl 8 rfl) ?_
                    refine lv_istore (lv' := [(5, .int (nI first)), (9, .int (nI (ts1 x2 (Y 8) g))), (8, .int (bI (rb x2 (Y 8) (g + 1)))), (7, .int (nI (x2 g))), (0, .ref (ad 0)), (1, .int (nI g)), (2, .int (nI many)), (3, .int (nI much)), (4, .int (nI bf)), (6, .int (nI en))]) hx hb dX1_next_307 hl (by decide) rfl (fun ls hl => ?_)
                    refine lv_iload_n hx hb dX1_next_309 rfl (lv_at hl 6 rfl) ?_
                    refine lv_sipush (v := nI 8000) hx hb dX1_next_310 (by decide) ?_
                    refine lv_icmp_ne (tgt := 325) hx hb dX1_next_313 (by decide) (fun c_101 => ?_) (fun c_101 => ?_)
                    · have c_101 := mt (nI_eq (a := many) (b := 8000) (by omega) (by omega)).mpr c_101
                      refine lv_iload_n hx hb dX1_next_325 rfl (lv_at hl 7 rfl) ?_
                      refine lv_istore_n (lv' := [(3, .int (nI much)), (5, .int (nI first)), (9, .int (nI (ts1 x2 (Y 8) g))), (8, .int (bI (rb x2 (Y 8) (g + 1)))), (7, .int (nI (x2 g))), (0, .ref (ad 0)), (1, .int (nI g)), (2, .int (nI many)), (4, .int (nI bf)), (6, .int (nI en))]) hx hb dX1_next_326 rfl hl (by decide) rfl (fun ls hl => ?_)
                      refine lv_iload_n hx hb dX1_next_327 rfl (lv_at hl 7 rfl) ?_
                      refine lv_sipush (v := nI 8000) hx hb dX1_next_328 (by decide) ?_
                      refine lv_icmp_ge (tgt := 343) hx hb dX1_next_331 (by decide) (fun c_102 => ?_) (fun c_102 => ?_)
                      · have c_102 := (nI_leI (a := 8000) (b := many) (by omega) (by omega)).mp c_102
                        refine lv_iinc (v := nI (many + 1)) (lv' := [(2, .int (nI (many + 1))), (3, .int (nI much)), (5, .int (nI first)), (9, .int (nI (ts1 x2 (Y 8) g))), (8, .int (bI (rb x2 (Y 8) (g + 1)))), (7, .int (nI (x2 g))), (0, .ref (ad 0)), (1, .int (nI g)), (4, .int (nI bf)), (6, .int (nI en))]) hx hb dX1_next_343 hl (k := 7) rfl (by exact nI_add many 1) (by decide) rfl (fun ls hl => ?_)
                        refine lv_iconst (v := nI 0) hx hb dX1_next_346 (by decide) ?_
                        refine lv_istore (lv' := [(4, .int (nI 0)), (2, .int (nI (many + 1))), (3, .int (nI much)), (5, .int (nI first)), (9, .int (nI (ts1 x2 (Y 8) g))), (8, .int (bI (rb x2 (Y 8) (g + 1)))), (7, .int (nI (x2 g))), (0, .ref (ad 0)), (1, .int (nI g)), (6, .int (nI en))]) hx hb dX1_next_347 hl (by decide) rfl (fun ls hl => ?_)
                        refine lv_iload_n hx hb dX1_next_349 rfl (lv_at hl 8 rfl) ?_
                        refine lv_iload hx hb dX1_next_350 (lv_at hl 4 rfl) ?_
                        refine lv_iadd hx hb dX1_next_352 ?_
                        refine lv_topi (fun x_103 e_104 => ?_)
                        obtain rfl : x_103 = nI (g + (ts1 x2 (Y 8) g)) := e_104.trans (nI_add g (ts1 x2 (Y 8) g))
                        refine lv_istore_n (lv' := [(1, .int (nI (g + (ts1 x2 (Y 8) g)))), (4, .int (nI 0)), (2, .int (nI (many + 1))), (3, .int (nI much)), (5, .int (nI first)), (9, .int (nI (ts1 x2 (Y 8) g))), (8, .int (bI (rb x2 (Y 8) (g + 1)))), (7, .int (nI (x2 g))), (0, .ref (ad 0)), (6, .int (nI en))]) hx hb dX1_next_353 rfl hl (by decide) rfl (fun ls hl => ?_)
                        refine lv_goto (tgt := 65) hx hb dX1_next_354 (by decide) ?_
                        rw [rL, if_neg (by omega), if_neg (by omega), if_neg (by rw [c_94]; decide), if_neg (by omega), if_neg (by omega), if_neg (by omega), rQ, if_neg (by omega), rKY, if_neg (by omega), rK5, if_neg (by omega), rK6, if_neg (by omega), rK6, if_neg (by omega), rK6, if_neg (by omega), rK9, if_neg (by omega), if_neg (by omega), if_neg (by omega)] at hQ
                        exact ih Y x5 x6 x7 x8 x9 (g + (ts1 x2 (Y 8) g)) (many + 1) much 0 first en (by show Y 8 - (g + (ts1 x2 (Y 8) g)) + 1 - en < k; omega) (show (Y 8) ≤ 32768 by omega) (show (g + (ts1 x2 (Y 8) g)) ≤ (Y 8) by omega) (show (Y 18) ≤ (g + (ts1 x2 (Y 8) g)) by omega) (show (many + 1) ≤ (g + (ts1 x2 (Y 8) g)) by omega) (show (many + 1) ≤ 8000 → (Y 13) = (many + 1) by omega) (show 0 ≤ 1 by omega) (show en ≤ 1 by omega) (show (Y 7) ≤ 1000 by omega) (show (Y 6) ≤ 20000 by omega) (show en = 1 → (g + (ts1 x2 (Y 8) g)) < (Y 8) by omega) hQ _ _ hP hD hS _ (lv_sub hl [8, 0, 2, 3, 1, 4, 9] rfl)
                      · have c_102 := mt (nI_leI (a := 8000) (b := many) (by omega) (by omega)).mpr c_102
                        refine lv_aload_n hx hb dX1_next_334 rfl (lv_at hl 5 rfl) ?_
                        refine lv_iload_n hx hb dX1_next_335 rfl (lv_at hl 6 rfl) ?_
                        refine lv_iload hx hb dX1_next_336 (lv_at hl 2 rfl) ?_
                        refine lv_iload hx hb dX1_next_338 (lv_at hl 8 rfl) ?_
                        refine rm_callv (va_runV (As := [.int (nI g), .int (nI (ts1 x2 (Y 8) g)), .int (nI bf)]) (rest := []) ⟨hx, hb, hml, hown, hts⟩ (r_keep l dC dI ct ad H.size Y x1 x2 x3 x4 x5 x6 x7 x8 x9 g (ts1 x2 (Y 8) g) bf (show g < 32768 by omega) (show Y 18 + ts1 x2 (Y 8) g ≤ 32768 by omega) (show g + ts1 x2 (Y 8) g ≤ 32768 by omega) h2 (show Y 13 < 8000 by omega) (show bf ≤ 1 by omega)) (cwV 3 hts (gV (fun _ h => h) ml_X1_132 im_X1_keep se_X1_keep ini_X1 co_X1_keep) rfl rfl rfl pd_X1_keep ⟨Nat.le_of_ble_eq_true rfl, Nat.le_of_ble_eq_true rfl⟩) (rm_preS hK hP hD) rfl rfl hl.1 rfl (lv_room (Nat.le_of_ble_eq_true rfl)) dX1_next_340 ⟨Nat.zero_le _, Nat.zero_le _⟩) hD hS hA (fun u_106 H locs q_105 hP hD hS => ?_)
                        subst q_105
                        have hP : va_P (dC, dI) vwCl (rmW ct ad ((zu (zu Y 13 (Y 13 + 1)) 18 (Y 18 + (ts1 x2 (Y 8) g))), x1, x2, x3, x4, (nu x5 (Y 13) (Y 18)), (nu x6 (Y 13) (ts1 x2 (Y 8) g)), (nu x7 (Y 13) (x4 g)), (nu x8 (Y 13) bf), (cpG (fun i => x2 (g + i)) (Y 18) (ts1 x2 (Y 8) g) x9))) H := hP
                        have hD : va_D A (rmW ct ad ((zu (zu Y 13 (Y 13 + 1)) 18 (Y 18 + (ts1 x2 (Y 8) g))), x1, x2, x3, x4, (nu x5 (Y 13) (Y 18)), (nu x6 (Y 13) (ts1 x2 (Y 8) g)), (nu x7 (Y 13) (x4 g)), (nu x8 (Y 13) bf), (cpG (fun i => x2 (g + i)) (Y 18) (ts1 x2 (Y 8) g) x9))) := hD
                        refine lv_iinc (v := nI (many + 1)) (lv' := [(2, .int (nI (many + 1))), (3, .int (nI much)), (5, .int (nI first)), (9, .int (nI (ts1 x2 (Y 8) g))), (8, .int (bI (rb x2 (Y 8) (g + 1)))), (7, .int (nI (x2 g))), (0, .ref (ad 0)), (1, .int (nI g)), (4, .int (nI bf)), (6, .int (nI en))]) hx hb dX1_next_343 hl (k := 7) rfl (by exact nI_add many 1) (by decide) rfl (fun ls hl => ?_)
                        refine lv_iconst (v := nI 0) hx hb dX1_next_346 (by decide) ?_
                        refine lv_istore (lv' := [(4, .int (nI 0)), (2, .int (nI (many + 1))), (3, .int (nI much)), (5, .int (nI first)), (9, .int (nI (ts1 x2 (Y 8) g))), (8, .int (bI (rb x2 (Y 8) (g + 1)))), (7, .int (nI (x2 g))), (0, .ref (ad 0)), (1, .int (nI g)), (6, .int (nI en))]) hx hb dX1_next_347 hl (by decide) rfl (fun ls hl => ?_)
                        refine lv_iload_n hx hb dX1_next_349 rfl (lv_at hl 8 rfl) ?_
                        refine lv_iload hx hb dX1_next_350 (lv_at hl 4 rfl) ?_
                        refine lv_iadd hx hb dX1_next_352 ?_
                        refine lv_topi (fun x_108 e_109 => ?_)
                        obtain rfl : x_108 = nI (g + (ts1 x2 (Y 8) g)) := e_109.trans (nI_add g (ts1 x2 (Y 8) g))
                        refine lv_istore_n (lv' := [(1, .int (nI (g + (ts1 x2 (Y 8) g)))), (4, .int (nI 0)), (2, .int (nI (many + 1))), (3, .int (nI much)), (5, .int (nI first)), (9, .int (nI (ts1 x2 (Y 8) g))), (8, .int (bI (rb x2 (Y 8) (g + 1)))), (7, .int (nI (x2 g))), (0, .ref (ad 0)), (6, .int (nI en))]) hx hb dX1_next_353 rfl hl (by decide) rfl (fun ls hl => ?_)
                        refine lv_goto (tgt := 65) hx hb dX1_next_354 (by decide) ?_
                        rw [rL, if_neg (by omega), if_neg (by omega), if_neg (by rw [c_94]; decide), if_neg (by omega), if_neg (by omega), if_neg (by omega), rQ, if_neg (by omega), rKY, if_pos (by omega), rK5, if_pos (by omega), rK6, if_pos (by omega), rK6, if_pos (by omega), rK6, if_pos (by omega), rK9, if_pos (by omega), if_neg (by omega), if_neg (by omega)] at hQ
                        exact ih (zu (zu Y 13 (Y 13 + 1)) 18 (Y 18 + (ts1 x2 (Y 8) g))) ((nu x5 (Y 13) (Y 18))) ((nu x6 (Y 13) (ts1 x2 (Y 8) g))) ((nu x7 (Y 13) (x4 g))) ((nu x8 (Y 13) bf)) ((cpG (fun i => x2 (g + i)) (Y 18) (ts1 x2 (Y 8) g) x9)) (g + (ts1 x2 (Y 8) g)) (many + 1) much 0 first en (by show Y 8 - (g + (ts1 x2 (Y 8) g)) + 1 - en < k; omega) (show (Y 8) ≤ 32768 by omega) (show (g + (ts1 x2 (Y 8) g)) ≤ (Y 8) by omega) (show (Y 18 + (ts1 x2 (Y 8) g)) ≤ (g + (ts1 x2 (Y 8) g)) by omega) (show (many + 1) ≤ (g + (ts1 x2 (Y 8) g)) by omega) (show (many + 1) ≤ 8000 → (Y 13 + 1) = (many + 1) by omega) (show 0 ≤ 1 by omega) (show en ≤ 1 by omega) (show (Y 7) ≤ 1000 by omega) (show (Y 6) ≤ 20000 by omega) (show en = 1 → (g + (ts1 x2 (Y 8) g)) < (Y 8) by omega) hQ _ _ hP hD hS _ (lv_sub hl [8, 0, 2, 3, 1, 4, 9] rfl)
                    · have c_101 := (nI_eq (a := many) (b := 8000) (by omega) (by omega)).mp c_101
                      refine lv_aload_n hx hb dX1_next_316 rfl (lv_at hl 4 rfl) ?_
                      refine va_get (D := (dC, dI)) (ci := 1) (v := .ref (ad 4)) (C := RX1) (T := TX1) (N := 20) hx hb hts inX1 hown hK hP 0 rfl rfl 11 (by decide) (hts _ fl_X1_21) (fun _ h9 => h9) rfl dX1_next_317 ?_
                      refine lv_iload_n hx hb dX1_next_320 rfl (lv_at hl 5 rfl) ?_
                      refine va_iald hx hb hK hP 4 1 rfl rfl (vp_in_nI (by omega) (by decide)) dX1_next_321 ?_
                      refine lv_topi (fun x_110 e_111 => ?_)
                      obtain rfl : x_110 = nI (x4 g) := e_111.trans (by rw [nI_clamp (by omega)])
                      refine lv_goto (tgt := 326) hx hb dX1_next_322 (by decide) ?_
                      refine lv_istore_n (lv' := [(3, .int (nI (x4 g))), (5, .int (nI first)), (9, .int (nI (ts1 x2 (Y 8) g))), (8, .int (bI (rb x2 (Y 8) (g + 1)))), (7, .int (nI (x2 g))), (0, .ref (ad 0)), (1, .int (nI g)), (2, .int (nI many)), (4, .int (nI bf)), (6, .int (nI en))]) hx hb dX1_next_326 rfl hl (by decide) rfl (fun ls hl => ?_)
                      refine lv_iload_n hx hb dX1_next_327 rfl (lv_at hl 7 rfl) ?_
                      refine lv_sipush (v := nI 8000) hx hb dX1_next_328 (by decide) ?_
                      refine lv_icmp_ge (tgt := 343) hx hb dX1_next_331 (by decide) (fun c_112 => ?_) (fun c_112 => ?_)
                      · have c_112 := (nI_leI (a := 8000) (b := many) (by omega) (by omega)).mp c_112
                        refine lv_iinc (v := nI (many + 1)) (lv' := [(2, .int (nI (many + 1))), (3, .int (nI (x4 g))), (5, .int (nI first)), (9, .int (nI (ts1 x2 (Y 8) g))), (8, .int (bI (rb x2 (Y 8) (g + 1)))), (7, .int (nI (x2 g))), (0, .ref (ad 0)), (1, .int (nI g)), (4, .int (nI bf)), (6, .int (nI en))]) hx hb dX1_next_343 hl (k := 7) rfl (by exact nI_add many 1) (by decide) rfl (fun ls hl => ?_)
                        refine lv_iconst (v := nI 0) hx hb dX1_next_346 (by decide) ?_
                        refine lv_istore (lv' := [(4, .int (nI 0)), (2, .int (nI (many + 1))), (3, .int (nI (x4 g))), (5, .int (nI first)), (9, .int (nI (ts1 x2 (Y 8) g))), (8, .int (bI (rb x2 (Y 8) (g + 1)))), (7, .int (nI (x2 g))), (0, .ref (ad 0)), (1, .int (nI g)), (6, .int (nI en))]) hx hb dX1_next_347 hl (by decide) rfl (fun ls hl => ?_)
                        refine lv_iload_n hx hb dX1_next_349 rfl (lv_at hl 8 rfl) ?_
                        refine lv_iload hx hb dX1_next_350 (lv_at hl 4 rfl) ?_
                        refine lv_iadd hx hb dX1_next_352 ?_
                        refine lv_topi (fun x_113 e_114 => ?_)
                        obtain rfl : x_113 = nI (g + (ts1 x2 (Y 8) g)) := e_114.trans (nI_add g (ts1 x2 (Y 8) g))
                        refine lv_istore_n (lv' := [(1, .int (nI (g + (ts1 x2 (Y 8) g)))), (4, .int (nI 0)), (2, .int (nI (many + 1))), (3, .int (nI (x4 g))), (5, .int (nI first)), (9, .int (nI (ts1 x2 (Y 8) g))), (8, .int (bI (rb x2 (Y 8) (g + 1)))), (7, .int (nI (x2 g))), (0, .ref (ad 0)), (6, .int (nI en))]) hx hb dX1_next_353 rfl hl (by decide) rfl (fun ls hl => ?_)
                        refine lv_goto (tgt := 65) hx hb dX1_next_354 (by decide) ?_
                        rw [rL, if_neg (by omega), if_neg (by omega), if_neg (by rw [c_94]; decide), if_neg (by omega), if_neg (by omega), if_neg (by omega), rQ, if_neg (by omega), rKY, if_neg (by omega), rK5, if_neg (by omega), rK6, if_neg (by omega), rK6, if_neg (by omega), rK6, if_neg (by omega), rK9, if_neg (by omega), if_pos (by omega), if_neg (by omega)] at hQ
                        exact ih Y x5 x6 x7 x8 x9 (g + (ts1 x2 (Y 8) g)) (many + 1) (x4 g) 0 first en (by show Y 8 - (g + (ts1 x2 (Y 8) g)) + 1 - en < k; omega) (show (Y 8) ≤ 32768 by omega) (show (g + (ts1 x2 (Y 8) g)) ≤ (Y 8) by omega) (show (Y 18) ≤ (g + (ts1 x2 (Y 8) g)) by omega) (show (many + 1) ≤ (g + (ts1 x2 (Y 8) g)) by omega) (show (many + 1) ≤ 8000 → (Y 13) = (many + 1) by omega) (show 0 ≤ 1 by omega) (show en ≤ 1 by omega) (show (Y 7) ≤ 1000 by omega) (show (Y 6) ≤ 20000 by omega) (show en = 1 → (g + (ts1 x2 (Y 8) g)) < (Y 8) by omega) hQ _ _ hP hD hS _ (lv_sub hl [8, 0, 2, 3, 1, 4, 9] rfl)
                      · have c_112 := mt (nI_leI (a := 8000) (b := many) (by omega) (by omega)).mpr c_112
                        omega
                  · have c_100 := (nI_eq (a := many) (b := 0) (by omega) (by omega)).mp c_100
                    refine lv_aload_n hx hb dX1_next_296 rfl (lv_at hl 3 rfl) ?_
                    refine va_get (D := (dC, dI)) (ci := 1) (v := .ref (ad 4)) (C := RX1) (T := TX1) (N := 20) hx hb hts inX1 hown hK hP 0 rfl rfl 11 (by decide) (hts _ fl_X1_21) (fun _ h9 => h9) rfl dX1_next_297 ?_
                    refine lv_iload_n hx hb dX1_next_300 rfl (lv_at hl 4 rfl) ?_
                    refine va_iald hx hb hK hP 4 1 rfl rfl (vp_in_nI (by omega) (by decide)) dX1_next_301 ?_
                    refine lv_topi (fun x_115 e_116 => ?_)
                    obtain rfl : x_115 = nI (x4 g) := e_116.trans (by rw [nI_clamp (by omega)])
                    refine lv_goto (tgt := 307) hx hb dX1_next_302 (by decide) ?_
                    refine lv_istore (lv' := [(5, .int (nI (x4 g))), (9, .int (nI (ts1 x2 (Y 8) g))), (8, .int (bI (rb x2 (Y 8) (g + 1)))), (7, .int (nI (x2 g))), (0, .ref (ad 0)), (1, .int (nI g)), (2, .int (nI many)), (3, .int (nI much)), (4, .int (nI bf)), (6, .int (nI en))]) hx hb dX1_next_307 hl (by decide) rfl (fun ls hl => ?_)
                    refine lv_iload_n hx hb dX1_next_309 rfl (lv_at hl 6 rfl) ?_
                    refine lv_sipush (v := nI 8000) hx hb dX1_next_310 (by decide) ?_
                    refine lv_icmp_ne (tgt := 325) hx hb dX1_next_313 (by decide) (fun c_117 => ?_) (fun c_117 => ?_)
                    · have c_117 := mt (nI_eq (a := many) (b := 8000) (by omega) (by omega)).mpr c_117
                      refine lv_iload_n hx hb dX1_next_325 rfl (lv_at hl 7 rfl) ?_
                      refine lv_istore_n (lv' := [(3, .int (nI much)), (5, .int (nI (x4 g))), (9, .int (nI (ts1 x2 (Y 8) g))), (8, .int (bI (rb x2 (Y 8) (g + 1)))), (7, .int (nI (x2 g))), (0, .ref (ad 0)), (1, .int (nI g)), (2, .int (nI many)), (4, .int (nI bf)), (6, .int (nI en))]) hx hb dX1_next_326 rfl hl (by decide) rfl (fun ls hl => ?_)
                      refine lv_iload_n hx hb dX1_next_327 rfl (lv_at hl 7 rfl) ?_
                      refine lv_sipush (v := nI 8000) hx hb dX1_next_328 (by decide) ?_
                      refine lv_icmp_ge (tgt := 343) hx hb dX1_next_331 (by decide) (fun c_118 => ?_) (fun c_118 => ?_)
                      · have c_118 := (nI_leI (a := 8000) (b := many) (by omega) (by omega)).mp c_118
                        omega
                      · have c_118 := mt (nI_leI (a := 8000) (b := many) (by omega) (by omega)).mpr c_118
                        refine lv_aload_n hx hb dX1_next_334 rfl (lv_at hl 5 rfl) ?_
                        refine lv_iload_n hx hb dX1_next_335 rfl (lv_at hl 6 rfl) ?_
                        refine lv_iload hx hb dX1_next_336 (lv_at hl 2 rfl) ?_
                        refine lv_iload hx hb dX1_next_338 (lv_at hl 8 rfl) ?_
                        refine rm_callv (va_runV (As := [.int (nI g), .int (nI (ts1 x2 (Y 8) g)), .int (nI bf)]) (rest := []) ⟨hx, hb, hml, hown, hts⟩ (r_keep l dC dI ct ad H.size Y x1 x2 x3 x4 x5 x6 x7 x8 x9 g (ts1 x2 (Y 8) g) bf (show g < 32768 by omega) (show Y 18 + ts1 x2 (Y 8) g ≤ 32768 by omega) (show g + ts1 x2 (Y 8) g ≤ 32768 by omega) h2 (show Y 13 < 8000 by omega) (show bf ≤ 1 by omega)) (cwV 3 hts (gV (fun _ h => h) ml_X1_132 im_X1_keep se_X1_keep ini_X1 co_X1_keep) rfl rfl rfl pd_X1_keep ⟨Nat.le_of_ble_eq_true rfl, Nat.le_of_ble_eq_true rfl⟩) (rm_preS hK hP hD) rfl rfl hl.1 rfl (lv_room (Nat.le_of_ble_eq_true rfl)) dX1_next_340 ⟨Nat.zero_le _, Nat.zero_le _⟩) hD hS hA (fun u_120 H locs q_119 hP hD hS => ?_)
                        subst q_119
                        have hP : va_P (dC, dI) vwCl (rmW ct ad ((zu (zu Y 13 (Y 13 + 1)) 18 (Y 18 + (ts1 x2 (Y 8) g))), x1, x2, x3, x4, (nu x5 (Y 13) (Y 18)), (nu x6 (Y 13) (ts1 x2 (Y 8) g)), (nu x7 (Y 13) (x4 g)), (nu x8 (Y 13) bf), (cpG (fun i => x2 (g + i)) (Y 18) (ts1 x2 (Y 8) g) x9))) H := hP
                        have hD : va_D A (rmW ct ad ((zu (zu Y 13 (Y 13 + 1)) 18 (Y 18 + (ts1 x2 (Y 8) g))), x1, x2, x3, x4, (nu x5 (Y 13) (Y 18)), (nu x6 (Y 13) (ts1 x2 (Y 8) g)), (nu x7 (Y 13) (x4 g)), (nu x8 (Y 13) bf), (cpG (fun i => x2 (g + i)) (Y 18) (ts1 x2 (Y 8) g) x9))) := hD
                        refine lv_iinc (v := nI (many + 1)) (lv' := [(2, .int (nI (many + 1))), (3, .int (nI much)), (5, .int (nI (x4 g))), (9, .int (nI (ts1 x2 (Y 8) g))), (8, .int (bI (rb x2 (Y 8) (g + 1)))), (7, .int (nI (x2 g))), (0, .ref (ad 0)), (1, .int (nI g)), (4, .int (nI bf)), (6, .int (nI en))]) hx hb dX1_next_343 hl (k := 7) rfl (by exact nI_add many 1) (by decide) rfl (fun ls hl => ?_)
                        refine lv_iconst (v := nI 0) hx hb dX1_next_346 (by decide) ?_
                        refine lv_istore (lv' := [(4, .int (nI 0)), (2, .int (nI (many + 1))), (3, .int (nI much)), (5, .int (nI (x4 g))), (9, .int (nI (ts1 x2 (Y 8) g))), (8, .int (bI (rb x2 (Y 8) (g + 1)))), (7, .int (nI (x2 g))), (0, .ref (ad 0)), (1, .int (nI g)), (6, .int (nI en))]) hx hb dX1_next_347 hl (by decide) rfl (fun ls hl => ?_)
                        refine lv_iload_n hx hb dX1_next_349 rfl (lv_at hl 8 rfl) ?_
                        refine lv_iload hx hb dX1_next_350 (lv_at hl 4 rfl) ?_
                        refine lv_iadd hx hb dX1_next_352 ?_
                        refine lv_topi (fun x_122 e_123 => ?_)
                        obtain rfl : x_122 = nI (g + (ts1 x2 (Y 8) g)) := e_123.trans (nI_add g (ts1 x2 (Y 8) g))
                        refine lv_istore_n (lv' := [(1, .int (nI (g + (ts1 x2 (Y 8) g)))), (4, .int (nI 0)), (2, .int (nI (many + 1))), (3, .int (nI much)), (5, .int (nI (x4 g))), (9, .int (nI (ts1 x2 (Y 8) g))), (8, .int (bI (rb x2 (Y 8) (g + 1)))), (7, .int (nI (x2 g))), (0, .ref (ad 0)), (6, .int (nI en))]) hx hb dX1_next_353 rfl hl (by decide) rfl (fun ls hl => ?_)
                        refine lv_goto (tgt := 65) hx hb dX1_next_354 (by decide) ?_
                        rw [rL, if_neg (by omega), if_neg (by omega), if_neg (by rw [c_94]; decide), if_neg (by omega), if_neg (by omega), if_neg (by omega), rQ, if_neg (by omega), rKY, if_pos (by omega), rK5, if_pos (by omega), rK6, if_pos (by omega), rK6, if_pos (by omega), rK6, if_pos (by omega), rK9, if_pos (by omega), if_neg (by omega), if_pos (by omega)] at hQ
                        exact ih (zu (zu Y 13 (Y 13 + 1)) 18 (Y 18 + (ts1 x2 (Y 8) g))) ((nu x5 (Y 13) (Y 18))) ((nu x6 (Y 13) (ts1 x2 (Y 8) g))) ((nu x7 (Y 13) (x4 g))) ((nu x8 (Y 13) bf)) ((cpG (fun i => x2 (g + i)) (Y 18) (ts1 x2 (Y 8) g) x9)) (g + (ts1 x2 (Y 8) g)) (many + 1) much 0 (x4 g) en (by show Y 8 - (g + (ts1 x2 (Y 8) g)) + 1 - en < k; omega) (show (Y 8) ≤ 32768 by omega) (show (g + (ts1 x2 (Y 8) g)) ≤ (Y 8) by omega) (show (Y 18 + (ts1 x2 (Y 8) g)) ≤ (g + (ts1 x2 (Y 8) g)) by omega) (show (many + 1) ≤ (g + (ts1 x2 (Y 8) g)) by omega) (show (many + 1) ≤ 8000 → (Y 13 + 1) = (many + 1) by omega) (show 0 ≤ 1 by omega) (show en ≤ 1 by omega) (show (Y 7) ≤ 1000 by omega) (show (Y 6) ≤ 20000 by omega) (show en = 1 → (g + (ts1 x2 (Y 8) g)) < (Y 8) by omega) hQ _ _ hP hD hS _ (lv_sub hl [8, 0, 2, 3, 1, 4, 9] rfl)
                    · have c_117 := (nI_eq (a := many) (b := 8000) (by omega) (by omega)).mp c_117
                      omega
                · have c_99 := (nI_eq (a := ts1 x2 (Y 8) g) (b := 1) (by omega) (by omega)).mp c_99
                  refine lv_iload hx hb dX1_next_245 (lv_at hl 2 rfl) ?_
                  refine lv_bipush (v := nI 34) hx hb dX1_next_247 (by decide) ?_
                  refine lv_icmp_eq (tgt := 259) hx hb dX1_next_249 (by decide) (fun c_124 => ?_) (fun c_124 => ?_)
                  · have c_124 := (nI_eq (a := x2 g) (b := 34) (by omega) (by omega)).mp c_124
                    refine lv_aload_n hx hb dX1_next_259 rfl (lv_at hl 3 rfl) ?_
                    refine lv_dup hx hb dX1_next_260 rfl ?_
                    refine va_get (D := (dC, dI)) (ci := 1) (v := .int (nI (Y 7))) (C := RX1) (T := TX1) (N := 20) hx hb hts inX1 hown hK hP 0 rfl rfl 7 (by decide) (hts _ fl_X1_63) (fun _ h9 => h9) rfl dX1_next_261 ?_
                    refine lv_iconst (v := nI 1) hx hb dX1_next_264 (by decide) ?_
                    refine lv_iadd hx hb dX1_next_265 ?_
                    refine lv_topi (fun x_125 e_126 => ?_)
                    obtain rfl : x_125 = nI (Y 7 + 1) := e_126.trans (nI_add (Y 7) 1)
                    refine va_put (D := (dC, dI)) (ci := 1) (v := .int (nI (Y 7 + 1))) (ty := .int) (C := RX1) (T := TX1) (N := 20) hx hb hts inX1 tyX1 okX1 nmX1 hown hK hP hD hS 0 rfl rfl 7 (by decide) (hts _ fl_X1_63) (fun _ h9 => h9) rfl (by decide +kernel) rfl rfl (Nat.le_of_ble_eq_true rfl) dX1_next_266 (fun H locs hP hD hS => ?_)
                    have hP : va_P (dC, dI) vwCl (rmW ct ad ((zu Y 7 (Y 7 + 1)), x1, x2, x3, x4, x5, x6, x7, x8, x9)) H := hP
                    have hD : va_D A (rmW ct ad ((zu Y 7 (Y 7 + 1)), x1, x2, x3, x4, x5, x6, x7, x8, x9)) := hD
                    refine lv_aload_n hx hb dX1_next_269 rfl (lv_at hl 3 rfl) ?_
                    refine va_get (D := (dC, dI)) (ci := 1) (v := .int (nI (Y 7 + 1))) (C := RX1) (T := TX1) (N := 20) hx hb hts inX1 hown hK hP 0 rfl rfl 7 (by decide) (hts _ fl_X1_63) (fun _ h9 => h9) rfl dX1_next_270 ?_
                    refine lv_sipush (v := nI 1000) hx hb dX1_next_273 (by decide) ?_
                    refine lv_icmp_le (tgt := 292) hx hb dX1_next_276 (by decide) (fun c_127 => ?_) (fun c_127 => ?_)
                    · have c_127 := (nI_leI (a := Y 7 + 1) (b := 1000) (by omega) (by omega)).mp c_127
                      refine lv_iload_n hx hb dX1_next_292 rfl (lv_at hl 5 rfl) ?_
                      refine lv_if_ne (tgt := 305) hx hb dX1_next_293 (by decide) (fun c_128 => ?_) (fun c_128 => ?_)
                      · have c_128 := mt (nI_eq (a := many) (b := 0) (by omega) (by omega)).mpr c_128
                        refine lv_iload hx hb dX1_next_305 (lv_at hl 8 rfl) ?_
                        refine lv_istore (lv' := [(5, .int (nI first)), (9, .int (nI (ts1 x2 (Y 8) g))), (8, .int (bI (rb x2 (Y 8) (g + 1)))), (7, .int (nI (x2 g))), (0, .ref (ad 0)), (1, .int (nI g)), (2, .int (nI many)), (3, .int (nI much)), (4, .int (nI bf)), (6, .int (nI en))]) hx hb dX1_next_307 hl (by decide) rfl (fun ls hl => ?_)
                        refine lv_iload_n hx hb dX1_next_309 rfl (lv_at hl 6 rfl) ?_
                        refine lv_sipush (v := nI 8000) hx hb dX1_next_310 (by decide) ?_
                        refine lv_icmp_ne (tgt := 325) hx hb dX1_next_313 (by decide) (fun c_129 => ?_) (fun c_129 => ?_)
                        · have c_129 := mt (nI_eq (a := many) (b := 8000) (by omega) (by omega)).mpr c_129
                          refine lv_iload_n hx hb dX1_next_325 rfl (lv_at hl 7 rfl) ?_
                          refine lv_istore_n (lv' := [(3, .int (nI much)), (5, .int (nI first)), (9, .int (nI (ts1 x2 (Y 8) g))), (8, .int (bI (rb x2 (Y 8) (g + 1)))), (7, .int (nI (x2 g))), (0, .ref (ad 0)), (1, .int (nI g)), (2, .int (nI many)), (4, .int (nI bf)), (6, .int (nI en))]) hx hb dX1_next_326 rfl hl (by decide) rfl (fun ls hl => ?_)
                          refine lv_iload_n hx hb dX1_next_327 rfl (lv_at hl 7 rfl) ?_
                          refine lv_sipush (v := nI 8000) hx hb dX1_next_328 (by decide) ?_
                          refine lv_icmp_ge (tgt := 343) hx hb dX1_next_331 (by decide) (fun c_130 => ?_) (fun c_130 => ?_)
                          · have c_130 := (nI_leI (a := 8000) (b := many) (by omega) (by omega)).mp c_130
                            refine lv_iinc (v := nI (many + 1)) (lv' := [(2, .int (nI (many + 1))), (3, .int (nI much)), (5, .int (nI first)), (9, .int (nI (ts1 x2 (Y 8) g))), (8, .int (bI (rb x2 (Y 8) (g + 1)))), (7, .int (nI (x2 g))), (0, .ref (ad 0)), (1, .int (nI g)), (4, .int (nI bf)), (6, .int (nI en))]) hx hb dX1_next_343 hl (k := 7) rfl (by exact nI_add many 1) (by decide) rfl (fun ls hl => ?_)
                            refine lv_iconst (v := nI 0) hx hb dX1_next_346 (by decide) ?_
                            refine lv_istore (lv' := [(4, .int (nI 0)), (2, .int (nI (many + 1))), (3, .int (nI much)), (5, .int (nI first)), (9, .int (nI (ts1 x2 (Y 8) g))), (8, .int (bI (rb x2 (Y 8) (g + 1)))), (7, .int (nI (x2 g))), (0, .ref (ad 0)), (1, .int (nI g)), (6, .int (nI en))]) hx hb dX1_next_347 hl (by decide) rfl (fun ls hl => ?_)
                            refine lv_iload_n hx hb dX1_next_349 rfl (lv_at hl 8 rfl) ?_
                            refine lv_iload hx hb dX1_next_350 (lv_at hl 4 rfl) ?_
                            refine lv_iadd hx hb dX1_next_352 ?_
                            refine lv_topi (fun x_131 e_132 => ?_)
                            obtain rfl : x_131 = nI (g + (ts1 x2 (Y 8) g)) := e_132.trans (nI_add g (ts1 x2 (Y 8) g))
                            refine lv_istore_n (lv' := [(1, .int (nI (g + (ts1 x2 (Y 8) g)))), (4, .int (nI 0)), (2, .int (nI (many + 1))), (3, .int (nI much)), (5, .int (nI first)), (9, .int (nI (ts1 x2 (Y 8) g))), (8, .int (bI (rb x2 (Y 8) (g + 1)))), (7, .int (nI (x2 g))), (0, .ref (ad 0)), (6, .int (nI en))]) hx hb dX1_next_353 rfl hl (by decide) rfl (fun ls hl => ?_)
                            refine lv_goto (tgt := 65) hx hb dX1_next_354 (by decide) ?_
                            rw [rL, if_neg (by omega), if_neg (by omega), if_neg (by rw [c_94]; decide), if_neg (by omega), if_neg (by omega), if_neg (by omega), rQ, if_pos (by omega), rKY, if_neg (by omega), rK5, if_neg (by omega), rK6, if_neg (by omega), rK6, if_neg (by omega), rK6, if_neg (by omega), rK9, if_neg (by omega), if_neg (by omega), if_neg (by omega)] at hQ
                            exact ih (zu Y 7 (Y 7 + 1)) x5 x6 x7 x8 x9 (g + (ts1 x2 (Y 8) g)) (many + 1) much 0 first en (by show Y 8 - (g + (ts1 x2 (Y 8) g)) + 1 - en < k; omega) (show (Y 8) ≤ 32768 by omega) (show (g + (ts1 x2 (Y 8) g)) ≤ (Y 8) by omega) (show (Y 18) ≤ (g + (ts1 x2 (Y 8) g)) by omega) (show (many + 1) ≤ (g + (ts1 x2 (Y 8) g)) by omega) (show (many + 1) ≤ 8000 → (Y 13) = (many + 1) by omega) (show 0 ≤ 1 by omega) (show en ≤ 1 by omega) (show (Y 7 + 1) ≤ 1000 by omega) (show (Y 6) ≤ 20000 by omega) (show en = 1 → (g + (ts1 x2 (Y 8) g)) < (Y 8) by omega) hQ _ _ hP hD hS _ (lv_sub hl [8, 0, 2, 3, 1, 4, 9] rfl)
                          · have c_130 := mt (nI_leI (a := 8000) (b := many) (by omega) (by omega)).mpr c_130
                            refine lv_aload_n hx hb dX1_next_334 rfl (lv_at hl 5 rfl) ?_
                            refine lv_iload_n hx hb dX1_next_335 rfl (lv_at hl 6 rfl) ?_
                            refine lv_iload hx hb dX1_next_336 (lv_at hl 2 rfl) ?_
                            refine lv_iload hx hb dX1_next_338 (lv_at hl 8 rfl) ?_
                            refine rm_callv (va_runV (As := [.int (nI g), .int (nI (ts1 x2 (Y 8) g)), .int (nI bf)]) (rest := []) ⟨hx, hb, hml, hown, hts⟩ (r_keep l dC dI ct ad H.size (zu Y 7 (Y 7 + 1)) x1 x2 x3 x4 x5 x6 x7 x8 x9 g (ts1 x2 (Y 8) g) bf (show g < 32768 by omega) (show Y 18 + ts1 x2 (Y 8) g ≤ 32768 by omega) (show g + ts1 x2 (Y 8) g ≤ 32768 by omega) h2 (show Y 13 < 8000 by omega) (show bf ≤ 1 by omega)) (cwV 3 hts (gV (fun _ h => h) ml_X1_132 im_X1_keep se_X1_keep ini_X1 co_X1_keep) rfl rfl rfl pd_X1_keep ⟨Nat.le_of_ble_eq_true rfl, Nat.le_of_ble_eq_true rfl⟩) (rm_preS hK hP hD) rfl rfl hl.1 rfl (lv_room (Nat.le_of_ble_eq_true rfl)) dX1_next_340 ⟨Nat.zero_le _, Nat.zero_le _⟩) hD hS hA (fun u_134 H locs q_133 hP hD hS => ?_)
                            subst q_133
                            have hP : va_P (dC, dI) vwCl (rmW ct ad ((zu (zu (zu Y 7 (Y 7 + 1)) 13 (Y 13 + 1)) 18 (Y 18 + (ts1 x2 (Y 8) g))), x1, x2, x3, x4, (nu x5 (Y 13) (Y 18)), (nu x6 (Y 13) (ts1 x2 (Y 8) g)), (nu x7 (Y 13) (x4 g)), (nu x8 (Y 13) bf), (cpG (fun i => x2 (g + i)) (Y 18) (ts1 x2 (Y 8) g) x9))) H := hP
                            have hD : va_D A (rmW ct ad ((zu (zu (zu Y 7 (Y 7 + 1)) 13 (Y 13 + 1)) 18 (Y 18 + (ts1 x2 (Y 8) g))), x1, x2, x3, x4, (nu x5 (Y 13) (Y 18)), (nu x6 (Y 13) (ts1 x2 (Y 8) g)), (nu x7 (Y 13) (x4 g)), (nu x8 (Y 13) bf), (cpG (fun i => x2 (g + i)) (Y 18) (ts1 x2 (Y 8) g) x9))) := hD
                            refine lv_iinc (v := nI (many + 1)) (lv' := [(2, .int (nI (many + 1))), (3, .int (nI much)), (5, .int (nI first)), (9, .int (nI (ts1 x2 (Y 8) g))), (8, .int (bI (rb x2 (Y 8) (g + 1)))), (7, .int (nI (x2 g))), (0, .ref (ad 0)), (1, .int (nI g)), (4, .int (nI bf)), (6, .int (nI en))]) hx hb dX1_next_343 hl (k := 7) rfl (by exact nI_add many 1) (by decide) rfl (fun ls hl => ?_)
                            refine lv_iconst (v := nI 0) hx hb dX1_next_346 (by decide) ?_
                            refine lv_istore (lv' := [(4, .int (nI 0)), (2, .int (nI (many + 1))), (3, .int (nI much)), (5, .int (nI first)), (9, .int (nI (ts1 x2 (Y 8) g))), (8, .int (bI (rb x2 (Y 8) (g + 1)))), (7, .int (nI (x2 g))), (0, .ref (ad 0)), (1, .int (nI g)), (6, .int (nI en))]) hx hb dX1_next_347 hl (by decide) rfl (fun ls hl => ?_)
                            refine lv_iload_n hx hb dX1_next_349 rfl (lv_at hl 8 rfl) ?_
                            refine lv_iload hx hb dX1_next_350 (lv_at hl 4 rfl) ?_
                            refine lv_iadd hx hb dX1_next_352 ?_
                            refine lv_topi (fun x_136 e_137 => ?_)
                            obtain rfl : x_136 = nI (g + (ts1 x2 (Y 8) g)) := e_137.trans (nI_add g (ts1 x2 (Y 8) g))
                            refine lv_istore_n (lv' := [(1, .int (nI (g + (ts1 x2 (Y 8) g)))), (4, .int (nI 0)), (2, .int (nI (many + 1))), (3, .int (nI much)), (5, .int (nI first)), (9, .int (nI (ts1 x2 (Y 8) g))), (8, .int (bI (rb x2 (Y 8) (g + 1)))), (7, .int (nI (x2 g))), (0, .ref (ad 0)), (6, .int (nI en))]) hx hb dX1_next_353 rfl hl (by decide) rfl (fun ls hl => ?_)
                            refine lv_goto (tgt := 65) hx hb dX1_next_354 (by decide) ?_
                            rw [rL, if_neg (by omega), if_neg (by omega), if_neg (by rw [c_94]; decide), if_neg (by omega), if_neg (by omega), if_neg (by omega), rQ, if_pos (by omega), rKY, if_pos (by omega), rK5, if_pos (by omega), rK6, if_pos (by omega), rK6, if_pos (by omega), rK6, if_pos (by omega), rK9, if_pos (by omega), if_neg (by omega), if_neg (by omega)] at hQ
                            exact ih (zu (zu (zu Y 7 (Y 7 + 1)) 13 (Y 13 + 1)) 18 (Y 18 + (ts1 x2 (Y 8) g))) ((nu x5 (Y 13) (Y 18))) ((nu x6 (Y 13) (ts1 x2 (Y 8) g))) ((nu x7 (Y 13) (x4 g))) ((nu x8 (Y 13) bf)) ((cpG (fun i => x2 (g + i)) (Y 18) (ts1 x2 (Y 8) g) x9)) (g + (ts1 x2 (Y 8) g)) (many + 1) much 0 first en (by show Y 8 - (g + (ts1 x2 (Y 8) g)) + 1 - en < k; omega) (show (Y 8) ≤ 32768 by omega) (show (g + (ts1 x2 (Y 8) g)) ≤ (Y 8) by omega) (show (Y 18 + (ts1 x2 (Y 8) g)) ≤ (g + (ts1 x2 (Y 8) g)) by omega) (show (many + 1) ≤ (g + (ts1 x2 (Y 8) g)) by omega) (show (many + 1) ≤ 8000 → (Y 13 + 1) = (many + 1) by omega) (show 0 ≤ 1 by omega) (show en ≤ 1 by omega) (show (Y 7 + 1) ≤ 1000 by omega) (show (Y 6) ≤ 20000 by omega) (show en = 1 → (g + (ts1 x2 (Y 8) g)) < (Y 8) by omega) hQ _ _ hP hD hS _ (lv_sub hl [8, 0, 2, 3, 1, 4, 9] rfl)
                        · have c_129 := (nI_eq (a := many) (b := 8000) (by omega) (by omega)).mp c_129
                          refine lv_aload_n hx hb dX1_next_316 rfl (lv_at hl 4 rfl) ?_
                          refine va_get (D := (dC, dI)) (ci := 1) (v := .ref (ad 4)) (C := RX1) (T := TX1) (N := 20) hx hb hts inX1 hown hK hP 0 rfl rfl 11 (by decide) (hts _ fl_X1_21) (fun _ h9 => h9) rfl dX1_next_317 ?_
                          refine lv_iload_n hx hb dX1_next_320 rfl (lv_at hl 5 rfl) ?_
                          refine va_iald hx hb hK hP 4 1 rfl rfl (vp_in_nI (by omega) (by decide)) dX1_next_321 ?_
                          refine lv_topi (fun x_138 e_139 => ?_)
                          obtain rfl : x_138 = nI (x4 g) := e_139.trans (by rw [nI_clamp (by omega)])
                          refine lv_goto (tgt := 326) hx hb dX1_next_322 (by decide) ?_
                          refine lv_istore_n (lv' := [(3, .int (nI (x4 g))), (5, .int (nI first)), (9, .int (nI (ts1 x2 (Y 8) g))), (8, .int (bI (rb x2 (Y 8) (g + 1)))), (7, .int (nI (x2 g))), (0, .ref (ad 0)), (1, .int (nI g)), (2, .int (nI many)), (4, .int (nI bf)), (6, .int (nI en))]) hx hb dX1_next_326 rfl hl (by decide) rfl (fun ls hl => ?_)
                          refine lv_iload_n hx hb dX1_next_327 rfl (lv_at hl 7 rfl) ?_
                          refine lv_sipush (v := nI 8000) hx hb dX1_next_328 (by decide) ?_
                          refine lv_icmp_ge (tgt := 343) hx hb dX1_next_331 (by decide) (fun c_140 => ?_) (fun c_140 => ?_)
                          · have c_140 := (nI_leI (a := 8000) (b := many) (by omega) (by omega)).mp c_140
                            refine lv_iinc (v := nI (many + 1)) (lv' := [(2, .int (nI (many + 1))), (3, .int (nI (x4 g))), (5, .int (nI first)), (9, .int (nI (ts1 x2 (Y 8) g))), (8, .int (bI (rb x2 (Y 8) (g + 1)))), (7, .int (nI (x2 g))), (0, .ref (ad 0)), (1, .int (nI g)), (4, .int (nI bf)), (6, .int (nI en))]) hx hb dX1_next_343 hl (k := 7) rfl (by exact nI_add many 1) (by decide) rfl (fun ls hl => ?_)
                            refine lv_iconst (v := nI 0) hx hb dX1_next_346 (by decide) ?_
                            refine lv_istore (lv' := [(4, .int (nI 0)), (2, .int (nI (many + 1))), (3, .int (nI (x4 g))), (5, .int (nI first)), (9, .int (nI (ts1 x2 (Y 8) g))), (8, .int (bI (rb x2 (Y 8) (g + 1)))), (7, .int (nI (x2 g))), (0, .ref (ad 0)), (1, .int (nI g)), (6, .int (nI en))]) hx hb dX1_next_347 hl (by decide) rfl (fun ls hl => ?_)
                            refine lv_iload_n hx hb dX1_next_349 rfl (lv_at hl 8 rfl) ?_
                            refine lv_iload hx hb dX1_next_350 (lv_at hl 4 rfl) ?_
                            refine lv_iadd hx hb dX1_next_352 ?_
                            refine lv_topi (fun x_141 e_142 => ?_)
                            obtain rfl : x_141 = nI (g + (ts1 x2 (Y 8) g)) := e_142.trans (nI_add g (ts1 x2 (Y 8) g))
                            refine lv_istore_n (lv' := [(1, .int (nI (g + (ts1 x2 (Y 8) g)))), (4, .int (nI 0)), (2, .int (nI (many + 1))), (3, .int (nI (x4 g))), (5, .int (nI first)), (9, .int (nI (ts1 x2 (Y 8) g))), (8, .int (bI (rb x2 (Y 8) (g + 1)))), (7, .int (nI (x2 g))), (0, .ref (ad 0)), (6, .int (nI en))]) hx hb dX1_next_353 rfl hl (by decide) rfl (fun ls hl => ?_)
                            refine lv_goto (tgt := 65) hx hb dX1_next_354 (by decide) ?_
                            rw [rL, if_neg (by omega), if_neg (by omega), if_neg (by rw [c_94]; decide), if_neg (by omega), if_neg (by omega), if_neg (by omega), rQ, if_pos (by omega), rKY, if_neg (by omega), rK5, if_neg (by omega), rK6, if_neg (by omega), rK6, if_neg (by omega), rK6, if_neg (by omega), rK9, if_neg (by omega), if_pos (by omega), if_neg (by omega)] at hQ
                            exact ih (zu Y 7 (Y 7 + 1)) x5 x6 x7 x8 x9 (g + (ts1 x2 (Y 8) g)) (many + 1) (x4 g) 0 first en (by show Y 8 - (g + (ts1 x2 (Y 8) g)) + 1 - en < k; omega) (show (Y 8) ≤ 32768 by omega) (show (g + (ts1 x2 (Y 8) g)) ≤ (Y 8) by omega) (show (Y 18) ≤ (g + (ts1 x2 (Y 8) g)) by omega) (show (many + 1) ≤ (g + (ts1 x2 (Y 8) g)) by omega) (show (many + 1) ≤ 8000 → (Y 13) = (many + 1) by omega) (show 0 ≤ 1 by omega) (show en ≤ 1 by omega) (show (Y 7 + 1) ≤ 1000 by omega) (show (Y 6) ≤ 20000 by omega) (show en = 1 → (g + (ts1 x2 (Y 8) g)) < (Y 8) by omega) hQ _ _ hP hD hS _ (lv_sub hl [8, 0, 2, 3, 1, 4, 9] rfl)
                          · have c_140 := mt (nI_leI (a := 8000) (b := many) (by omega) (by omega)).mpr c_140
                            omega
                      · have c_128 := (nI_eq (a := many) (b := 0) (by omega) (by omega)).mp c_128
                        refine lv_aload_n hx hb dX1_next_296 rfl (lv_at hl 3 rfl) ?_
                        refine va_get (D := (dC, dI)) (ci := 1) (v := .ref (ad 4)) (C := RX1) (T := TX1) (N := 20) hx hb hts inX1 hown hK hP 0 rfl rfl 11 (by decide) (hts _ fl_X1_21) (fun _ h9 => h9) rfl dX1_next_297 ?_
                        refine lv_iload_n hx hb dX1_next_300 rfl (lv_at hl 4 rfl) ?_
                        refine va_iald hx hb hK hP 4 1 rfl rfl (vp_in_nI (by omega) (by decide)) dX1_next_301 ?_
                        refine lv_topi (fun x_143 e_144 => ?_)
                        obtain rfl : x_143 = nI (x4 g) := e_144.trans (by rw [nI_clamp (by omega)])
                        refine lv_goto (tgt := 307) hx hb dX1_next_302 (by decide) ?_
                        refine lv_istore (lv' := [(5, .int (nI (x4 g))), (9, .int (nI (ts1 x2 (Y 8) g))), (8, .int (bI (rb x2 (Y 8) (g + 1)))), (7, .int (nI (x2 g))), (0, .ref (ad 0)), (1, .int (nI g)), (2, .int (nI many)), (3, .int (nI much)), (4, .int (nI bf)), (6, .int (nI en))]) hx hb dX1_next_307 hl (by decide) rfl (fun ls hl => ?_)
                        refine lv_iload_n hx hb dX1_next_309 rfl (lv_at hl 6 rfl) ?_
                        refine lv_sipush (v := nI 8000) hx hb dX1_next_310 (by decide) ?_
                        refine lv_icmp_ne (tgt := 325) hx hb dX1_next_313 (by decide) (fun c_145 => ?_) (fun c_145 => ?_)
                        · have c_145 := mt (nI_eq (a := many) (b := 8000) (by omega) (by omega)).mpr c_145
                          refine lv_iload_n hx hb dX1_next_325 rfl (lv_at hl 7 rfl) ?_
                          refine lv_istore_n (lv' := [(3, .int (nI much)), (5, .int (nI (x4 g))), (9, .int (nI (ts1 x2 (Y 8) g))), (8, .int (bI (rb x2 (Y 8) (g + 1)))), (7, .int (nI (x2 g))), (0, .ref (ad 0)), (1, .int (nI g)), (2, .int (nI many)), (4, .int (nI bf)), (6, .int (nI en))]) hx hb dX1_next_326 rfl hl (by decide) rfl (fun ls hl => ?_)
                          refine lv_iload_n hx hb dX1_next_327 rfl (lv_at hl 7 rfl) ?_
                          refine lv_sipush (v := nI 8000) hx hb dX1_next_328 (by decide) ?_
                          refine lv_icmp_ge (tgt := 343) hx hb dX1_next_331 (by decide) (fun c_146 => ?_) (fun c_146 => ?_)
                          · have c_146 := (nI_leI (a := 8000) (b := many) (by omega) (by omega)).mp c_146
                            omega
                          · have c_146 := mt (nI_leI (a := 8000) (b := many) (by omega) (by omega)).mpr c_146
                            refine lv_aload_n hx hb dX1_next_334 rfl (lv_at hl 5 rfl) ?_
                            refine lv_iload_n hx hb dX1_next_335 rfl (lv_at hl 6 rfl) ?_
                            refine lv_iload hx hb dX1_next_336 (lv_at hl 2 rfl) ?_
                            refine lv_iload hx hb dX1_next_338 (lv_at hl 8 rfl) ?_
                            refine rm_callv (va_runV (As := [.int (nI g), .int (nI (ts1 x2 (Y 8) g)), .int (nI bf)]) (rest := []) ⟨hx, hb, hml, hown, hts⟩ (r_keep l dC dI ct ad H.size (zu Y 7 (Y 7 + 1)) x1 x2 x3 x4 x5 x6 x7 x8 x9 g (ts1 x2 (Y 8) g) bf (show g < 32768 by omega) (show Y 18 + ts1 x2 (Y 8) g ≤ 32768 by omega) (show g + ts1 x2 (Y 8) g ≤ 32768 by omega) h2 (show Y 13 < 8000 by omega) (show bf ≤ 1 by omega)) (cwV 3 hts (gV (fun _ h => h) ml_X1_132 im_X1_keep se_X1_keep ini_X1 co_X1_keep) rfl rfl rfl pd_X1_keep ⟨Nat.le_of_ble_eq_true rfl, Nat.le_of_ble_eq_true rfl⟩) (rm_preS hK hP hD) rfl rfl hl.1 rfl (lv_room (Nat.le_of_ble_eq_true rfl)) dX1_next_340 ⟨Nat.zero_le _, Nat.zero_le _⟩) hD hS hA (fun u_148 H locs q_147 hP hD hS => ?_)
                            subst q_147
                            have hP : va_P (dC, dI) vwCl (rmW ct ad ((zu (zu (zu Y 7 (Y 7 + 1)) 13 (Y 13 + 1)) 18 (Y 18 + (ts1 x2 (Y 8) g))), x1, x2, x3, x4, (nu x5 (Y 13) (Y 18)), (nu x6 (Y 13) (ts1 x2 (Y 8) g)), (nu x7 (Y 13) (x4 g)), (nu x8 (Y 13) bf), (cpG (fun i => x2 (g + i)) (Y 18) (ts1 x2 (Y 8) g) x9))) H := hP
                            have hD : va_D A (rmW ct ad ((zu (zu (zu Y 7 (Y 7 + 1)) 13 (Y 13 + 1)) 18 (Y 18 + (ts1 x2 (Y 8) g))), x1, x2, x3, x4, (nu x5 (Y 13) (Y 18)), (nu x6 (Y 13) (ts1 x2 (Y 8) g)), (nu x7 (Y 13) (x4 g)), (nu x8 (Y 13) bf), (cpG (fun i => x2 (g + i)) (Y 18) (ts1 x2 (Y 8) g) x9))) := hD
                            refine lv_iinc (v := nI (many + 1)) (lv' := [(2, .int (nI (many + 1))), (3, .int (nI much)), (5, .int (nI (x4 g))), (9, .int (nI (ts1 x2 (Y 8) g))), (8, .int (bI (rb x2 (Y 8) (g + 1)))), (7, .int (nI (x2 g))), (0, .ref (ad 0)), (1, .int (nI g)), (4, .int (nI bf)), (6, .int (nI en))]) hx hb dX1_next_343 hl (k := 7) rfl (by exact nI_add many 1) (by decide) rfl (fun ls hl => ?_)
                            refine lv_iconst (v := nI 0) hx hb dX1_next_346 (by decide) ?_
                            refine lv_istore (lv' := [(4, .int (nI 0)), (2, .int (nI (many + 1))), (3, .int (nI much)), (5, .int (nI (x4 g))), (9, .int (nI (ts1 x2 (Y 8) g))), (8, .int (bI (rb x2 (Y 8) (g + 1)))), (7, .int (nI (x2 g))), (0, .ref (ad 0)), (1, .int (nI g)), (6, .int (nI en))]) hx hb dX1_next_347 hl (by decide) rfl (fun ls hl => ?_)
                            refine lv_iload_n hx hb dX1_next_349 rfl (lv_at hl 8 rfl) ?_
                            refine lv_iload hx hb dX1_next_350 (lv_at hl 4 rfl) ?_
                            refine lv_iadd hx hb dX1_next_352 ?_
                            refine lv_topi (fun x_150 e_151 => ?_)
                            obtain rfl : x_150 = nI (g + (ts1 x2 (Y 8) g)) := e_151.trans (nI_add g (ts1 x2 (Y 8) g))
                            refine lv_istore_n (lv' := [(1, .int (nI (g + (ts1 x2 (Y 8) g)))), (4, .int (nI 0)), (2, .int (nI (many + 1))), (3, .int (nI much)), (5, .int (nI (x4 g))), (9, .int (nI (ts1 x2 (Y 8) g))), (8, .int (bI (rb x2 (Y 8) (g + 1)))), (7, .int (nI (x2 g))), (0, .ref (ad 0)), (6, .int (nI en))]) hx hb dX1_next_353 rfl hl (by decide) rfl (fun ls hl => ?_)
                            refine lv_goto (tgt := 65) hx hb dX1_next_354 (by decide) ?_
                            rw [rL, if_neg (by omega), if_neg (by omega), if_neg (by rw [c_94]; decide), if_neg (by omega), if_neg (by omega), if_neg (by omega), rQ, if_pos (by omega), rKY, if_pos (by omega), rK5, if_pos (by omega), rK6, if_pos (by omega), rK6, if_pos (by omega), rK6, if_pos (by omega), rK9, if_pos (by omega), if_neg (by omega), if_pos (by omega)] at hQ
                            exact ih (zu (zu (zu Y 7 (Y 7 + 1)) 13 (Y 13 + 1)) 18 (Y 18 + (ts1 x2 (Y 8) g))) ((nu x5 (Y 13) (Y 18))) ((nu x6 (Y 13) (ts1 x2 (Y 8) g))) ((nu x7 (Y 13) (x4 g))) ((nu x8 (Y 13) bf)) ((cpG (fun i => x2 (g + i)) (Y 18) (ts1 x2 (Y 8) g) x9)) (g + (ts1 x2 (Y 8) g)) (many + 1) much 0 (x4 g) en (by show Y 8 - (g + (ts1 x2 (Y 8) g)) + 1 - en < k; omega) (show (Y 8) ≤ 32768 by omega) (show (g + (ts1 x2 (Y 8) g)) ≤ (Y 8) by omega) (show (Y 18 + (ts1 x2 (Y 8) g)) ≤ (g + (ts1 x2 (Y 8) g)) by omega) (show (many + 1) ≤ (g + (ts1 x2 (Y 8) g)) by omega) (show (many + 1) ≤ 8000 → (Y 13 + 1) = (many + 1) by omega) (show 0 ≤ 1 by omega) (show en ≤ 1 by omega) (show (Y 7 + 1) ≤ 1000 by omega) (show (Y 6) ≤ 20000 by omega) (show en = 1 → (g + (ts1 x2 (Y 8) g)) < (Y 8) by omega) hQ _ _ hP hD hS _ (lv_sub hl [8, 0, 2, 3, 1, 4, 9] rfl)
                        · have c_145 := (nI_eq (a := many) (b := 8000) (by omega) (by omega)).mp c_145
                          omega
                    · have c_127 := mt (nI_leI (a := Y 7 + 1) (b := 1000) (by omega) (by omega)).mpr c_127
                      refine lv_aload_n hx hb dX1_next_279 rfl (lv_at hl 3 rfl) ?_
                      refine lv_bipush (v := nI 21) hx hb dX1_next_280 (by decide) ?_
                      refine lv_aload_n hx hb dX1_next_282 rfl (lv_at hl 3 rfl) ?_
                      refine va_get (D := (dC, dI)) (ci := 1) (v := .ref (ad 4)) (C := RX1) (T := TX1) (N := 20) hx hb hts inX1 hown hK hP 0 rfl rfl 11 (by decide) (hts _ fl_X1_21) (fun _ h9 => h9) rfl dX1_next_283 ?_
                      refine lv_iload_n hx hb dX1_next_286 rfl (lv_at hl 4 rfl) ?_
                      refine va_iald hx hb hK hP 4 1 rfl rfl (vp_in_nI (by omega) (by decide)) dX1_next_287 ?_
                      refine lv_topi (fun x_152 e_153 => ?_)
                      obtain rfl : x_152 = nI (x4 g) := e_153.trans (by rw [nI_clamp (by omega)])
                      refine rm_calli (va_runV (As := [.int (nI 21), .int (nI (x4 g))]) (rest := []) ⟨hx, hb, hml, hown, hts⟩ (r_stop l dC dI ct ad H.size (zu Y 7 (Y 7 + 1)) x1 x2 x3 x4 x5 x6 x7 x8 x9 21 (x4 g)) (cwV 2 hts (gV (fun _ h => h) ml_X1_126 im_X1_stop se_X1_stop ini_X1 co_X1_stop) rfl rfl rfl pd_X1_stop ⟨Nat.le_of_ble_eq_true rfl, Nat.le_of_ble_eq_true rfl⟩) (rm_preS hK hP hD) rfl rfl hl.1 rfl (lv_room (Nat.le_of_ble_eq_true rfl)) dX1_next_288 ⟨Nat.zero_le _, Nat.zero_le _⟩) hD hS hA (fun r_156 u_155 H locs q_154 hP hD hS => ?_)
                      obtain ⟨rfl, rfl⟩ := q_154
                      have hP : va_P (dC, dI) vwCl (rmW ct ad ((zu (zu (zu (zu Y 4 1) 5 (x4 g)) 7 (Y 7 + 1)) 13 0), x1, x2, x3, x4, x5, x6, x7, x8, x9)) H := hP
                      have hD : va_D A (rmW ct ad ((zu (zu (zu (zu Y 4 1) 5 (x4 g)) 7 (Y 7 + 1)) 13 0), x1, x2, x3, x4, x5, x6, x7, x8, x9)) := hD
                      have hP : va_P (dC, dI) vwCl (rmW ct ad (rSt (zu Y 7 (Y 7 + 1)) (x4 g), x1, x2, x3, x4, x5, x6, x7, x8, x9)) H := by skip; exact hP
                      have hD : va_D A (rmW ct ad (rSt (zu Y 7 (Y 7 + 1)) (x4 g), x1, x2, x3, x4, x5, x6, x7, x8, x9)) := by skip; exact hD
                      exact W.iret (v := (-10) - nI 21) hx hb hr (fun t ht hW => ⟨⟨_, (rSt (zu Y 7 (Y 7 + 1)) (x4 g), x1, x2, x3, x4, x5, x6, x7, x8, x9), rfl, (by rw [rL, if_neg (by omega), if_neg (by omega), if_neg (by rw [c_94]; decide), if_neg (by omega), if_neg (by omega), if_pos (by omega), rQ, if_pos (by omega)] at hQ; exact hQ), by rw [ht]; exact hP, va_K.moved hW.alike hK, hD⟩, hS.F ht⟩) hS.2.2 dX1_next_291
                  · have c_124 := mt (nI_eq (a := x2 g) (b := 34) (by omega) (by omega)).mpr c_124
                    refine lv_iload hx hb dX1_next_252 (lv_at hl 2 rfl) ?_
                    refine lv_bipush (v := nI 39) hx hb dX1_next_254 (by decide) ?_
                    refine lv_icmp_ne (tgt := 292) hx hb dX1_next_256 (by decide) (fun c_157 => ?_) (fun c_157 => ?_)
                    · have c_157 := mt (nI_eq (a := x2 g) (b := 39) (by omega) (by omega)).mpr c_157
                      refine lv_iload_n hx hb dX1_next_292 rfl (lv_at hl 5 rfl) ?_
                      refine lv_if_ne (tgt := 305) hx hb dX1_next_293 (by decide) (fun c_158 => ?_) (fun c_158 => ?_)
                      · have c_158 := mt (nI_eq (a := many) (b := 0) (by omega) (by omega)).mpr c_158
                        refine lv_iload hx hb dX1_next_305 (lv_at hl 8 rfl) ?_
                        refine lv_istore (lv' := [(5, .int (nI first)), (9, .int (nI (ts1 x2 (Y 8) g))), (8, .int (bI (rb x2 (Y 8) (g + 1)))), (7, .int (nI (x2 g))), (0, .ref (ad 0)), (1, .int (nI g)), (2, .int (nI many)), (3, .int (nI much)), (4, .int (nI bf)), (6, .int (nI en))]) hx hb dX1_next_307 hl (by decide) rfl (fun ls hl => ?_)
                        refine lv_iload_n hx hb dX1_next_309 rfl (lv_at hl 6 rfl) ?_
                        refine lv_sipush (v := nI 8000) hx hb dX1_next_310 (by decide) ?_
                        refine lv_icmp_ne (tgt := 325) hx hb dX1_next_313 (by decide) (fun c_159 => ?_) (fun c_159 => ?_)
                        · have c_159 := mt (nI_eq (a := many) (b := 8000) (by omega) (by omega)).mpr c_159
                          refine lv_iload_n hx hb dX1_next_325 rfl (lv_at hl 7 rfl) ?_
                          refine lv_istore_n (lv' := [(3, .int (nI much)), (5, .int (nI first)), (9, .int (nI (ts1 x2 (Y 8) g))), (8, .int (bI (rb x2 (Y 8) (g + 1)))), (7, .int (nI (x2 g))), (0, .ref (ad 0)), (1, .int (nI g)), (2, .int (nI many)), (4, .int (nI bf)), (6, .int (nI en))]) hx hb dX1_next_326 rfl hl (by decide) rfl (fun ls hl => ?_)
                          refine lv_iload_n hx hb dX1_next_327 rfl (lv_at hl 7 rfl) ?_
                          refine lv_sipush (v := nI 8000) hx hb dX1_next_328 (by decide) ?_
                          refine lv_icmp_ge (tgt := 343) hx hb dX1_next_331 (by decide) (fun c_160 => ?_) (fun c_160 => ?_)
                          · have c_160 := (nI_leI (a := 8000) (b := many) (by omega) (by omega)).mp c_160
                            refine lv_iinc (v := nI (many + 1)) (lv' := [(2, .int (nI (many + 1))), (3, .int (nI much)), (5, .int (nI first)), (9, .int (nI (ts1 x2 (Y 8) g))), (8, .int (bI (rb x2 (Y 8) (g + 1)))), (7, .int (nI (x2 g))), (0, .ref (ad 0)), (1, .int (nI g)), (4, .int (nI bf)), (6, .int (nI en))]) hx hb dX1_next_343 hl (k := 7) rfl (by exact nI_add many 1) (by decide) rfl (fun ls hl => ?_)
                            refine lv_iconst (v := nI 0) hx hb dX1_next_346 (by decide) ?_
                            refine lv_istore (lv' := [(4, .int (nI 0)), (2, .int (nI (many + 1))), (3, .int (nI much)), (5, .int (nI first)), (9, .int (nI (ts1 x2 (Y 8) g))), (8, .int (bI (rb x2 (Y 8) (g + 1)))), (7, .int (nI (x2 g))), (0, .ref (ad 0)), (1, .int (nI g)), (6, .int (nI en))]) hx hb dX1_next_347 hl (by decide) rfl (fun ls hl => ?_)
                            refine lv_iload_n hx hb dX1_next_349 rfl (lv_at hl 8 rfl) ?_
                            refine lv_iload hx hb dX1_next_350 (lv_at hl 4 rfl) ?_
                            refine lv_iadd hx hb dX1_next_352 ?_
                            refine lv_topi (fun x_161 e_162 => ?_)
                            obtain rfl : x_161 = nI (g + (ts1 x2 (Y 8) g)) := e_162.trans (nI_add g (ts1 x2 (Y 8) g))
                            refine lv_istore_n (lv' := [(1, .int (nI (g + (ts1 x2 (Y 8) g)))), (4, .int (nI 0)), (2, .int (nI (many + 1))), (3, .int (nI much)), (5, .int (nI first)), (9, .int (nI (ts1 x2 (Y 8) g))), (8, .int (bI (rb x2 (Y 8) (g + 1)))), (7, .int (nI (x2 g))), (0, .ref (ad 0)), (6, .int (nI en))]) hx hb dX1_next_353 rfl hl (by decide) rfl (fun ls hl => ?_)
                            refine lv_goto (tgt := 65) hx hb dX1_next_354 (by decide) ?_
                            rw [rL, if_neg (by omega), if_neg (by omega), if_neg (by rw [c_94]; decide), if_neg (by omega), if_neg (by omega), if_neg (by omega), rQ, if_neg (by omega), rKY, if_neg (by omega), rK5, if_neg (by omega), rK6, if_neg (by omega), rK6, if_neg (by omega), rK6, if_neg (by omega), rK9, if_neg (by omega), if_neg (by omega), if_neg (by omega)] at hQ
                            exact ih Y x5 x6 x7 x8 x9 (g + (ts1 x2 (Y 8) g)) (many + 1) much 0 first en (by show Y 8 - (g + (ts1 x2 (Y 8) g)) + 1 - en < k; omega) (show (Y 8) ≤ 32768 by omega) (show (g + (ts1 x2 (Y 8) g)) ≤ (Y 8) by omega) (show (Y 18) ≤ (g + (ts1 x2 (Y 8) g)) by omega) (show (many + 1) ≤ (g + (ts1 x2 (Y 8) g)) by omega) (show (many + 1) ≤ 8000 → (Y 13) = (many + 1) by omega) (show 0 ≤ 1 by omega) (show en ≤ 1 by omega) (show (Y 7) ≤ 1000 by omega) (show (Y 6) ≤ 20000 by omega) (show en = 1 → (g + (ts1 x2 (Y 8) g)) < (Y 8) by omega) hQ _ _ hP hD hS _ (lv_sub hl [8, 0, 2, 3, 1, 4, 9] rfl)
                          · have c_160 := mt (nI_leI (a := 8000) (b := many) (by omega) (by omega)).mpr c_160
                            refine lv_aload_n hx hb dX1_next_334 rfl (lv_at hl 5 rfl) ?_
                            refine lv_iload_n hx hb dX1_next_335 rfl (lv_at hl 6 rfl) ?_
                            refine lv_iload hx hb dX1_next_336 (lv_at hl 2 rfl) ?_
                            refine lv_iload hx hb dX1_next_338 (lv_at hl 8 rfl) ?_
                            refine rm_callv (va_runV (As := [.int (nI g), .int (nI (ts1 x2 (Y 8) g)), .int (nI bf)]) (rest := []) ⟨hx, hb, hml, hown, hts⟩ (r_keep l dC dI ct ad H.size Y x1 x2 x3 x4 x5 x6 x7 x8 x9 g (ts1 x2 (Y 8) g) bf (show g < 32768 by omega) (show Y 18 + ts1 x2 (Y 8) g ≤ 32768 by omega) (show g + ts1 x2 (Y 8) g ≤ 32768 by omega) h2 (show Y 13 < 8000 by omega) (show bf ≤ 1 by omega)) (cwV 3 hts (gV (fun _ h => h) ml_X1_132 im_X1_keep se_X1_keep ini_X1 co_X1_keep) rfl rfl rfl pd_X1_keep ⟨Nat.le_of_ble_eq_true rfl, Nat.le_of_ble_eq_true rfl⟩) (rm_preS hK hP hD) rfl rfl hl.1 rfl (lv_room (Nat.le_of_ble_eq_true rfl)) dX1_next_340 ⟨Nat.zero_le _, Nat.zero_le _⟩) hD hS hA (fun u_164 H locs q_163 hP hD hS => ?_)
                            subst q_163
                            have hP : va_P (dC, dI) vwCl (rmW ct ad ((zu (zu Y 13 (Y 13 + 1)) 18 (Y 18 + (ts1 x2 (Y 8) g))), x1, x2, x3, x4, (nu x5 (Y 13) (Y 18)), (nu x6 (Y 13) (ts1 x2 (Y 8) g)), (nu x7 (Y 13) (x4 g)), (nu x8 (Y 13) bf), (cpG (fun i => x2 (g + i)) (Y 18) (ts1 x2 (Y 8) g) x9))) H := hP
                            have hD : va_D A (rmW ct ad ((zu (zu Y 13 (Y 13 + 1)) 18 (Y 18 + (ts1 x2 (Y 8) g))), x1, x2, x3, x4, (nu x5 (Y 13) (Y 18)), (nu x6 (Y 13) (ts1 x2 (Y 8) g)), (nu x7 (Y 13) (x4 g)), (nu x8 (Y 13) bf), (cpG (fun i => x2 (g + i)) (Y 18) (ts1 x2 (Y 8) g) x9))) := hD
                            refine lv_iinc (v := nI (many + 1)) (lv' := [(2, .int (nI (many + 1))), (3, .int (nI much)), (5, .int (nI first)), (9, .int (nI (ts1 x2 (Y 8) g))), (8, .int (bI (rb x2 (Y 8) (g + 1)))), (7, .int (nI (x2 g))), (0, .ref (ad 0)), (1, .int (nI g)), (4, .int (nI bf)), (6, .int (nI en))]) hx hb dX1_next_343 hl (k := 7) rfl (by exact nI_add many 1) (by decide) rfl (fun ls hl => ?_)
                            refine lv_iconst (v := nI 0) hx hb dX1_next_346 (by decide) ?_
                            refine lv_istore (lv' := [(4, .int (nI 0)), (2, .int (nI (many + 1))), (3, .int (nI much)), (5, .int (nI first)), (9, .int (nI (ts1 x2 (Y 8) g))), (8, .int (bI (rb x2 (Y 8) (g + 1)))), (7, .int (nI (x2 g))), (0, .ref (ad 0)), (1, .int (nI g)), (6, .int (nI en))]) hx hb dX1_next_347 hl (by decide) rfl (fun ls hl => ?_)
                            refine lv_iload_n hx hb dX1_next_349 rfl (lv_at hl 8 rfl) ?_
                            refine lv_iload hx hb dX1_next_350 (lv_at hl 4 rfl) ?_
                            refine lv_iadd hx hb dX1_next_352 ?_
                            refine lv_topi (fun x_166 e_167 => ?_)
                            obtain rfl : x_166 = nI (g + (ts1 x2 (Y 8) g)) := e_167.trans (nI_add g (ts1 x2 (Y 8) g))
                            refine lv_istore_n (lv' := [(1, .int (nI (g + (ts1 x2 (Y 8) g)))), (4, .int (nI 0)), (2, .int (nI (many + 1))), (3, .int (nI much)), (5, .int (nI first)), (9, .int (nI (ts1 x2 (Y 8) g))), (8, .int (bI (rb x2 (Y 8) (g + 1)))), (7, .int (nI (x2 g))), (0, .ref (ad 0)), (6, .int (nI en))]) hx hb dX1_next_353 rfl hl (by decide) rfl (fun ls hl => ?_)
                            refine lv_goto (tgt := 65) hx hb dX1_next_354 (by decide) ?_
                            rw [rL, if_neg (by omega), if_neg (by omega), if_neg (by rw [c_94]; decide), if_neg (by omega), if_neg (by omega), if_neg (by omega), rQ, if_neg (by omega), rKY, if_pos (by omega), rK5, if_pos (by omega), rK6, if_pos (by omega), rK6, if_pos (by omega), rK6, if_pos (by omega), rK9, if_pos (by omega), if_neg (by omega), if_neg (by omega)] at hQ
                            exact ih (zu (zu Y 13 (Y 13 + 1)) 18 (Y 18 + (ts1 x2 (Y 8) g))) ((nu x5 (Y 13) (Y 18))) ((nu x6 (Y 13) (ts1 x2 (Y 8) g))) ((nu x7 (Y 13) (x4 g))) ((nu x8 (Y 13) bf)) ((cpG (fun i => x2 (g + i)) (Y 18) (ts1 x2 (Y 8) g) x9)) (g + (ts1 x2 (Y 8) g)) (many + 1) much 0 first en (by show Y 8 - (g + (ts1 x2 (Y 8) g)) + 1 - en < k; omega) (show (Y 8) ≤ 32768 by omega) (show (g + (ts1 x2 (Y 8) g)) ≤ (Y 8) by omega) (show (Y 18 + (ts1 x2 (Y 8) g)) ≤ (g + (ts1 x2 (Y 8) g)) by omega) (show (many + 1) ≤ (g + (ts1 x2 (Y 8) g)) by omega) (show (many + 1) ≤ 8000 → (Y 13 + 1) = (many + 1) by omega) (show 0 ≤ 1 by omega) (show en ≤ 1 by omega) (show (Y 7) ≤ 1000 by omega) (show (Y 6) ≤ 20000 by omega) (show en = 1 → (g + (ts1 x2 (Y 8) g)) < (Y 8) by omega) hQ _ _ hP hD hS _ (lv_sub hl [8, 0, 2, 3, 1, 4, 9] rfl)
                        · have c_159 := (nI_eq (a := many) (b := 8000) (by omega) (by omega)).mp c_159
                          refine lv_aload_n hx hb dX1_next_316 rfl (lv_at hl 4 rfl) ?_
                          refine va_get (D := (dC, dI)) (ci := 1) (v := .ref (ad 4)) (C := RX1) (T := TX1) (N := 20) hx hb hts inX1 hown hK hP 0 rfl rfl 11 (by decide) (hts _ fl_X1_21) (fun _ h9 => h9) rfl dX1_next_317 ?_
                          refine lv_iload_n hx hb dX1_next_320 rfl (lv_at hl 5 rfl) ?_
                          refine va_iald hx hb hK hP 4 1 rfl rfl (vp_in_nI (by omega) (by decide)) dX1_next_321 ?_
                          refine lv_topi (fun x_168 e_169 => ?_)
                          obtain rfl : x_168 = nI (x4 g) := e_169.trans (by rw [nI_clamp (by omega)])
                          refine lv_goto (tgt := 326) hx hb dX1_next_322 (by decide) ?_
                          refine lv_istore_n (lv' := [(3, .int (nI (x4 g))), (5, .int (nI first)), (9, .int (nI (ts1 x2 (Y 8) g))), (8, .int (bI (rb x2 (Y 8) (g + 1)))), (7, .int (nI (x2 g))), (0, .ref (ad 0)), (1, .int (nI g)), (2, .int (nI many)), (4, .int (nI bf)), (6, .int (nI en))]) hx hb dX1_next_326 rfl hl (by decide) rfl (fun ls hl => ?_)
                          refine lv_iload_n hx hb dX1_next_327 rfl (lv_at hl 7 rfl) ?_
                          refine lv_sipush (v := nI 8000) hx hb dX1_next_328 (by decide) ?_
                          refine lv_icmp_ge (tgt := 343) hx hb dX1_next_331 (by decide) (fun c_170 => ?_) (fun c_170 => ?_)
                          · have c_170 := (nI_leI (a := 8000) (b := many) (by omega) (by omega)).mp c_170
                            refine lv_iinc (v := nI (many + 1)) (lv' := [(2, .int (nI (many + 1))), (3, .int (nI (x4 g))), (5, .int (nI first)), (9, .int (nI (ts1 x2 (Y 8) g))), (8, .int (bI (rb x2 (Y 8) (g + 1)))), (7, .int (nI (x2 g))), (0, .ref (ad 0)), (1, .int (nI g)), (4, .int (nI bf)), (6, .int (nI en))]) hx hb dX1_next_343 hl (k := 7) rfl (by exact nI_add many 1) (by decide) rfl (fun ls hl => ?_)
                            refine lv_iconst (v := nI 0) hx hb dX1_next_346 (by decide) ?_
                            refine lv_istore (lv' := [(4, .int (nI 0)), (2, .int (nI (many + 1))), (3, .int (nI (x4 g))), (5, .int (nI first)), (9, .int (nI (ts1 x2 (Y 8) g))), (8, .int (bI (rb x2 (Y 8) (g + 1)))), (7, .int (nI (x2 g))), (0, .ref (ad 0)), (1, .int (nI g)), (6, .int (nI en))]) hx hb dX1_next_347 hl (by decide) rfl (fun ls hl => ?_)
                            refine lv_iload_n hx hb dX1_next_349 rfl (lv_at hl 8 rfl) ?_
                            refine lv_iload hx hb dX1_next_350 (lv_at hl 4 rfl) ?_
                            refine lv_iadd hx hb dX1_next_352 ?_
                            refine lv_topi (fun x_171 e_172 => ?_)
                            obtain rfl : x_171 = nI (g + (ts1 x2 (Y 8) g)) := e_172.trans (nI_add g (ts1 x2 (Y 8) g))
                            refine lv_istore_n (lv' := [(1, .int (nI (g + (ts1 x2 (Y 8) g)))), (4, .int (nI 0)), (2, .int (nI (many + 1))), (3, .int (nI (x4 g))), (5, .int (nI first)), (9, .int (nI (ts1 x2 (Y 8) g))), (8, .int (bI (rb x2 (Y 8) (g + 1)))), (7, .int (nI (x2 g))), (0, .ref (ad 0)), (6, .int (nI en))]) hx hb dX1_next_353 rfl hl (by decide) rfl (fun ls hl => ?_)
                            refine lv_goto (tgt := 65) hx hb dX1_next_354 (by decide) ?_
                            rw [rL, if_neg (by omega), if_neg (by omega), if_neg (by rw [c_94]; decide), if_neg (by omega), if_neg (by omega), if_neg (by omega), rQ, if_neg (by omega), rKY, if_neg (by omega), rK5, if_neg (by omega), rK6, if_neg (by omega), rK6, if_neg (by omega), rK6, if_neg (by omega), rK9, if_neg (by omega), if_pos (by omega), if_neg (by omega)] at hQ
                            exact ih Y x5 x6 x7 x8 x9 (g + (ts1 x2 (Y 8) g)) (many + 1) (x4 g) 0 first en (by show Y 8 - (g + (ts1 x2 (Y 8) g)) + 1 - en < k; omega) (show (Y 8) ≤ 32768 by omega) (show (g + (ts1 x2 (Y 8) g)) ≤ (Y 8) by omega) (show (Y 18) ≤ (g + (ts1 x2 (Y 8) g)) by omega) (show (many + 1) ≤ (g + (ts1 x2 (Y 8) g)) by omega) (show (many + 1) ≤ 8000 → (Y 13) = (many + 1) by omega) (show 0 ≤ 1 by omega) (show en ≤ 1 by omega) (show (Y 7) ≤ 1000 by omega) (show (Y 6) ≤ 20000 by omega) (show en = 1 → (g + (ts1 x2 (Y 8) g)) < (Y 8) by omega) hQ _ _ hP hD hS _ (lv_sub hl [8, 0, 2, 3, 1, 4, 9] rfl)
                          · have c_170 := mt (nI_leI (a := 8000) (b := many) (by omega) (by omega)).mpr c_170
                            omega
                      · have c_158 := (nI_eq (a := many) (b := 0) (by omega) (by omega)).mp c_158
                        refine lv_aload_n hx hb dX1_next_296 rfl (lv_at hl 3 rfl) ?_
                        refine va_get (D := (dC, dI)) (ci := 1) (v := .ref (ad 4)) (C := RX1) (T := TX1) (N := 20) hx hb hts inX1 hown hK hP 0 rfl rfl 11 (by decide) (hts _ fl_X1_21) (fun _ h9 => h9) rfl dX1_next_297 ?_
                        refine lv_iload_n hx hb dX1_next_300 rfl (lv_at hl 4 rfl) ?_
                        refine va_iald hx hb hK hP 4 1 rfl rfl (vp_in_nI (by omega) (by decide)) dX1_next_301 ?_
                        refine lv_topi (fun x_173 e_174 => ?_)
                        obtain rfl : x_173 = nI (x4 g) := e_174.trans (by rw [nI_clamp (by omega)])
                        refine lv_goto (tgt := 307) hx hb dX1_next_302 (by decide) ?_
                        refine lv_istore (lv' := [(5, .int (nI (x4 g))), (9, .int (nI (ts1 x2 (Y 8) g))), (8, .int (bI (rb x2 (Y 8) (g + 1)))), (7, .int (nI (x2 g))), (0, .ref (ad 0)), (1, .int (nI g)), (2, .int (nI many)), (3, .int (nI much)), (4, .int (nI bf)), (6, .int (nI en))]) hx hb dX1_next_307 hl (by decide) rfl (fun ls hl => ?_)
                        refine lv_iload_n hx hb dX1_next_309 rfl (lv_at hl 6 rfl) ?_
                        refine lv_sipush (v := nI 8000) hx hb dX1_next_310 (by decide) ?_
                        refine lv_icmp_ne (tgt := 325) hx hb dX1_next_313 (by decide) (fun c_175 => ?_) (fun c_175 => ?_)
                        · have c_175 := mt (nI_eq (a := many) (b := 8000) (by omega) (by omega)).mpr c_175
                          refine lv_iload_n hx hb dX1_next_325 rfl (lv_at hl 7 rfl) ?_
                          refine lv_istore_n (lv' := [(3, .int (nI much)), (5, .int (nI (x4 g))), (9, .int (nI (ts1 x2 (Y 8) g))), (8, .int (bI (rb x2 (Y 8) (g + 1)))), (7, .int (nI (x2 g))), (0, .ref (ad 0)), (1, .int (nI g)), (2, .int (nI many)), (4, .int (nI bf)), (6, .int (nI en))]) hx hb dX1_next_326 rfl hl (by decide) rfl (fun ls hl => ?_)
                          refine lv_iload_n hx hb dX1_next_327 rfl (lv_at hl 7 rfl) ?_
                          refine lv_sipush (v := nI 8000) hx hb dX1_next_328 (by decide) ?_
                          refine lv_icmp_ge (tgt := 343) hx hb dX1_next_331 (by decide) (fun c_176 => ?_) (fun c_176 => ?_)
                          · have c_176 := (nI_leI (a := 8000) (b := many) (by omega) (by omega)).mp c_176
                            omega
                          · have c_176 := mt (nI_leI (a := 8000) (b := many) (by omega) (by omega)).mpr c_176
                            refine lv_aload_n hx hb dX1_next_334 rfl (lv_at hl 5 rfl) ?_
                            refine lv_iload_n hx hb dX1_next_335 rfl (lv_at hl 6 rfl) ?_
                            refine lv_iload hx hb dX1_next_336 (lv_at hl 2 rfl) ?_
                            refine lv_iload hx hb dX1_next_338 (lv_at hl 8 rfl) ?_
                            refine rm_callv (va_runV (As := [.int (nI g), .int (nI (ts1 x2 (Y 8) g)), .int (nI bf)]) (rest := []) ⟨hx, hb, hml, hown, hts⟩ (r_keep l dC dI ct ad H.size Y x1 x2 x3 x4 x5 x6 x7 x8 x9 g (ts1 x2 (Y 8) g) bf (show g < 32768 by omega) (show Y 18 + ts1 x2 (Y 8) g ≤ 32768 by omega) (show g + ts1 x2 (Y 8) g ≤ 32768 by omega) h2 (show Y 13 < 8000 by omega) (show bf ≤ 1 by omega)) (cwV 3 hts (gV (fun _ h => h) ml_X1_132 im_X1_keep se_X1_keep ini_X1 co_X1_keep) rfl rfl rfl pd_X1_keep ⟨Nat.le_of_ble_eq_true rfl, Nat.le_of_ble_eq_true rfl⟩) (rm_preS hK hP hD) rfl rfl hl.1 rfl (lv_room (Nat.le_of_ble_eq_true rfl)) dX1_next_340 ⟨Nat.zero_le _, Nat.zero_le _⟩) hD hS hA (fun u_178 H locs q_177 hP hD hS => ?_)
                            subst q_177
                            have hP : va_P (dC, dI) vwCl (rmW ct ad ((zu (zu Y 13 (Y 13 + 1)) 18 (Y 18 + (ts1 x2 (Y 8) g))), x1, x2, x3, x4, (nu x5 (Y 13) (Y 18)), (nu x6 (Y 13) (ts1 x2 (Y 8) g)), (nu x7 (Y 13) (x4 g)), (nu x8 (Y 13) bf), (cpG (fun i => x2 (g + i)) (Y 18) (ts1 x2 (Y 8) g) x9))) H := hP
                            have hD : va_D A (rmW ct ad ((zu (zu Y 13 (Y 13 + 1)) 18 (Y 18 + (ts1 x2 (Y 8) g))), x1, x2, x3, x4, (nu x5 (Y 13) (Y 18)), (nu x6 (Y 13) (ts1 x2 (Y 8) g)), (nu x7 (Y 13) (x4 g)), (nu x8 (Y 13) bf), (cpG (fun i => x2 (g + i)) (Y 18) (ts1 x2 (Y 8) g) x9))) := hD
                            refine lv_iinc (v := nI (many + 1)) (lv' := [(2, .int (nI (many + 1))), (3, .int (nI much)), (5, .int (nI (x4 g))), (9, .int (nI (ts1 x2 (Y 8) g))), (8, .int (bI (rb x2 (Y 8) (g + 1)))), (7, .int (nI (x2 g))), (0, .ref (ad 0)), (1, .int (nI g)), (4, .int (nI bf)), (6, .int (nI en))]) hx hb dX1_next_343 hl (k := 7) rfl (by exact nI_add many 1) (by decide) rfl (fun ls hl => ?_)
                            refine lv_iconst (v := nI 0) hx hb dX1_next_346 (by decide) ?_
                            refine lv_istore (lv' := [(4, .int (nI 0)), (2, .int (nI (many + 1))), (3, .int (nI much)), (5, .int (nI (x4 g))), (9, .int (nI (ts1 x2 (Y 8) g))), (8, .int (bI (rb x2 (Y 8) (g + 1)))), (7, .int (nI (x2 g))), (0, .ref (ad 0)), (1, .int (nI g)), (6, .int (nI en))]) hx hb dX1_next_347 hl (by decide) rfl (fun ls hl => ?_)
                            refine lv_iload_n hx hb dX1_next_349 rfl (lv_at hl 8 rfl) ?_
                            refine lv_iload hx hb dX1_next_350 (lv_at hl 4 rfl) ?_
                            refine lv_iadd hx hb dX1_next_352 ?_
                            refine lv_topi (fun x_180 e_181 => ?_)
                            obtain rfl : x_180 = nI (g + (ts1 x2 (Y 8) g)) := e_181.trans (nI_add g (ts1 x2 (Y 8) g))
                            refine lv_istore_n (lv' := [(1, .int (nI (g + (ts1 x2 (Y 8) g)))), (4, .int (nI 0)), (2, .int (nI (many + 1))), (3, .int (nI much)), (5, .int (nI (x4 g))), (9, .int (nI (ts1 x2 (Y 8) g))), (8, .int (bI (rb x2 (Y 8) (g + 1)))), (7, .int (nI (x2 g))), (0, .ref (ad 0)), (6, .int (nI en))]) hx hb dX1_next_353 rfl hl (by decide) rfl (fun ls hl => ?_)
                            refine lv_goto (tgt := 65) hx hb dX1_next_354 (by decide) ?_
                            rw [rL, if_neg (by omega), if_neg (by omega), if_neg (by rw [c_94]; decide), if_neg (by omega), if_neg (by omega), if_neg (by omega), rQ, if_neg (by omega), rKY, if_pos (by omega), rK5, if_pos (by omega), rK6, if_pos (by omega), rK6, if_pos (by omega), rK6, if_pos (by omega), rK9, if_pos (by omega), if_neg (by omega), if_pos (by omega)] at hQ
                            exact ih (zu (zu Y 13 (Y 13 + 1)) 18 (Y 18 + (ts1 x2 (Y 8) g))) ((nu x5 (Y 13) (Y 18))) ((nu x6 (Y 13) (ts1 x2 (Y 8) g))) ((nu x7 (Y 13) (x4 g))) ((nu x8 (Y 13) bf)) ((cpG (fun i => x2 (g + i)) (Y 18) (ts1 x2 (Y 8) g) x9)) (g + (ts1 x2 (Y 8) g)) (many + 1) much 0 (x4 g) en (by show Y 8 - (g + (ts1 x2 (Y 8) g)) + 1 - en < k; omega) (show (Y 8) ≤ 32768 by omega) (show (g + (ts1 x2 (Y 8) g)) ≤ (Y 8) by omega) (show (Y 18 + (ts1 x2 (Y 8) g)) ≤ (g + (ts1 x2 (Y 8) g)) by omega) (show (many + 1) ≤ (g + (ts1 x2 (Y 8) g)) by omega) (show (many + 1) ≤ 8000 → (Y 13 + 1) = (many + 1) by omega) (show 0 ≤ 1 by omega) (show en ≤ 1 by omega) (show (Y 7) ≤ 1000 by omega) (show (Y 6) ≤ 20000 by omega) (show en = 1 → (g + (ts1 x2 (Y 8) g)) < (Y 8) by omega) hQ _ _ hP hD hS _ (lv_sub hl [8, 0, 2, 3, 1, 4, 9] rfl)
                        · have c_175 := (nI_eq (a := many) (b := 8000) (by omega) (by omega)).mp c_175
                          omega
                    · have c_157 := (nI_eq (a := x2 g) (b := 39) (by omega) (by omega)).mp c_157
                      refine lv_aload_n hx hb dX1_next_259 rfl (lv_at hl 3 rfl) ?_
                      refine lv_dup hx hb dX1_next_260 rfl ?_
                      refine va_get (D := (dC, dI)) (ci := 1) (v := .int (nI (Y 7))) (C := RX1) (T := TX1) (N := 20) hx hb hts inX1 hown hK hP 0 rfl rfl 7 (by decide) (hts _ fl_X1_63) (fun _ h9 => h9) rfl dX1_next_261 ?_
                      refine lv_iconst (v := nI 1) hx hb dX1_next_264 (by decide) ?_
                      refine lv_iadd hx hb dX1_next_265 ?_
                      refine lv_topi (fun x_182 e_183 => ?_)
                      obtain rfl : x_182 = nI (Y 7 + 1) := e_183.trans (nI_add (Y 7) 1)
                      refine va_put (D := (dC, dI)) (ci := 1) (v := .int (nI (Y 7 + 1))) (ty := .int) (C := RX1) (T := TX1) (N := 20) hx hb hts inX1 tyX1 okX1 nmX1 hown hK hP hD hS 0 rfl rfl 7 (by decide) (hts _ fl_X1_63) (fun _ h9 => h9) rfl (by decide +kernel) rfl rfl (Nat.le_of_ble_eq_true rfl) dX1_next_266 (fun H locs hP hD hS => ?_)
                      have hP : va_P (dC, dI) vwCl (rmW ct ad ((zu Y 7 (Y 7 + 1)), x1, x2, x3, x4, x5, x6, x7, x8, x9)) H := hP
                      have hD : va_D A (rmW ct ad ((zu Y 7 (Y 7 + 1)), x1, x2, x3, x4, x5, x6, x7, x8, x9)) := hD
                      refine lv_aload_n hx hb dX1_next_269 rfl (lv_at hl 3 rfl) ?_
                      refine va_get (D := (dC, dI)) (ci := 1) (v := .int (nI (Y 7 + 1))) (C := RX1) (T := TX1) (N := 20) hx hb hts inX1 hown hK hP 0 rfl rfl 7 (by decide) (hts _ fl_X1_63) (fun _ h9 => h9) rfl dX1_next_270 ?_
                      refine lv_sipush (v := nI 1000) hx hb dX1_next_273 (by decide) ?_
                      refine lv_icmp_le (tgt := 292) hx hb dX1_next_276 (by decide) (fun c_184 => ?_) (fun c_184 => ?_)
                      · have c_184 := (nI_leI (a := Y 7 + 1) (b := 1000) (by omega) (by omega)).mp c_184
                        refine lv_iload_n hx hb dX1_next_292 rfl (lv_at hl 5 rfl) ?_
                        refine lv_if_ne (tgt := 305) hx hb dX1_next_293 (by decide) (fun c_185 => ?_) (fun c_185 => ?_)
                        · have c_185 := mt (nI_eq (a := many) (b := 0) (by omega) (by omega)).mpr c_185
                          refine lv_iload hx hb dX1_next_305 (lv_at hl 8 rfl) ?_
                          refine lv_istore (lv' := [(5, .int (nI first)), (9, .int (nI (ts1 x2 (Y 8) g))), (8, .int (bI (rb x2 (Y 8) (g + 1)))), (7, .int (nI (x2 g))), (0, .ref (ad 0)), (1, .int (nI g)), (2, .int (nI many)), (3, .int (nI much)), (4, .int (nI bf)), (6, .int (nI en))]) hx hb dX1_next_307 hl (by decide) rfl (fun ls hl => ?_)
                          refine lv_iload_n hx hb dX1_next_309 rfl (lv_at hl 6 rfl) ?_
                          refine lv_sipush (v := nI 8000) hx hb dX1_next_310 (by decide) ?_
                          refine lv_icmp_ne (tgt := 325) hx hb dX1_next_313 (by decide) (fun c_186 => ?_) (fun c_186 => ?_)
                          · have c_186 := mt (nI_eq (a := many) (b := 8000) (by omega) (by omega)).mpr c_186
                            refine lv_iload_n hx hb dX1_next_325 rfl (lv_at hl 7 rfl) ?_
                            refine lv_istore_n (lv' := [(3, .int (nI much)), (5, .int (nI first)), (9, .int (nI (ts1 x2 (Y 8) g))), (8, .int (bI (rb x2 (Y 8) (g + 1)))), (7, .int (nI (x2 g))), (0, .ref (ad 0)), (1, .int (nI g)), (2, .int (nI many)), (4, .int (nI bf)), (6, .int (nI en))]) hx hb dX1_next_326 rfl hl (by decide) rfl (fun ls hl => ?_)
                            refine lv_iload_n hx hb dX1_next_327 rfl (lv_at hl 7 rfl) ?_
                            refine lv_sipush (v := nI 8000) hx hb dX1_next_328 (by decide) ?_
                            refine lv_icmp_ge (tgt := 343) hx hb dX1_next_331 (by decide) (fun c_187 => ?_) (fun c_187 => ?_)
                            · have c_187 := (nI_leI (a := 8000) (b := many) (by omega) (by omega)).mp c_187
                              refine lv_iinc (v := nI (many + 1)) (lv' := [(2, .int (nI (many + 1))), (3, .int (nI much)), (5, .int (nI first)), (9, .int (nI (ts1 x2 (Y 8) g))), (8, .int (bI (rb x2 (Y 8) (g + 1)))), (7, .int (nI (x2 g))), (0, .ref (ad 0)), (1, .int (nI g)), (4, .int (nI bf)), (6, .int (nI en))]) hx hb dX1_next_343 hl (k := 7) rfl (by exact nI_add many 1) (by decide) rfl (fun ls hl => ?_)
                              refine lv_iconst (v := nI 0) hx hb dX1_next_346 (by decide) ?_
                              refine lv_istore (lv' := [(4, .int (nI 0)), (2, .int (nI (many + 1))), (3, .int (nI much)), (5, .int (nI first)), (9, .int (nI (ts1 x2 (Y 8) g))), (8, .int (bI (rb x2 (Y 8) (g + 1)))), (7, .int (nI (x2 g))), (0, .ref (ad 0)), (1, .int (nI g)), (6, .int (nI en))]) hx hb dX1_next_347 hl (by decide) rfl (fun ls hl => ?_)
                              refine lv_iload_n hx hb dX1_next_349 rfl (lv_at hl 8 rfl) ?_
                              refine lv_iload hx hb dX1_next_350 (lv_at hl 4 rfl) ?_
                              refine lv_iadd hx hb dX1_next_352 ?_
                              refine lv_topi (fun x_188 e_189 => ?_)
                              obtain rfl : x_188 = nI (g + (ts1 x2 (Y 8) g)) := e_189.trans (nI_add g (ts1 x2 (Y 8) g))
                              refine lv_istore_n (lv' := [(1, .int (nI (g + (ts1 x2 (Y 8) g)))), (4, .int (nI 0)), (2, .int (nI (many + 1))), (3, .int (nI much)), (5, .int (nI first)), (9, .int (nI (ts1 x2 (Y 8) g))), (8, .int (bI (rb x2 (Y 8) (g + 1)))), (7, .int (nI (x2 g))), (0, .ref (ad 0)), (6, .int (nI en))]) hx hb dX1_next_353 rfl hl (by decide) rfl (fun ls hl => ?_)
                              refine lv_goto (tgt := 65) hx hb dX1_next_354 (by decide) ?_
                              rw [rL, if_neg (by omega), if_neg (by omega), if_neg (by rw [c_94]; decide), if_neg (by omega), if_neg (by omega), if_neg (by omega), rQ, if_pos (by omega), rKY, if_neg (by omega), rK5, if_neg (by omega), rK6, if_neg (by omega), rK6, if_neg (by omega), rK6, if_neg (by omega), rK9, if_neg (by omega), if_neg (by omega), if_neg (by omega)] at hQ
                              exact ih (zu Y 7 (Y 7 + 1)) x5 x6 x7 x8 x9 (g + (ts1 x2 (Y 8) g)) (many + 1) much 0 first en (by show Y 8 - (g + (ts1 x2 (Y 8) g)) + 1 - en < k; omega) (show (Y 8) ≤ 32768 by omega) (show (g + (ts1 x2 (Y 8) g)) ≤ (Y 8) by omega) (show (Y 18) ≤ (g + (ts1 x2 (Y 8) g)) by omega) (show (many + 1) ≤ (g + (ts1 x2 (Y 8) g)) by omega) (show (many + 1) ≤ 8000 → (Y 13) = (many + 1) by omega) (show 0 ≤ 1 by omega) (show en ≤ 1 by omega) (show (Y 7 + 1) ≤ 1000 by omega) (show (Y 6) ≤ 20000 by omega) (show en = 1 → (g + (ts1 x2 (Y 8) g)) < (Y 8) by omega) hQ _ _ hP hD hS _ (lv_sub hl [8, 0, 2, 3, 1, 4, 9] rfl)
                            · have c_187 := mt (nI_leI (a := 8000) (b := many) (by omega) (by omega)).mpr c_187
                              refine lv_aload_n hx hb dX1_next_334 rfl (lv_at hl 5 rfl) ?_
                              refine lv_iload_n hx hb dX1_next_335 rfl (lv_at hl 6 rfl) ?_
                              refine lv_iload hx hb dX1_next_336 (lv_at hl 2 rfl) ?_
                              refine lv_iload hx hb dX1_next_338 (lv_at hl 8 rfl) ?_
                              refine rm_callv (va_runV (As := [.int (nI g), .int (nI (ts1 x2 (Y 8) g)), .int (nI bf)]) (rest := []) ⟨hx, hb, hml, hown, hts⟩ (r_keep l dC dI ct ad H.size (zu Y 7 (Y 7 + 1)) x1 x2 x3 x4 x5 x6 x7 x8 x9 g (ts1 x2 (Y 8) g) bf (show g < 32768 by omega) (show Y 18 + ts1 x2 (Y 8) g ≤ 32768 by omega) (show g + ts1 x2 (Y 8) g ≤ 32768 by omega) h2 (show Y 13 < 8000 by omega) (show bf ≤ 1 by omega)) (cwV 3 hts (gV (fun _ h => h) ml_X1_132 im_X1_keep se_X1_keep ini_X1 co_X1_keep) rfl rfl rfl pd_X1_keep ⟨Nat.le_of_ble_eq_true rfl, Nat.le_of_ble_eq_true rfl⟩) (rm_preS hK hP hD) rfl rfl hl.1 rfl (lv_room (Nat.le_of_ble_eq_true rfl)) dX1_next_340 ⟨Nat.zero_le _, Nat.zero_le _⟩) hD hS hA (fun u_191 H locs q_190 hP hD hS => ?_)
                              subst q_190
                              have hP : va_P (dC, dI) vwCl (rmW ct ad ((zu (zu (zu Y 7 (Y 7 + 1)) 13 (Y 13 + 1)) 18 (Y 18 + (ts1 x2 (Y 8) g))), x1, x2, x3, x4, (nu x5 (Y 13) (Y 18)), (nu x6 (Y 13) (ts1 x2 (Y 8) g)), (nu x7 (Y 13) (x4 g)), (nu x8 (Y 13) bf), (cpG (fun i => x2 (g + i)) (Y 18) (ts1 x2 (Y 8) g) x9))) H := hP
                              have hD : va_D A (rmW ct ad ((zu (zu (zu Y 7 (Y 7 + 1)) 13 (Y 13 + 1)) 18 (Y 18 + (ts1 x2 (Y 8) g))), x1, x2, x3, x4, (nu x5 (Y 13) (Y 18)), (nu x6 (Y 13) (ts1 x2 (Y 8) g)), (nu x7 (Y 13) (x4 g)), (nu x8 (Y 13) bf), (cpG (fun i => x2 (g + i)) (Y 18) (ts1 x2 (Y 8) g) x9))) := hD
                              refine lv_iinc (v := nI (many + 1)) (lv' := [(2, .int (nI (many + 1))), (3, .int (nI much)), (5, .int (nI first)), (9, .int (nI (ts1 x2 (Y 8) g))), (8, .int (bI (rb x2 (Y 8) (g + 1)))), (7, .int (nI (x2 g))), (0, .ref (ad 0)), (1, .int (nI g)), (4, .int (nI bf)), (6, .int (nI en))]) hx hb dX1_next_343 hl (k := 7) rfl (by exact nI_add many 1) (by decide) rfl (fun ls hl => ?_)
                              refine lv_iconst (v := nI 0) hx hb dX1_next_346 (by decide) ?_
                              refine lv_istore (lv' := [(4, .int (nI 0)), (2, .int (nI (many + 1))), (3, .int (nI much)), (5, .int (nI first)), (9, .int (nI (ts1 x2 (Y 8) g))), (8, .int (bI (rb x2 (Y 8) (g + 1)))), (7, .int (nI (x2 g))), (0, .ref (ad 0)), (1, .int (nI g)), (6, .int (nI en))]) hx hb dX1_next_347 hl (by decide) rfl (fun ls hl => ?_)
                              refine lv_iload_n hx hb dX1_next_349 rfl (lv_at hl 8 rfl) ?_
                              refine lv_iload hx hb dX1_next_350 (lv_at hl 4 rfl) ?_
                              refine lv_iadd hx hb dX1_next_352 ?_
                              refine lv_topi (fun x_193 e_194 => ?_)
                              obtain rfl : x_193 = nI (g + (ts1 x2 (Y 8) g)) := e_194.trans (nI_add g (ts1 x2 (Y 8) g))
                              refine lv_istore_n (lv' := [(1, .int (nI (g + (ts1 x2 (Y 8) g)))), (4, .int (nI 0)), (2, .int (nI (many + 1))), (3, .int (nI much)), (5, .int (nI first)), (9, .int (nI (ts1 x2 (Y 8) g))), (8, .int (bI (rb x2 (Y 8) (g + 1)))), (7, .int (nI (x2 g))), (0, .ref (ad 0)), (6, .int (nI en))]) hx hb dX1_next_353 rfl hl (by decide) rfl (fun ls hl => ?_)
                              refine lv_goto (tgt := 65) hx hb dX1_next_354 (by decide) ?_
                              rw [rL, if_neg (by omega), if_neg (by omega), if_neg (by rw [c_94]; decide), if_neg (by omega), if_neg (by omega), if_neg (by omega), rQ, if_pos (by omega), rKY, if_pos (by omega), rK5, if_pos (by omega), rK6, if_pos (by omega), rK6, if_pos (by omega), rK6, if_pos (by omega), rK9, if_pos (by omega), if_neg (by omega), if_neg (by omega)] at hQ
                              exact ih (zu (zu (zu Y 7 (Y 7 + 1)) 13 (Y 13 + 1)) 18 (Y 18 + (ts1 x2 (Y 8) g))) ((nu x5 (Y 13) (Y 18))) ((nu x6 (Y 13) (ts1 x2 (Y 8) g))) ((nu x7 (Y 13) (x4 g))) ((nu x8 (Y 13) bf)) ((cpG (fun i => x2 (g + i)) (Y 18) (ts1 x2 (Y 8) g) x9)) (g + (ts1 x2 (Y 8) g)) (many + 1) much 0 first en (by show Y 8 - (g + (ts1 x2 (Y 8) g)) + 1 - en < k; omega) (show (Y 8) ≤ 32768 by omega) (show (g + (ts1 x2 (Y 8) g)) ≤ (Y 8) by omega) (show (Y 18 + (ts1 x2 (Y 8) g)) ≤ (g + (ts1 x2 (Y 8) g)) by omega) (show (many + 1) ≤ (g + (ts1 x2 (Y 8) g)) by omega) (show (many + 1) ≤ 8000 → (Y 13 + 1) = (many + 1) by omega) (show 0 ≤ 1 by omega) (show en ≤ 1 by omega) (show (Y 7 + 1) ≤ 1000 by omega) (show (Y 6) ≤ 20000 by omega) (show en = 1 → (g + (ts1 x2 (Y 8) g)) < (Y 8) by omega) hQ _ _ hP hD hS _ (lv_sub hl [8, 0, 2, 3, 1, 4, 9] rfl)
                          · have c_186 := (nI_eq (a := many) (b := 8000) (by omega) (by omega)).mp c_186
                            refine lv_aload_n hx hb dX1_next_316 rfl (lv_at hl 4 rfl) ?_
                            refine va_get (D := (dC, dI)) (ci := 1) (v := .ref (ad 4)) (C := RX1) (T := TX1) (N := 20) hx hb hts inX1 hown hK hP 0 rfl rfl 11 (by decide) (hts _ fl_X1_21) (fun _ h9 => h9) rfl dX1_next_317 ?_
                            refine lv_iload_n hx hb dX1_next_320 rfl (lv_at hl 5 rfl) ?_
                            refine va_iald hx hb hK hP 4 1 rfl rfl (vp_in_nI (by omega) (by decide)) dX1_next_321 ?_
                            refine lv_topi (fun x_195 e_196 => ?_)
                            obtain rfl : x_195 = nI (x4 g) := e_196.trans (by rw [nI_clamp (by omega)])
                            refine lv_goto (tgt := 326) hx hb dX1_next_322 (by decide) ?_
                            refine lv_istore_n (lv' := [(3, .int (nI (x4 g))), (5, .int (nI first)), (9, .int (nI (ts1 x2 (Y 8) g))), (8, .int (bI (rb x2 (Y 8) (g + 1)))), (7, .int (nI (x2 g))), (0, .ref (ad 0)), (1, .int (nI g)), (2, .int (nI many)), (4, .int (nI bf)), (6, .int (nI en))]) hx hb dX1_next_326 rfl hl (by decide) rfl (fun ls hl => ?_)
                            refine lv_iload_n hx hb dX1_next_327 rfl (lv_at hl 7 rfl) ?_
                            refine lv_sipush (v := nI 8000) hx hb dX1_next_328 (by decide) ?_
                            refine lv_icmp_ge (tgt := 343) hx hb dX1_next_331 (by decide) (fun c_197 => ?_) (fun c_197 => ?_)
                            · have c_197 := (nI_leI (a := 8000) (b := many) (by omega) (by omega)).mp c_197
                              refine lv_iinc (v := nI (many + 1)) (lv' := [(2, .int (nI (many + 1))), (3, .int (nI (x4 g))), (5, .int (nI first)), (9, .int (nI (ts1 x2 (Y 8) g))), (8, .int (bI (rb x2 (Y 8) (g + 1)))), (7, .int (nI (x2 g))), (0, .ref (ad 0)), (1, .int (nI g)), (4, .int (nI bf)), (6, .int (nI en))]) hx hb dX1_next_343 hl (k := 7) rfl (by exact nI_add many 1) (by decide) rfl (fun ls hl => ?_)
                              refine lv_iconst (v := nI 0) hx hb dX1_next_346 (by decide) ?_
                              refine lv_istore (lv' := [(4, .int (nI 0)), (2, .int (nI (many + 1))), (3, .int (nI (x4 g))), (5, .int (nI first)), (9, .int (nI (ts1 x2 (Y 8) g))), (8, .int (bI (rb x2 (Y 8) (g + 1)))), (7, .int (nI (x2 g))), (0, .ref (ad 0)), (1, .int (nI g)), (6, .int (nI en))]) hx hb dX1_next_347 hl (by decide) rfl (fun ls hl => ?_)
                              refine lv_iload_n hx hb dX1_next_349 rfl (lv_at hl 8 rfl) ?_
                              refine lv_iload hx hb dX1_next_350 (lv_at hl 4 rfl) ?_
                              refine lv_iadd hx hb dX1_next_352 ?_
                              refine lv_topi (fun x_198 e_199 => ?_)
                              obtain rfl : x_198 = nI (g + (ts1 x2 (Y 8) g)) := e_199.trans (nI_add g (ts1 x2 (Y 8) g))
                              refine lv_istore_n (lv' := [(1, .int (nI (g + (ts1 x2 (Y 8) g)))), (4, .int (nI 0)), (2, .int (nI (many + 1))), (3, .int (nI (x4 g))), (5, .int (nI first)), (9, .int (nI (ts1 x2 (Y 8) g))), (8, .int (bI (rb x2 (Y 8) (g + 1)))), (7, .int (nI (x2 g))), (0, .ref (ad 0)), (6, .int (nI en))]) hx hb dX1_next_353 rfl hl (by decide) rfl (fun ls hl => ?_)
                              refine lv_goto (tgt := 65) hx hb dX1_next_354 (by decide) ?_
                              rw [rL, if_neg (by omega), if_neg (by omega), if_neg (by rw [c_94]; decide), if_neg (by omega), if_neg (by omega), if_neg (by omega), rQ, if_pos (by omega), rKY, if_neg (by omega), rK5, if_neg (by omega), rK6, if_neg (by omega), rK6, if_neg (by omega), rK6, if_neg (by omega), rK9, if_neg (by omega), if_pos (by omega), if_neg (by omega)] at hQ
                              exact ih (zu Y 7 (Y 7 + 1)) x5 x6 x7 x8 x9 (g + (ts1 x2 (Y 8) g)) (many + 1) (x4 g) 0 first en (by show Y 8 - (g + (ts1 x2 (Y 8) g)) + 1 - en < k; omega) (show (Y 8) ≤ 32768 by omega) (show (g + (ts1 x2 (Y 8) g)) ≤ (Y 8) by omega) (show (Y 18) ≤ (g + (ts1 x2 (Y 8) g)) by omega) (show (many + 1) ≤ (g + (ts1 x2 (Y 8) g)) by omega) (show (many + 1) ≤ 8000 → (Y 13) = (many + 1) by omega) (show 0 ≤ 1 by omega) (show en ≤ 1 by omega) (show (Y 7 + 1) ≤ 1000 by omega) (show (Y 6) ≤ 20000 by omega) (show en = 1 → (g + (ts1 x2 (Y 8) g)) < (Y 8) by omega) hQ _ _ hP hD hS _ (lv_sub hl [8, 0, 2, 3, 1, 4, 9] rfl)
                            · have c_197 := mt (nI_leI (a := 8000) (b := many) (by omega) (by omega)).mpr c_197
                              omega
                        · have c_185 := (nI_eq (a := many) (b := 0) (by omega) (by omega)).mp c_185
                          refine lv_aload_n hx hb dX1_next_296 rfl (lv_at hl 3 rfl) ?_
                          refine va_get (D := (dC, dI)) (ci := 1) (v := .ref (ad 4)) (C := RX1) (T := TX1) (N := 20) hx hb hts inX1 hown hK hP 0 rfl rfl 11 (by decide) (hts _ fl_X1_21) (fun _ h9 => h9) rfl dX1_next_297 ?_
                          refine lv_iload_n hx hb dX1_next_300 rfl (lv_at hl 4 rfl) ?_
                          refine va_iald hx hb hK hP 4 1 rfl rfl (vp_in_nI (by omega) (by decide)) dX1_next_301 ?_
                          refine lv_topi (fun x_200 e_201 => ?_)
                          obtain rfl : x_200 = nI (x4 g) := e_201.trans (by rw [nI_clamp (by omega)])
                          refine lv_goto (tgt := 307) hx hb dX1_next_302 (by decide) ?_
                          refine lv_istore (lv' := [(5, .int (nI (x4 g))), (9, .int (nI (ts1 x2 (Y 8) g))), (8, .int (bI (rb x2 (Y 8) (g + 1)))), (7, .int (nI (x2 g))), (0, .ref (ad 0)), (1, .int (nI g)), (2, .int (nI many)), (3, .int (nI much)), (4, .int (nI bf)), (6, .int (nI en))]) hx hb dX1_next_307 hl (by decide) rfl (fun ls hl => ?_)
                          refine lv_iload_n hx hb dX1_next_309 rfl (lv_at hl 6 rfl) ?_
                          refine lv_sipush (v := nI 8000) hx hb dX1_next_310 (by decide) ?_
                          refine lv_icmp_ne (tgt := 325) hx hb dX1_next_313 (by decide) (fun c_202 => ?_) (fun c_202 => ?_)
                          · have c_202 := mt (nI_eq (a := many) (b := 8000) (by omega) (by omega)).mpr c_202
                            refine lv_iload_n hx hb dX1_next_325 rfl (lv_at hl 7 rfl) ?_
                            refine lv_istore_n (lv' := [(3, .int (nI much)), (5, .int (nI (x4 g))), (9, .int (nI (ts1 x2 (Y 8) g))), (8, .int (bI (rb x2 (Y 8) (g + 1)))), (7, .int (nI (x2 g))), (0, .ref (ad 0)), (1, .int (nI g)), (2, .int (nI many)), (4, .int (nI bf)), (6, .int (nI en))]) hx hb dX1_next_326 rfl hl (by decide) rfl (fun ls hl => ?_)
                            refine lv_iload_n hx hb dX1_next_327 rfl (lv_at hl 7 rfl) ?_
                            refine lv_sipush (v := nI 8000) hx hb dX1_next_328 (by decide) ?_
                            refine lv_icmp_ge (tgt := 343) hx hb dX1_next_331 (by decide) (fun c_203 => ?_) (fun c_203 => ?_)
                            · have c_203 := (nI_leI (a := 8000) (b := many) (by omega) (by omega)).mp c_203
                              omega
                            · have c_203 := mt (nI_leI (a := 8000) (b := many) (by omega) (by omega)).mpr c_203
                              refine lv_aload_n hx hb dX1_next_334 rfl (lv_at hl 5 rfl) ?_
                              refine lv_iload_n hx hb dX1_next_335 rfl (lv_at hl 6 rfl) ?_
                              refine lv_iload hx hb dX1_next_336 (lv_at hl 2 rfl) ?_
                              refine lv_iload hx hb dX1_next_338 (lv_at hl 8 rfl) ?_
                              refine rm_callv (va_runV (As := [.int (nI g), .int (nI (ts1 x2 (Y 8) g)), .int (nI bf)]) (rest := []) ⟨hx, hb, hml, hown, hts⟩ (r_keep l dC dI ct ad H.size (zu Y 7 (Y 7 + 1)) x1 x2 x3 x4 x5 x6 x7 x8 x9 g (ts1 x2 (Y 8) g) bf (show g < 32768 by omega) (show Y 18 + ts1 x2 (Y 8) g ≤ 32768 by omega) (show g + ts1 x2 (Y 8) g ≤ 32768 by omega) h2 (show Y 13 < 8000 by omega) (show bf ≤ 1 by omega)) (cwV 3 hts (gV (fun _ h => h) ml_X1_132 im_X1_keep se_X1_keep ini_X1 co_X1_keep) rfl rfl rfl pd_X1_keep ⟨Nat.le_of_ble_eq_true rfl, Nat.le_of_ble_eq_true rfl⟩) (rm_preS hK hP hD) rfl rfl hl.1 rfl (lv_room (Nat.le_of_ble_eq_true rfl)) dX1_next_340 ⟨Nat.zero_le _, Nat.zero_le _⟩) hD hS hA (fun u_205 H locs q_204 hP hD hS => ?_)
                              subst q_204
                              have hP : va_P (dC, dI) vwCl (rmW ct ad ((zu (zu (zu Y 7 (Y 7 + 1)) 13 (Y 13 + 1)) 18 (Y 18 + (ts1 x2 (Y 8) g))), x1, x2, x3, x4, (nu x5 (Y 13) (Y 18)), (nu x6 (Y 13) (ts1 x2 (Y 8) g)), (nu x7 (Y 13) (x4 g)), (nu x8 (Y 13) bf), (cpG (fun i => x2 (g + i)) (Y 18) (ts1 x2 (Y 8) g) x9))) H := hP
                              have hD : va_D A (rmW ct ad ((zu (zu (zu Y 7 (Y 7 + 1)) 13 (Y 13 + 1)) 18 (Y 18 + (ts1 x2 (Y 8) g))), x1, x2, x3, x4, (nu x5 (Y 13) (Y 18)), (nu x6 (Y 13) (ts1 x2 (Y 8) g)), (nu x7 (Y 13) (x4 g)), (nu x8 (Y 13) bf), (cpG (fun i => x2 (g + i)) (Y 18) (ts1 x2 (Y 8) g) x9))) := hD
                              refine lv_iinc (v := nI (many + 1)) (lv' := [(2, .int (nI (many + 1))), (3, .int (nI much)), (5, .int (nI (x4 g))), (9, .int (nI (ts1 x2 (Y 8) g))), (8, .int (bI (rb x2 (Y 8) (g + 1)))), (7, .int (nI (x2 g))), (0, .ref (ad 0)), (1, .int (nI g)), (4, .int (nI bf)), (6, .int (nI en))]) hx hb dX1_next_343 hl (k := 7) rfl (by exact nI_add many 1) (by decide) rfl (fun ls hl => ?_)
                              refine lv_iconst (v := nI 0) hx hb dX1_next_346 (by decide) ?_
                              refine lv_istore (lv' := [(4, .int (nI 0)), (2, .int (nI (many + 1))), (3, .int (nI much)), (5, .int (nI (x4 g))), (9, .int (nI (ts1 x2 (Y 8) g))), (8, .int (bI (rb x2 (Y 8) (g + 1)))), (7, .int (nI (x2 g))), (0, .ref (ad 0)), (1, .int (nI g)), (6, .int (nI en))]) hx hb dX1_next_347 hl (by decide) rfl (fun ls hl => ?_)
                              refine lv_iload_n hx hb dX1_next_349 rfl (lv_at hl 8 rfl) ?_
                              refine lv_iload hx hb dX1_next_350 (lv_at hl 4 rfl) ?_
                              refine lv_iadd hx hb dX1_next_352 ?_
                              refine lv_topi (fun x_207 e_208 => ?_)
                              obtain rfl : x_207 = nI (g + (ts1 x2 (Y 8) g)) := e_208.trans (nI_add g (ts1 x2 (Y 8) g))
                              refine lv_istore_n (lv' := [(1, .int (nI (g + (ts1 x2 (Y 8) g)))), (4, .int (nI 0)), (2, .int (nI (many + 1))), (3, .int (nI much)), (5, .int (nI (x4 g))), (9, .int (nI (ts1 x2 (Y 8) g))), (8, .int (bI (rb x2 (Y 8) (g + 1)))), (7, .int (nI (x2 g))), (0, .ref (ad 0)), (6, .int (nI en))]) hx hb dX1_next_353 rfl hl (by decide) rfl (fun ls hl => ?_)
                              refine lv_goto (tgt := 65) hx hb dX1_next_354 (by decide) ?_
                              rw [rL, if_neg (by omega), if_neg (by omega), if_neg (by rw [c_94]; decide), if_neg (by omega), if_neg (by omega), if_neg (by omega), rQ, if_pos (by omega), rKY, if_pos (by omega), rK5, if_pos (by omega), rK6, if_pos (by omega), rK6, if_pos (by omega), rK6, if_pos (by omega), rK9, if_pos (by omega), if_neg (by omega), if_pos (by omega)] at hQ
                              exact ih (zu (zu (zu Y 7 (Y 7 + 1)) 13 (Y 13 + 1)) 18 (Y 18 + (ts1 x2 (Y 8) g))) ((nu x5 (Y 13) (Y 18))) ((nu x6 (Y 13) (ts1 x2 (Y 8) g))) ((nu x7 (Y 13) (x4 g))) ((nu x8 (Y 13) bf)) ((cpG (fun i => x2 (g + i)) (Y 18) (ts1 x2 (Y 8) g) x9)) (g + (ts1 x2 (Y 8) g)) (many + 1) much 0 (x4 g) en (by show Y 8 - (g + (ts1 x2 (Y 8) g)) + 1 - en < k; omega) (show (Y 8) ≤ 32768 by omega) (show (g + (ts1 x2 (Y 8) g)) ≤ (Y 8) by omega) (show (Y 18 + (ts1 x2 (Y 8) g)) ≤ (g + (ts1 x2 (Y 8) g)) by omega) (show (many + 1) ≤ (g + (ts1 x2 (Y 8) g)) by omega) (show (many + 1) ≤ 8000 → (Y 13 + 1) = (many + 1) by omega) (show 0 ≤ 1 by omega) (show en ≤ 1 by omega) (show (Y 7 + 1) ≤ 1000 by omega) (show (Y 6) ≤ 20000 by omega) (show en = 1 → (g + (ts1 x2 (Y 8) g)) < (Y 8) by omega) hQ _ _ hP hD hS _ (lv_sub hl [8, 0, 2, 3, 1, 4, 9] rfl)
                          · have c_202 := (nI_eq (a := many) (b := 8000) (by omega) (by omega)).mp c_202
                            omega
                      · have c_184 := mt (nI_leI (a := Y 7 + 1) (b := 1000) (by omega) (by omega)).mpr c_184
                        refine lv_aload_n hx hb dX1_next_279 rfl (lv_at hl 3 rfl) ?_
                        refine lv_bipush (v := nI 21) hx hb dX1_next_280 (by decide) ?_
                        refine lv_aload_n hx hb dX1_next_282 rfl (lv_at hl 3 rfl) ?_
                        refine va_get (D := (dC, dI)) (ci := 1) (v := .ref (ad 4)) (C := RX1) (T := TX1) (N := 20) hx hb hts inX1 hown hK hP 0 rfl rfl 11 (by decide) (hts _ fl_X1_21) (fun _ h9 => h9) rfl dX1_next_283 ?_
                        refine lv_iload_n hx hb dX1_next_286 rfl (lv_at hl 4 rfl) ?_
                        refine va_iald hx hb hK hP 4 1 rfl rfl (vp_in_nI (by omega) (by decide)) dX1_next_287 ?_
                        refine lv_topi (fun x_209 e_210 => ?_)
                        obtain rfl : x_209 = nI (x4 g) := e_210.trans (by rw [nI_clamp (by omega)])
                        refine rm_calli (va_runV (As := [.int (nI 21), .int (nI (x4 g))]) (rest := []) ⟨hx, hb, hml, hown, hts⟩ (r_stop l dC dI ct ad H.size (zu Y 7 (Y 7 + 1)) x1 x2 x3 x4 x5 x6 x7 x8 x9 21 (x4 g)) (cwV 2 hts (gV (fun _ h => h) ml_X1_126 im_X1_stop se_X1_stop ini_X1 co_X1_stop) rfl rfl rfl pd_X1_stop ⟨Nat.le_of_ble_eq_true rfl, Nat.le_of_ble_eq_true rfl⟩) (rm_preS hK hP hD) rfl rfl hl.1 rfl (lv_room (Nat.le_of_ble_eq_true rfl)) dX1_next_288 ⟨Nat.zero_le _, Nat.zero_le _⟩) hD hS hA (fun r_213 u_212 H locs q_211 hP hD hS => ?_)
                        obtain ⟨rfl, rfl⟩ := q_211
                        have hP : va_P (dC, dI) vwCl (rmW ct ad ((zu (zu (zu (zu Y 4 1) 5 (x4 g)) 7 (Y 7 + 1)) 13 0), x1, x2, x3, x4, x5, x6, x7, x8, x9)) H := hP
                        have hD : va_D A (rmW ct ad ((zu (zu (zu (zu Y 4 1) 5 (x4 g)) 7 (Y 7 + 1)) 13 0), x1, x2, x3, x4, x5, x6, x7, x8, x9)) := hD
                        have hP : va_P (dC, dI) vwCl (rmW ct ad (rSt (zu Y 7 (Y 7 + 1)) (x4 g), x1, x2, x3, x4, x5, x6, x7, x8, x9)) H := by skip; exact hP
                        have hD : va_D A (rmW ct ad (rSt (zu Y 7 (Y 7 + 1)) (x4 g), x1, x2, x3, x4, x5, x6, x7, x8, x9)) := by skip; exact hD
                        exact W.iret (v := (-10) - nI 21) hx hb hr (fun t ht hW => ⟨⟨_, (rSt (zu Y 7 (Y 7 + 1)) (x4 g), x1, x2, x3, x4, x5, x6, x7, x8, x9), rfl, (by rw [rL, if_neg (by omega), if_neg (by omega), if_neg (by rw [c_94]; decide), if_neg (by omega), if_neg (by omega), if_pos (by omega), rQ, if_pos (by omega)] at hQ; exact hQ), by rw [ht]; exact hP, va_K.moved hW.alike hK, hD⟩, hS.F ht⟩) hS.2.2 dX1_next_291
              · have c_96 := (nI_eq (a := x2 g) (b := 47) (by omega) (by omega)).mp c_96
                refine lv_iload hx hb dX1_next_190 (lv_at hl 0 rfl) ?_
                refine lv_bipush (v := nI 47) hx hb dX1_next_192 (by decide) ?_
                refine lv_icmp_ne (tgt := 228) hx hb dX1_next_194 (by decide) (fun c_214 => ?_) (fun c_214 => ?_)
                · have c_214 := mt (bI_eqN (k := 47) (by omega)).mpr c_214
                  refine lv_aload_n hx hb dX1_next_228 rfl (lv_at hl 2 rfl) ?_
                  refine lv_iload_n hx hb dX1_next_229 rfl (lv_at hl 3 rfl) ?_
                  refine lv_aload_n hx hb dX1_next_230 rfl (lv_at hl 2 rfl) ?_
                  refine va_get (D := (dC, dI)) (ci := 1) (v := .int (nI (Y 8))) (C := RX1) (T := TX1) (N := 20) hx hb hts inX1 hown hK hP 0 rfl rfl 8 (by decide) (hts _ fl_X1_107) (fun _ h9 => h9) rfl dX1_next_231 ?_
                  have hwH := hw.kept (H1 := H) (fun a h1 h2 => hS.2.1 a h1 (fun z => h2 (hAA a z)))
                  refine vp_callSi (va_Run.run (va_runV (As := [.int (nI g), .int (nI (Y 8))]) (rest := []) ⟨hx, hb, hml, hown, hts⟩ (r_tokenSizeAt l dC dI ct ad dK dV A0 Y x1 x2 x3 x4 x5 x6 x7 x8 x9 g (Y 8) (show g < Y 8 by omega) (show Y 8 ≤ 32768 by omega) h2) (cwV 2 hts (gV (fun _ h => h) ml_X1_129 im_X1_tokenSizeAt se_X1_tokenSizeAt ini_X1 co_X1_tokenSizeAt) rfl rfl rfl pd_X1_tokenSizeAt ⟨Nat.le_of_ble_eq_true rfl, Nat.le_of_ble_eq_true rfl⟩) (rm_preRW hK hP hwH) rfl rfl hl.1 rfl (lv_room (Nat.le_of_ble_eq_true rfl)) dX1_next_234 ⟨Nat.zero_le _, Nat.zero_le _⟩)) (fun r_215 (e_216 : r_215 = nI (ts1 x2 (Y 8) g)) => ?_)
                  subst e_216
                  have := ts1_b h2 (show g < Y 8 by omega)
                  refine lv_istore (lv' := [(9, .int (nI (ts1 x2 (Y 8) g))), (8, .int (bI (rb x2 (Y 8) (g + 1)))), (7, .int (nI (x2 g))), (0, .ref (ad 0)), (1, .int (nI g)), (2, .int (nI many)), (3, .int (nI much)), (4, .int (nI bf)), (5, .int (nI first)), (6, .int (nI en))]) hx hb dX1_next_237 hl (by decide) rfl (fun ls hl => ?_)
                  refine lv_iload hx hb dX1_next_239 (lv_at hl 0 rfl) ?_
                  refine lv_iconst (v := nI 1) hx hb dX1_next_241 (by decide) ?_
                  refine lv_icmp_ne (tgt := 292) hx hb dX1_next_242 (by decide) (fun c_217 => ?_) (fun c_217 => ?_)
                  · have c_217 := mt (nI_eq (a := ts1 x2 (Y 8) g) (b := 1) (by omega) (by omega)).mpr c_217
                    refine lv_iload_n hx hb dX1_next_292 rfl (lv_at hl 5 rfl) ?_
                    refine lv_if_ne (tgt := 305) hx hb dX1_next_293 (by decide) (fun c_218 => ?_) (fun c_218 => ?_)
                    · have c_218 := mt (nI_eq (a := many) (b := 0) (by omega) (by omega)).mpr c_218
                      refine lv_iload hx hb dX1_next_305 (lv_at hl 8 rfl) ?_
                      refine lv_istore (lv' := [(5, .int (nI first)), (9, .int (nI (ts1 x2 (Y 8) g))), (8, .int (bI (rb x2 (Y 8) (g + 1)))), (7, .int (nI (x2 g))), (0, .ref (ad 0)), (1, .int (nI g)), (2, .int (nI many)), (3, .int (nI much)), (4, .int (nI bf)), (6, .int (nI en))]) hx hb dX1_next_307 hl (by decide) rfl (fun ls hl => ?_)
                      refine lv_iload_n hx hb dX1_next_309 rfl (lv_at hl 6 rfl) ?_
                      refine lv_sipush (v := nI 8000) hx hb dX1_next_310 (by decide) ?_
                      refine lv_icmp_ne (tgt := 325) hx hb dX1_next_313 (by decide) (fun c_219 => ?_) (fun c_219 => ?_)
                      · have c_219 := mt (nI_eq (a := many) (b := 8000) (by omega) (by omega)).mpr c_219
                        refine lv_iload_n hx hb dX1_next_325 rfl (lv_at hl 7 rfl) ?_
                        refine lv_istore_n (lv' := [(3, .int (nI much)), (5, .int (nI first)), (9, .int (nI (ts1 x2 (Y 8) g))), (8, .int (bI (rb x2 (Y 8) (g + 1)))), (7, .int (nI (x2 g))), (0, .ref (ad 0)), (1, .int (nI g)), (2, .int (nI many)), (4, .int (nI bf)), (6, .int (nI en))]) hx hb dX1_next_326 rfl hl (by decide) rfl (fun ls hl => ?_)
                        refine lv_iload_n hx hb dX1_next_327 rfl (lv_at hl 7 rfl) ?_
                        refine lv_sipush (v := nI 8000) hx hb dX1_next_328 (by decide) ?_
                        refine lv_icmp_ge (tgt := 343) hx hb dX1_next_331 (by decide) (fun c_220 => ?_) (fun c_220 => ?_)
                        · have c_220 := (nI_leI (a := 8000) (b := many) (by omega) (by omega)).mp c_220
                          refine lv_iinc (v := nI (many + 1)) (lv' := [(2, .int (nI (many + 1))), (3, .int (nI much)), (5, .int (nI first)), (9, .int (nI (ts1 x2 (Y 8) g))), (8, .int (bI (rb x2 (Y 8) (g + 1)))), (7, .int (nI (x2 g))), (0, .ref (ad 0)), (1, .int (nI g)), (4, .int (nI bf)), (6, .int (nI en))]) hx hb dX1_next_343 hl (k := 7) rfl (by exact nI_add many 1) (by decide) rfl (fun ls hl => ?_)
                          refine lv_iconst (v := nI 0) hx hb dX1_next_346 (by decide) ?_
                          refine lv_istore (lv' := [(4, .int (nI 0)), (2, .int (nI (many + 1))), (3, .int (nI much)), (5, .int (nI first)), (9, .int (nI (ts1 x2 (Y 8) g))), (8, .int (bI (rb x2 (Y 8) (g + 1)))), (7, .int (nI (x2 g))), (0, .ref (ad 0)), (1, .int (nI g)), (6, .int (nI en))]) hx hb dX1_next_347 hl (by decide) rfl (fun ls hl => ?_)
                          refine lv_iload_n hx hb dX1_next_349 rfl (lv_at hl 8 rfl) ?_
                          refine lv_iload hx hb dX1_next_350 (lv_at hl 4 rfl) ?_
                          refine lv_iadd hx hb dX1_next_352 ?_
                          refine lv_topi (fun x_221 e_222 => ?_)
                          obtain rfl : x_221 = nI (g + (ts1 x2 (Y 8) g)) := e_222.trans (nI_add g (ts1 x2 (Y 8) g))
                          refine lv_istore_n (lv' := [(1, .int (nI (g + (ts1 x2 (Y 8) g)))), (4, .int (nI 0)), (2, .int (nI (many + 1))), (3, .int (nI much)), (5, .int (nI first)), (9, .int (nI (ts1 x2 (Y 8) g))), (8, .int (bI (rb x2 (Y 8) (g + 1)))), (7, .int (nI (x2 g))), (0, .ref (ad 0)), (6, .int (nI en))]) hx hb dX1_next_353 rfl hl (by decide) rfl (fun ls hl => ?_)
                          refine lv_goto (tgt := 65) hx hb dX1_next_354 (by decide) ?_
                          rw [rL, if_neg (by omega), if_neg (by omega), if_neg (by rw [c_94]; decide), if_neg (by omega), if_neg (by omega), if_neg (by omega), rQ, if_neg (by omega), rKY, if_neg (by omega), rK5, if_neg (by omega), rK6, if_neg (by omega), rK6, if_neg (by omega), rK6, if_neg (by omega), rK9, if_neg (by omega), if_neg (by omega), if_neg (by omega)] at hQ
                          exact ih Y x5 x6 x7 x8 x9 (g + (ts1 x2 (Y 8) g)) (many + 1) much 0 first en (by show Y 8 - (g + (ts1 x2 (Y 8) g)) + 1 - en < k; omega) (show (Y 8) ≤ 32768 by omega) (show (g + (ts1 x2 (Y 8) g)) ≤ (Y 8) by omega) (show (Y 18) ≤ (g + (ts1 x2 (Y 8) g)) by omega) (show (many + 1) ≤ (g + (ts1 x2 (Y 8) g)) by omega) (show (many + 1) ≤ 8000 → (Y 13) = (many + 1) by omega) (show 0 ≤ 1 by omega) (show en ≤ 1 by omega) (show (Y 7) ≤ 1000 by omega) (show (Y 6) ≤ 20000 by omega) (show en = 1 → (g + (ts1 x2 (Y 8) g)) < (Y 8) by omega) hQ _ _ hP hD hS _ (lv_sub hl [8, 0, 2, 3, 1, 4, 9] rfl)
                        · have c_220 := mt (nI_leI (a := 8000) (b := many) (by omega) (by omega)).mpr c_220
                          refine lv_aload_n hx hb dX1_next_334 rfl (lv_at hl 5 rfl) ?_
                          refine lv_iload_n hx hb dX1_next_335 rfl (lv_at hl 6 rfl) ?_
                          refine lv_iload hx hb dX1_next_336 (lv_at hl 2 rfl) ?_
                          refine lv_iload hx hb dX1_next_338 (lv_at hl 8 rfl) ?_
                          refine rm_callv (va_runV (As := [.int (nI g), .int (nI (ts1 x2 (Y 8) g)), .int (nI bf)]) (rest := []) ⟨hx, hb, hml, hown, hts⟩ (r_keep l dC dI ct ad H.size Y x1 x2 x3 x4 x5 x6 x7 x8 x9 g (ts1 x2 (Y 8) g) bf (show g < 32768 by omega) (show Y 18 + ts1 x2 (Y 8) g ≤ 32768 by omega) (show g + ts1 x2 (Y 8) g ≤ 32768 by omega) h2 (show Y 13 < 8000 by omega) (show bf ≤ 1 by omega)) (cwV 3 hts (gV (fun _ h => h) ml_X1_132 im_X1_keep se_X1_keep ini_X1 co_X1_keep) rfl rfl rfl pd_X1_keep ⟨Nat.le_of_ble_eq_true rfl, Nat.le_of_ble_eq_true rfl⟩) (rm_preS hK hP hD) rfl rfl hl.1 rfl (lv_room (Nat.le_of_ble_eq_true rfl)) dX1_next_340 ⟨Nat.zero_le _, Nat.zero_le _⟩) hD hS hA (fun u_224 H locs q_223 hP hD hS => ?_)
                          subst q_223
                          have hP : va_P (dC, dI) vwCl (rmW ct ad ((zu (zu Y 13 (Y 13 + 1)) 18 (Y 18 + (ts1 x2 (Y 8) g))), x1, x2, x3, x4, (nu x5 (Y 13) (Y 18)), (nu x6 (Y 13) (ts1 x2 (Y 8) g)), (nu x7 (Y 13) (x4 g)), (nu x8 (Y 13) bf), (cpG (fun i => x2 (g + i)) (Y 18) (ts1 x2 (Y 8) g) x9))) H := hP
                          have hD : va_D A (rmW ct ad ((zu (zu Y 13 (Y 13 + 1)) 18 (Y 18 + (ts1 x2 (Y 8) g))), x1, x2, x3, x4, (nu x5 (Y 13) (Y 18)), (nu x6 (Y 13) (ts1 x2 (Y 8) g)), (nu x7 (Y 13) (x4 g)), (nu x8 (Y 13) bf), (cpG (fun i => x2 (g + i)) (Y 18) (ts1 x2 (Y 8) g) x9))) := hD
                          refine lv_iinc (v := nI (many + 1)) (lv' := [(2, .int (nI (many + 1))), (3, .int (nI much)), (5, .int (nI first)), (9, .int (nI (ts1 x2 (Y 8) g))), (8, .int (bI (rb x2 (Y 8) (g + 1)))), (7, .int (nI (x2 g))), (0, .ref (ad 0)), (1, .int (nI g)), (4, .int (nI bf)), (6, .int (nI en))]) hx hb dX1_next_343 hl (k := 7) rfl (by exact nI_add many 1) (by decide) rfl (fun ls hl => ?_)
                          refine lv_iconst (v := nI 0) hx hb dX1_next_346 (by decide) ?_
                          refine lv_istore (lv' := [(4, .int (nI 0)), (2, .int (nI (many + 1))), (3, .int (nI much)), (5, .int (nI first)), (9, .int (nI (ts1 x2 (Y 8) g))), (8, .int (bI (rb x2 (Y 8) (g + 1)))), (7, .int (nI (x2 g))), (0, .ref (ad 0)), (1, .int (nI g)), (6, .int (nI en))]) hx hb dX1_next_347 hl (by decide) rfl (fun ls hl => ?_)
                          refine lv_iload_n hx hb dX1_next_349 rfl (lv_at hl 8 rfl) ?_
                          refine lv_iload hx hb dX1_next_350 (lv_at hl 4 rfl) ?_
                          refine lv_iadd hx hb dX1_next_352 ?_
                          refine lv_topi (fun x_226 e_227 => ?_)
                          obtain rfl : x_226 = nI (g + (ts1 x2 (Y 8) g)) := e_227.trans (nI_add g (ts1 x2 (Y 8) g))
                          refine lv_istore_n (lv' := [(1, .int (nI (g + (ts1 x2 (Y 8) g)))), (4, .int (nI 0)), (2, .int (nI (many + 1))), (3, .int (nI much)), (5, .int (nI first)), (9, .int (nI (ts1 x2 (Y 8) g))), (8, .int (bI (rb x2 (Y 8) (g + 1)))), (7, .int (nI (x2 g))), (0, .ref (ad 0)), (6, .int (nI en))]) hx hb dX1_next_353 rfl hl (by decide) rfl (fun ls hl => ?_)
                          refine lv_goto (tgt := 65) hx hb dX1_next_354 (by decide) ?_
                          rw [rL, if_neg (by omega), if_neg (by omega), if_neg (by rw [c_94]; decide), if_neg (by omega), if_neg (by omega), if_neg (by omega), rQ, if_neg (by omega), rKY, if_pos (by omega), rK5, if_pos (by omega), rK6, if_pos (by omega), rK6, if_pos (by omega), rK6, if_pos (by omega), rK9, if_pos (by omega), if_neg (by omega), if_neg (by omega)] at hQ
                          exact ih (zu (zu Y 13 (Y 13 + 1)) 18 (Y 18 + (ts1 x2 (Y 8) g))) ((nu x5 (Y 13) (Y 18))) ((nu x6 (Y 13) (ts1 x2 (Y 8) g))) ((nu x7 (Y 13) (x4 g))) ((nu x8 (Y 13) bf)) ((cpG (fun i => x2 (g + i)) (Y 18) (ts1 x2 (Y 8) g) x9)) (g + (ts1 x2 (Y 8) g)) (many + 1) much 0 first en (by show Y 8 - (g + (ts1 x2 (Y 8) g)) + 1 - en < k; omega) (show (Y 8) ≤ 32768 by omega) (show (g + (ts1 x2 (Y 8) g)) ≤ (Y 8) by omega) (show (Y 18 + (ts1 x2 (Y 8) g)) ≤ (g + (ts1 x2 (Y 8) g)) by omega) (show (many + 1) ≤ (g + (ts1 x2 (Y 8) g)) by omega) (show (many + 1) ≤ 8000 → (Y 13 + 1) = (many + 1) by omega) (show 0 ≤ 1 by omega) (show en ≤ 1 by omega) (show (Y 7) ≤ 1000 by omega) (show (Y 6) ≤ 20000 by omega) (show en = 1 → (g + (ts1 x2 (Y 8) g)) < (Y 8) by omega) hQ _ _ hP hD hS _ (lv_sub hl [8, 0, 2, 3, 1, 4, 9] rfl)
                      · have c_219 := (nI_eq (a := many) (b := 8000) (by omega) (by omega)).mp c_219
                        refine lv_aload_n hx hb dX1_next_316 rfl (lv_at hl 4 rfl) ?_
                        refine va_get (D := (dC, dI)) (ci := 1) (v := .ref (ad 4)) (C := RX1) (T := TX1) (N := 20) hx hb hts inX1 hown hK hP 0 rfl rfl 11 (by decide) (hts _ fl_X1_21) (fun _ h9 => h9) rfl dX1_next_317 ?_
                        refine lv_iload_n hx hb dX1_next_320 rfl (lv_at hl 5 rfl) ?_
                        refine va_iald hx hb hK hP 4 1 rfl rfl (vp_in_nI (by omega) (by decide)) dX1_next_321 ?_
                        refine lv_topi (fun x_228 e_229 => ?_)
                        obtain rfl : x_228 = nI (x4 g) := e_229.trans (by rw [nI_clamp (by omega)])
                        refine lv_goto (tgt := 326) hx hb dX1_next_322 (by decide) ?_
                        refine lv_istore_n (lv' := [(3, .int (nI (x4 g))), (5, .int (nI first)), (9, .int (nI (ts1 x2 (Y 8) g))), (8, .int (bI (rb x2 (Y 8) (g + 1)))), (7, .int (nI (x2 g))), (0, .ref (ad 0)), (1, .int (nI g)), (2, .int (nI many)), (4, .int (nI bf)), (6, .int (nI en))]) hx hb dX1_next_326 rfl hl (by decide) rfl (fun ls hl => ?_)
                        refine lv_iload_n hx hb dX1_next_327 rfl (lv_at hl 7 rfl) ?_
                        refine lv_sipush (v := nI 8000) hx hb dX1_next_328 (by decide) ?_
                        refine lv_icmp_ge (tgt := 343) hx hb dX1_next_331 (by decide) (fun c_230 => ?_) (fun c_230 => ?_)
                        · have c_230 := (nI_leI (a := 8000) (b := many) (by omega) (by omega)).mp c_230
                          refine lv_iinc (v := nI (many + 1)) (lv' := [(2, .int (nI (many + 1))), (3, .int (nI (x4 g))), (5, .int (nI first)), (9, .int (nI (ts1 x2 (Y 8) g))), (8, .int (bI (rb x2 (Y 8) (g + 1)))), (7, .int (nI (x2 g))), (0, .ref (ad 0)), (1, .int (nI g)), (4, .int (nI bf)), (6, .int (nI en))]) hx hb dX1_next_343 hl (k := 7) rfl (by exact nI_add many 1) (by decide) rfl (fun ls hl => ?_)
                          refine lv_iconst (v := nI 0) hx hb dX1_next_346 (by decide) ?_
                          refine lv_istore (lv' := [(4, .int (nI 0)), (2, .int (nI (many + 1))), (3, .int (nI (x4 g))), (5, .int (nI first)), (9, .int (nI (ts1 x2 (Y 8) g))), (8, .int (bI (rb x2 (Y 8) (g + 1)))), (7, .int (nI (x2 g))), (0, .ref (ad 0)), (1, .int (nI g)), (6, .int (nI en))]) hx hb dX1_next_347 hl (by decide) rfl (fun ls hl => ?_)
                          refine lv_iload_n hx hb dX1_next_349 rfl (lv_at hl 8 rfl) ?_
                          refine lv_iload hx hb dX1_next_350 (lv_at hl 4 rfl) ?_
                          refine lv_iadd hx hb dX1_next_352 ?_
                          refine lv_topi (fun x_231 e_232 => ?_)
                          obtain rfl : x_231 = nI (g + (ts1 x2 (Y 8) g)) := e_232.trans (nI_add g (ts1 x2 (Y 8) g))
                          refine lv_istore_n (lv' := [(1, .int (nI (g + (ts1 x2 (Y 8) g)))), (4, .int (nI 0)), (2, .int (nI (many + 1))), (3, .int (nI (x4 g))), (5, .int (nI first)), (9, .int (nI (ts1 x2 (Y 8) g))), (8, .int (bI (rb x2 (Y 8) (g + 1)))), (7, .int (nI (x2 g))), (0, .ref (ad 0)), (6, .int (nI en))]) hx hb dX1_next_353 rfl hl (by decide) rfl (fun ls hl => ?_)
                          refine lv_goto (tgt := 65) hx hb dX1_next_354 (by decide) ?_
                          rw [rL, if_neg (by omega), if_neg (by omega), if_neg (by rw [c_94]; decide), if_neg (by omega), if_neg (by omega), if_neg (by omega), rQ, if_neg (by omega), rKY, if_neg (by omega), rK5, if_neg (by omega), rK6, if_neg (by omega), rK6, if_neg (by omega), rK6, if_neg (by omega), rK9, if_neg (by omega), if_pos (by omega), if_neg (by omega)] at hQ
                          exact ih Y x5 x6 x7 x8 x9 (g + (ts1 x2 (Y 8) g)) (many + 1) (x4 g) 0 first en (by show Y 8 - (g + (ts1 x2 (Y 8) g)) + 1 - en < k; omega) (show (Y 8) ≤ 32768 by omega) (show (g + (ts1 x2 (Y 8) g)) ≤ (Y 8) by omega) (show (Y 18) ≤ (g + (ts1 x2 (Y 8) g)) by omega) (show (many + 1) ≤ (g + (ts1 x2 (Y 8) g)) by omega) (show (many + 1) ≤ 8000 → (Y 13) = (many + 1) by omega) (show 0 ≤ 1 by omega) (show en ≤ 1 by omega) (show (Y 7) ≤ 1000 by omega) (show (Y 6) ≤ 20000 by omega) (show en = 1 → (g + (ts1 x2 (Y 8) g)) < (Y 8) by omega) hQ _ _ hP hD hS _ (lv_sub hl [8, 0, 2, 3, 1, 4, 9] rfl)
                        · have c_230 := mt (nI_leI (a := 8000) (b := many) (by omega) (by omega)).mpr c_230
                          omega
                    · have c_218 := (nI_eq (a := many) (b := 0) (by omega) (by omega)).mp c_218
                      refine lv_aload_n hx hb dX1_next_296 rfl (lv_at hl 3 rfl) ?_
                      refine va_get (D := (dC, dI)) (ci := 1) (v := .ref (ad 4)) (C := RX1) (T := TX1) (N := 20) hx hb hts inX1 hown hK hP 0 rfl rfl 11 (by decide) (hts _ fl_X1_21) (fun _ h9 => h9) rfl dX1_next_297 ?_
                      refine lv_iload_n hx hb dX1_next_300 rfl (lv_at hl 4 rfl) ?_
                      refine va_iald hx hb hK hP 4 1 rfl rfl (vp_in_nI (by omega) (by decide)) dX1_next_301 ?_
                      refine lv_topi (fun x_233 e_234 => ?_)
                      obtain rfl : x_233 = nI (x4 g) := e_234.trans (by rw [nI_clamp (by omega)])
                      refine lv_goto (tgt := 307) hx hb dX1_next_302 (by decide) ?_
                      refine lv_istore (lv' := [(5, .int (nI (x4 g))), (9, .int (nI (ts1 x2 (Y 8) g))), (8, .int (bI (rb x2 (Y 8) (g + 1)))), (7, .int (nI (x2 g))), (0, .ref (ad 0)), (1, .int (nI g)), (2, .int (nI many)), (3, .int (nI much)), (4, .int (nI bf)), (6, .int (nI en))]) hx hb dX1_next_307 hl (by decide) rfl (fun ls hl => ?_)
                      refine lv_iload_n hx hb dX1_next_309 rfl (lv_at hl 6 rfl) ?_
                      refine lv_sipush (v := nI 8000) hx hb dX1_next_310 (by decide) ?_
                      refine lv_icmp_ne (tgt := 325) hx hb dX1_next_313 (by decide) (fun c_235 => ?_) (fun c_235 => ?_)
                      · have c_235 := mt (nI_eq (a := many) (b := 8000) (by omega) (by omega)).mpr c_235
                        refine lv_iload_n hx hb dX1_next_325 rfl (lv_at hl 7 rfl) ?_
                        refine lv_istore_n (lv' := [(3, .int (nI much)), (5, .int (nI (x4 g))), (9, .int (nI (ts1 x2 (Y 8) g))), (8, .int (bI (rb x2 (Y 8) (g + 1)))), (7, .int (nI (x2 g))), (0, .ref (ad 0)), (1, .int (nI g)), (2, .int (nI many)), (4, .int (nI bf)), (6, .int (nI en))]) hx hb dX1_next_326 rfl hl (by decide) rfl (fun ls hl => ?_)
                        refine lv_iload_n hx hb dX1_next_327 rfl (lv_at hl 7 rfl) ?_
                        refine lv_sipush (v := nI 8000) hx hb dX1_next_328 (by decide) ?_
                        refine lv_icmp_ge (tgt := 343) hx hb dX1_next_331 (by decide) (fun c_236 => ?_) (fun c_236 => ?_)
                        · have c_236 := (nI_leI (a := 8000) (b := many) (by omega) (by omega)).mp c_236
                          omega
                        · have c_236 := mt (nI_leI (a := 8000) (b := many) (by omega) (by omega)).mpr c_236
                          refine lv_aload_n hx hb dX1_next_334 rfl (lv_at hl 5 rfl) ?_
                          refine lv_iload_n hx hb dX1_next_335 rfl (lv_at hl 6 rfl) ?_
                          refine lv_iload hx hb dX1_next_336 (lv_at hl 2 rfl) ?_
                          refine lv_iload hx hb dX1_next_338 (lv_at hl 8 rfl) ?_
                          refine rm_callv (va_runV (As := [.int (nI g), .int (nI (ts1 x2 (Y 8) g)), .int (nI bf)]) (rest := []) ⟨hx, hb, hml, hown, hts⟩ (r_keep l dC dI ct ad H.size Y x1 x2 x3 x4 x5 x6 x7 x8 x9 g (ts1 x2 (Y 8) g) bf (show g < 32768 by omega) (show Y 18 + ts1 x2 (Y 8) g ≤ 32768 by omega) (show g + ts1 x2 (Y 8) g ≤ 32768 by omega) h2 (show Y 13 < 8000 by omega) (show bf ≤ 1 by omega)) (cwV 3 hts (gV (fun _ h => h) ml_X1_132 im_X1_keep se_X1_keep ini_X1 co_X1_keep) rfl rfl rfl pd_X1_keep ⟨Nat.le_of_ble_eq_true rfl, Nat.le_of_ble_eq_true rfl⟩) (rm_preS hK hP hD) rfl rfl hl.1 rfl (lv_room (Nat.le_of_ble_eq_true rfl)) dX1_next_340 ⟨Nat.zero_le _, Nat.zero_le _⟩) hD hS hA (fun u_238 H locs q_237 hP hD hS => ?_)
                          subst q_237
                          have hP : va_P (dC, dI) vwCl (rmW ct ad ((zu (zu Y 13 (Y 13 + 1)) 18 (Y 18 + (ts1 x2 (Y 8) g))), x1, x2, x3, x4, (nu x5 (Y 13) (Y 18)), (nu x6 (Y 13) (ts1 x2 (Y 8) g)), (nu x7 (Y 13) (x4 g)), (nu x8 (Y 13) bf), (cpG (fun i => x2 (g + i)) (Y 18) (ts1 x2 (Y 8) g) x9))) H := hP
                          have hD : va_D A (rmW ct ad ((zu (zu Y 13 (Y 13 + 1)) 18 (Y 18 + (ts1 x2 (Y 8) g))), x1, x2, x3, x4, (nu x5 (Y 13) (Y 18)), (nu x6 (Y 13) (ts1 x2 (Y 8) g)), (nu x7 (Y 13) (x4 g)), (nu x8 (Y 13) bf), (cpG (fun i => x2 (g + i)) (Y 18) (ts1 x2 (Y 8) g) x9))) := hD
                          refine lv_iinc (v := nI (many + 1)) (lv' := [(2, .int (nI (many + 1))), (3, .int (nI much)), (5, .int (nI (x4 g))), (9, .int (nI (ts1 x2 (Y 8) g))), (8, .int (bI (rb x2 (Y 8) (g + 1)))), (7, .int (nI (x2 g))), (0, .ref (ad 0)), (1, .int (nI g)), (4, .int (nI bf)), (6, .int (nI en))]) hx hb dX1_next_343 hl (k := 7) rfl (by exact nI_add many 1) (by decide) rfl (fun ls hl => ?_)
                          refine lv_iconst (v := nI 0) hx hb dX1_next_346 (by decide) ?_
                          refine lv_istore (lv' := [(4, .int (nI 0)), (2, .int (nI (many + 1))), (3, .int (nI much)), (5, .int (nI (x4 g))), (9, .int (nI (ts1 x2 (Y 8) g))), (8, .int (bI (rb x2 (Y 8) (g + 1)))), (7, .int (nI (x2 g))), (0, .ref (ad 0)), (1, .int (nI g)), (6, .int (nI en))]) hx hb dX1_next_347 hl (by decide) rfl (fun ls hl => ?_)
                          refine lv_iload_n hx hb dX1_next_349 rfl (lv_at hl 8 rfl) ?_
                          refine lv_iload hx hb dX1_next_350 (lv_at hl 4 rfl) ?_
                          refine lv_iadd hx hb dX1_next_352 ?_
                          refine lv_topi (fun x_240 e_241 => ?_)
                          obtain rfl : x_240 = nI (g + (ts1 x2 (Y 8) g)) := e_241.trans (nI_add g (ts1 x2 (Y 8) g))
                          refine lv_istore_n (lv' := [(1, .int (nI (g + (ts1 x2 (Y 8) g)))), (4, .int (nI 0)), (2, .int (nI (many + 1))), (3, .int (nI much)), (5, .int (nI (x4 g))), (9, .int (nI (ts1 x2 (Y 8) g))), (8, .int (bI (rb x2 (Y 8) (g + 1)))), (7, .int (nI (x2 g))), (0, .ref (ad 0)), (6, .int (nI en))]) hx hb dX1_next_353 rfl hl (by decide) rfl (fun ls hl => ?_)
                          refine lv_goto (tgt := 65) hx hb dX1_next_354 (by decide) ?_
                          rw [rL, if_neg (by omega), if_neg (by omega), if_neg (by rw [c_94]; decide), if_neg (by omega), if_neg (by omega), if_neg (by omega), rQ, if_neg (by omega), rKY, if_pos (by omega), rK5, if_pos (by omega), rK6, if_pos (by omega), rK6, if_pos (by omega), rK6, if_pos (by omega), rK9, if_pos (by omega), if_neg (by omega), if_pos (by omega)] at hQ
                          exact ih (zu (zu Y 13 (Y 13 + 1)) 18 (Y 18 + (ts1 x2 (Y 8) g))) ((nu x5 (Y 13) (Y 18))) ((nu x6 (Y 13) (ts1 x2 (Y 8) g))) ((nu x7 (Y 13) (x4 g))) ((nu x8 (Y 13) bf)) ((cpG (fun i => x2 (g + i)) (Y 18) (ts1 x2 (Y 8) g) x9)) (g + (ts1 x2 (Y 8) g)) (many + 1) much 0 (x4 g) en (by show Y 8 - (g + (ts1 x2 (Y 8) g)) + 1 - en < k; omega) (show (Y 8) ≤ 32768 by omega) (show (g + (ts1 x2 (Y 8) g)) ≤ (Y 8) by omega) (show (Y 18 + (ts1 x2 (Y 8) g)) ≤ (g + (ts1 x2 (Y 8) g)) by omega) (show (many + 1) ≤ (g + (ts1 x2 (Y 8) g)) by omega) (show (many + 1) ≤ 8000 → (Y 13 + 1) = (many + 1) by omega) (show 0 ≤ 1 by omega) (show en ≤ 1 by omega) (show (Y 7) ≤ 1000 by omega) (show (Y 6) ≤ 20000 by omega) (show en = 1 → (g + (ts1 x2 (Y 8) g)) < (Y 8) by omega) hQ _ _ hP hD hS _ (lv_sub hl [8, 0, 2, 3, 1, 4, 9] rfl)
                      · have c_235 := (nI_eq (a := many) (b := 8000) (by omega) (by omega)).mp c_235
                        omega
                  · have c_217 := (nI_eq (a := ts1 x2 (Y 8) g) (b := 1) (by omega) (by omega)).mp c_217
                    refine lv_iload hx hb dX1_next_245 (lv_at hl 2 rfl) ?_
                    refine lv_bipush (v := nI 34) hx hb dX1_next_247 (by decide) ?_
                    refine lv_icmp_eq (tgt := 259) hx hb dX1_next_249 (by decide) (fun c_242 => ?_) (fun c_242 => ?_)
                    · have c_242 := (nI_eq (a := x2 g) (b := 34) (by omega) (by omega)).mp c_242
                      refine lv_aload_n hx hb dX1_next_259 rfl (lv_at hl 3 rfl) ?_
                      refine lv_dup hx hb dX1_next_260 rfl ?_
                      refine va_get (D := (dC, dI)) (ci := 1) (v := .int (nI (Y 7))) (C := RX1) (T := TX1) (N := 20) hx hb hts inX1 hown hK hP 0 rfl rfl 7 (by decide) (hts _ fl_X1_63) (fun _ h9 => h9) rfl dX1_next_261 ?_
                      refine lv_iconst (v := nI 1) hx hb dX1_next_264 (by decide) ?_
                      refine lv_iadd hx hb dX1_next_265 ?_
                      refine lv_topi (fun x_243 e_244 => ?_)
                      obtain rfl : x_243 = nI (Y 7 + 1) := e_244.trans (nI_add (Y 7) 1)
                      refine va_put (D := (dC, dI)) (ci := 1) (v := .int (nI (Y 7 + 1))) (ty := .int) (C := RX1) (T := TX1) (N := 20) hx hb hts inX1 tyX1 okX1 nmX1 hown hK hP hD hS 0 rfl rfl 7 (by decide) (hts _ fl_X1_63) (fun _ h9 => h9) rfl (by decide +kernel) rfl rfl (Nat.le_of_ble_eq_true rfl) dX1_next_266 (fun H locs hP hD hS => ?_)
                      have hP : va_P (dC, dI) vwCl (rmW ct ad ((zu Y 7 (Y 7 + 1)), x1, x2, x3, x4, x5, x6, x7, x8, x9)) H := hP
                      have hD : va_D A (rmW ct ad ((zu Y 7 (Y 7 + 1)), x1, x2, x3, x4, x5, x6, x7, x8, x9)) := hD
                      refine lv_aload_n hx hb dX1_next_269 rfl (lv_at hl 3 rfl) ?_
                      refine va_get (D := (dC, dI)) (ci := 1) (v := .int (nI (Y 7 + 1))) (C := RX1) (T := TX1) (N := 20) hx hb hts inX1 hown hK hP 0 rfl rfl 7 (by decide) (hts _ fl_X1_63) (fun _ h9 => h9) rfl dX1_next_270 ?_
                      refine lv_sipush (v := nI 1000) hx hb dX1_next_273 (by decide) ?_
                      refine lv_icmp_le (tgt := 292) hx hb dX1_next_276 (by decide) (fun c_245 => ?_) (fun c_245 => ?_)
                      · have c_245 := (nI_leI (a := Y 7 + 1) (b := 1000) (by omega) (by omega)).mp c_245
                        refine lv_iload_n hx hb dX1_next_292 rfl (lv_at hl 5 rfl) ?_
                        refine lv_if_ne (tgt := 305) hx hb dX1_next_293 (by decide) (fun c_246 => ?_) (fun c_246 => ?_)
                        · have c_246 := mt (nI_eq (a := many) (b := 0) (by omega) (by omega)).mpr c_246
                          refine lv_iload hx hb dX1_next_305 (lv_at hl 8 rfl) ?_
                          refine lv_istore (lv' := [(5, .int (nI first)), (9, .int (nI (ts1 x2 (Y 8) g))), (8, .int (bI (rb x2 (Y 8) (g + 1)))), (7, .int (nI (x2 g))), (0, .ref (ad 0)), (1, .int (nI g)), (2, .int (nI many)), (3, .int (nI much)), (4, .int (nI bf)), (6, .int (nI en))]) hx hb dX1_next_307 hl (by decide) rfl (fun ls hl => ?_)
                          refine lv_iload_n hx hb dX1_next_309 rfl (lv_at hl 6 rfl) ?_
                          refine lv_sipush (v := nI 8000) hx hb dX1_next_310 (by decide) ?_
                          refine lv_icmp_ne (tgt := 325) hx hb dX1_next_313 (by decide) (fun c_247 => ?_) (fun c_247 => ?_)
                          · have c_247 := mt (nI_eq (a := many) (b := 8000) (by omega) (by omega)).mpr c_247
                            refine lv_iload_n hx hb dX1_next_325 rfl (lv_at hl 7 rfl) ?_
                            refine lv_istore_n (lv' := [(3, .int (nI much)), (5, .int (nI first)), (9, .int (nI (ts1 x2 (Y 8) g))), (8, .int (bI (rb x2 (Y 8) (g + 1)))), (7, .int (nI (x2 g))), (0, .ref (ad 0)), (1, .int (nI g)), (2, .int (nI many)), (4, .int (nI bf)), (6, .int (nI en))]) hx hb dX1_next_326 rfl hl (by decide) rfl (fun ls hl => ?_)
                            refine lv_iload_n hx hb dX1_next_327 rfl (lv_at hl 7 rfl) ?_
                            refine lv_sipush (v := nI 8000) hx hb dX1_next_328 (by decide) ?_
                            refine lv_icmp_ge (tgt := 343) hx hb dX1_next_331 (by decide) (fun c_248 => ?_) (fun c_248 => ?_)
                            · have c_248 := (nI_leI (a := 8000) (b := many) (by omega) (by omega)).mp c_248
                              refine lv_iinc (v := nI (many + 1)) (lv' := [(2, .int (nI (many + 1))), (3, .int (nI much)), (5, .int (nI first)), (9, .int (nI (ts1 x2 (Y 8) g))), (8, .int (bI (rb x2 (Y 8) (g + 1)))), (7, .int (nI (x2 g))), (0, .ref (ad 0)), (1, .int (nI g)), (4, .int (nI bf)), (6, .int (nI en))]) hx hb dX1_next_343 hl (k := 7) rfl (by exact nI_add many 1) (by decide) rfl (fun ls hl => ?_)
                              refine lv_iconst (v := nI 0) hx hb dX1_next_346 (by decide) ?_
                              refine lv_istore (lv' := [(4, .int (nI 0)), (2, .int (nI (many + 1))), (3, .int (nI much)), (5, .int (nI first)), (9, .int (nI (ts1 x2 (Y 8) g))), (8, .int (bI (rb x2 (Y 8) (g + 1)))), (7, .int (nI (x2 g))), (0, .ref (ad 0)), (1, .int (nI g)), (6, .int (nI en))]) hx hb dX1_next_347 hl (by decide) rfl (fun ls hl => ?_)
                              refine lv_iload_n hx hb dX1_next_349 rfl (lv_at hl 8 rfl) ?_
                              refine lv_iload hx hb dX1_next_350 (lv_at hl 4 rfl) ?_
                              refine lv_iadd hx hb dX1_next_352 ?_
                              refine lv_topi (fun x_249 e_250 => ?_)
                              obtain rfl : x_249 = nI (g + (ts1 x2 (Y 8) g)) := e_250.trans (nI_add g (ts1 x2 (Y 8) g))
                              refine lv_istore_n (lv' := [(1, .int (nI (g + (ts1 x2 (Y 8) g)))), (4, .int (nI 0)), (2, .int (nI (many + 1))), (3, .int (nI much)), (5, .int (nI first)), (9, .int (nI (ts1 x2 (Y 8) g))), (8, .int (bI (rb x2 (Y 8) (g + 1)))), (7, .int (nI (x2 g))), (0, .ref (ad 0)), (6, .int (nI en))]) hx hb dX1_next_353 rfl hl (by decide) rfl (fun ls hl => ?_)
                              refine lv_goto (tgt := 65) hx hb dX1_next_354 (by decide) ?_
                              rw [rL, if_neg (by omega), if_neg (by omega), if_neg (by rw [c_94]; decide), if_neg (by omega), if_neg (by omega), if_neg (by omega), rQ, if_pos (by omega), rKY, if_neg (by omega), rK5, if_neg (by omega), rK6, if_neg (by omega), rK6, if_neg (by omega), rK6, if_neg (by omega), rK9, if_neg (by omega), if_neg (by omega), if_neg (by omega)] at hQ
                              exact ih (zu Y 7 (Y 7 + 1)) x5 x6 x7 x8 x9 (g + (ts1 x2 (Y 8) g)) (many + 1) much 0 first en (by show Y 8 - (g + (ts1 x2 (Y 8) g)) + 1 - en < k; omega) (show (Y 8) ≤ 32768 by omega) (show (g + (ts1 x2 (Y 8) g)) ≤ (Y 8) by omega) (show (Y 18) ≤ (g + (ts1 x2 (Y 8) g)) by omega) (show (many + 1) ≤ (g + (ts1 x2 (Y 8) g)) by omega) (show (many + 1) ≤ 8000 → (Y 13) = (many + 1) by omega) (show 0 ≤ 1 by omega) (show en ≤ 1 by omega) (show (Y 7 + 1) ≤ 1000 by omega) (show (Y 6) ≤ 20000 by omega) (show en = 1 → (g + (ts1 x2 (Y 8) g)) < (Y 8) by omega) hQ _ _ hP hD hS _ (lv_sub hl [8, 0, 2, 3, 1, 4, 9] rfl)
                            · have c_248 := mt (nI_leI (a := 8000) (b := many) (by omega) (by omega)).mpr c_248
                              refine lv_aload_n hx hb dX1_next_334 rfl (lv_at hl 5 rfl) ?_
                              refine lv_iload_n hx hb dX1_next_335 rfl (lv_at hl 6 rfl) ?_
                              refine lv_iload hx hb dX1_next_336 (lv_at hl 2 rfl) ?_
                              refine lv_iload hx hb dX1_next_338 (lv_at hl 8 rfl) ?_
                              refine rm_callv (va_runV (As := [.int (nI g), .int (nI (ts1 x2 (Y 8) g)), .int (nI bf)]) (rest := []) ⟨hx, hb, hml, hown, hts⟩ (r_keep l dC dI ct ad H.size (zu Y 7 (Y 7 + 1)) x1 x2 x3 x4 x5 x6 x7 x8 x9 g (ts1 x2 (Y 8) g) bf (show g < 32768 by omega) (show Y 18 + ts1 x2 (Y 8) g ≤ 32768 by omega) (show g + ts1 x2 (Y 8) g ≤ 32768 by omega) h2 (show Y 13 < 8000 by omega) (show bf ≤ 1 by omega)) (cwV 3 hts (gV (fun _ h => h) ml_X1_132 im_X1_keep se_X1_keep ini_X1 co_X1_keep) rfl rfl rfl pd_X1_keep ⟨Nat.le_of_ble_eq_true rfl, Nat.le_of_ble_eq_true rfl⟩) (rm_preS hK hP hD) rfl rfl hl.1 rfl (lv_room (Nat.le_of_ble_eq_true rfl)) dX1_next_340 ⟨Nat.zero_le _, Nat.zero_le _⟩) hD hS hA (fun u_252 H locs q_251 hP hD hS => ?_)
                              subst q_251
                              have hP : va_P (dC, dI) vwCl (rmW ct ad ((zu (zu (zu Y 7 (Y 7 + 1)) 13 (Y 13 + 1)) 18 (Y 18 + (ts1 x2 (Y 8) g))), x1, x2, x3, x4, (nu x5 (Y 13) (Y 18)), (nu x6 (Y 13) (ts1 x2 (Y 8) g)), (nu x7 (Y 13) (x4 g)), (nu x8 (Y 13) bf), (cpG (fun i => x2 (g + i)) (Y 18) (ts1 x2 (Y 8) g) x9))) H := hP
                              have hD : va_D A (rmW ct ad ((zu (zu (zu Y 7 (Y 7 + 1)) 13 (Y 13 + 1)) 18 (Y 18 + (ts1 x2 (Y 8) g))), x1, x2, x3, x4, (nu x5 (Y 13) (Y 18)), (nu x6 (Y 13) (ts1 x2 (Y 8) g)), (nu x7 (Y 13) (x4 g)), (nu x8 (Y 13) bf), (cpG (fun i => x2 (g + i)) (Y 18) (ts1 x2 (Y 8) g) x9))) := hD
                              refine lv_iinc (v := nI (many + 1)) (lv' := [(2, .int (nI (many + 1))), (3, .int (nI much)), (5, .int (nI first)), (9, .int (nI (ts1 x2 (Y 8) g))), (8, .int (bI (rb x2 (Y 8) (g + 1)))), (7, .int (nI (x2 g))), (0, .ref (ad 0)), (1, .int (nI g)), (4, .int (nI bf)), (6, .int (nI en))]) hx hb dX1_next_343 hl (k := 7) rfl (by exact nI_add many 1) (by decide) rfl (fun ls hl => ?_)
                              refine lv_iconst (v := nI 0) hx hb dX1_next_346 (by decide) ?_
                              refine lv_istore (lv' := [(4, .int (nI 0)), (2, .int (nI (many + 1))), (3, .int (nI much)), (5, .int (nI first)), (9, .int (nI (ts1 x2 (Y 8) g))), (8, .int (bI (rb x2 (Y 8) (g + 1)))), (7, .int (nI (x2 g))), (0, .ref (ad 0)), (1, .int (nI g)), (6, .int (nI en))]) hx hb dX1_next_347 hl (by decide) rfl (fun ls hl => ?_)
                              refine lv_iload_n hx hb dX1_next_349 rfl (lv_at hl 8 rfl) ?_
                              refine lv_iload hx hb dX1_next_350 (lv_at hl 4 rfl) ?_
                              refine lv_iadd hx hb dX1_next_352 ?_
                              refine lv_topi (fun x_254 e_255 => ?_)
                              obtain rfl : x_254 = nI (g + (ts1 x2 (Y 8) g)) := e_255.trans (nI_add g (ts1 x2 (Y 8) g))
                              refine lv_istore_n (lv' := [(1, .int (nI (g + (ts1 x2 (Y 8) g)))), (4, .int (nI 0)), (2, .int (nI (many + 1))), (3, .int (nI much)), (5, .int (nI first)), (9, .int (nI (ts1 x2 (Y 8) g))), (8, .int (bI (rb x2 (Y 8) (g + 1)))), (7, .int (nI (x2 g))), (0, .ref (ad 0)), (6, .int (nI en))]) hx hb dX1_next_353 rfl hl (by decide) rfl (fun ls hl => ?_)
                              refine lv_goto (tgt := 65) hx hb dX1_next_354 (by decide) ?_
                              rw [rL, if_neg (by omega), if_neg (by omega), if_neg (by rw [c_94]; decide), if_neg (by omega), if_neg (by omega), if_neg (by omega), rQ, if_pos (by omega), rKY, if_pos (by omega), rK5, if_pos (by omega), rK6, if_pos (by omega), rK6, if_pos (by omega), rK6, if_pos (by omega), rK9, if_pos (by omega), if_neg (by omega), if_neg (by omega)] at hQ
                              exact ih (zu (zu (zu Y 7 (Y 7 + 1)) 13 (Y 13 + 1)) 18 (Y 18 + (ts1 x2 (Y 8) g))) ((nu x5 (Y 13) (Y 18))) ((nu x6 (Y 13) (ts1 x2 (Y 8) g))) ((nu x7 (Y 13) (x4 g))) ((nu x8 (Y 13) bf)) ((cpG (fun i => x2 (g + i)) (Y 18) (ts1 x2 (Y 8) g) x9)) (g + (ts1 x2 (Y 8) g)) (many + 1) much 0 first en (by show Y 8 - (g + (ts1 x2 (Y 8) g)) + 1 - en < k; omega) (show (Y 8) ≤ 32768 by omega) (show (g + (ts1 x2 (Y 8) g)) ≤ (Y 8) by omega) (show (Y 18 + (ts1 x2 (Y 8) g)) ≤ (g + (ts1 x2 (Y 8) g)) by omega) (show (many + 1) ≤ (g + (ts1 x2 (Y 8) g)) by omega) (show (many + 1) ≤ 8000 → (Y 13 + 1) = (many + 1) by omega) (show 0 ≤ 1 by omega) (show en ≤ 1 by omega) (show (Y 7 + 1) ≤ 1000 by omega) (show (Y 6) ≤ 20000 by omega) (show en = 1 → (g + (ts1 x2 (Y 8) g)) < (Y 8) by omega) hQ _ _ hP hD hS _ (lv_sub hl [8, 0, 2, 3, 1, 4, 9] rfl)
                          · have c_247 := (nI_eq (a := many) (b := 8000) (by omega) (by omega)).mp c_247
                            refine lv_aload_n hx hb dX1_next_316 rfl (lv_at hl 4 rfl) ?_
                            refine va_get (D := (dC, dI)) (ci := 1) (v := .ref (ad 4)) (C := RX1) (T := TX1) (N := 20) hx hb hts inX1 hown hK hP 0 rfl rfl 11 (by decide) (hts _ fl_X1_21) (fun _ h9 => h9) rfl dX1_next_317 ?_
                            refine lv_iload_n hx hb dX1_next_320 rfl (lv_at hl 5 rfl) ?_
                            refine va_iald hx hb hK hP 4 1 rfl rfl (vp_in_nI (by omega) (by decide)) dX1_next_321 ?_
                            refine lv_topi (fun x_256 e_257 => ?_)
                            obtain rfl : x_256 = nI (x4 g) := e_257.trans (by rw [nI_clamp (by omega)])
                            refine lv_goto (tgt := 326) hx hb dX1_next_322 (by decide) ?_
                            refine lv_istore_n (lv' := [(3, .int (nI (x4 g))), (5, .int (nI first)), (9, .int (nI (ts1 x2 (Y 8) g))), (8, .int (bI (rb x2 (Y 8) (g + 1)))), (7, .int (nI (x2 g))), (0, .ref (ad 0)), (1, .int (nI g)), (2, .int (nI many)), (4, .int (nI bf)), (6, .int (nI en))]) hx hb dX1_next_326 rfl hl (by decide) rfl (fun ls hl => ?_)
                            refine lv_iload_n hx hb dX1_next_327 rfl (lv_at hl 7 rfl) ?_
                            refine lv_sipush (v := nI 8000) hx hb dX1_next_328 (by decide) ?_
                            refine lv_icmp_ge (tgt := 343) hx hb dX1_next_331 (by decide) (fun c_258 => ?_) (fun c_258 => ?_)
                            · have c_258 := (nI_leI (a := 8000) (b := many) (by omega) (by omega)).mp c_258
                              refine lv_iinc (v := nI (many + 1)) (lv' := [(2, .int (nI (many + 1))), (3, .int (nI (x4 g))), (5, .int (nI first)), (9, .int (nI (ts1 x2 (Y 8) g))), (8, .int (bI (rb x2 (Y 8) (g + 1)))), (7, .int (nI (x2 g))), (0, .ref (ad 0)), (1, .int (nI g)), (4, .int (nI bf)), (6, .int (nI en))]) hx hb dX1_next_343 hl (k := 7) rfl (by exact nI_add many 1) (by decide) rfl (fun ls hl => ?_)
                              refine lv_iconst (v := nI 0) hx hb dX1_next_346 (by decide) ?_
                              refine lv_istore (lv' := [(4, .int (nI 0)), (2, .int (nI (many + 1))), (3, .int (nI (x4 g))), (5, .int (nI first)), (9, .int (nI (ts1 x2 (Y 8) g))), (8, .int (bI (rb x2 (Y 8) (g + 1)))), (7, .int (nI (x2 g))), (0, .ref (ad 0)), (1, .int (nI g)), (6, .int (nI en))]) hx hb dX1_next_347 hl (by decide) rfl (fun ls hl => ?_)
                              refine lv_iload_n hx hb dX1_next_349 rfl (lv_at hl 8 rfl) ?_
                              refine lv_iload hx hb dX1_next_350 (lv_at hl 4 rfl) ?_
                              refine lv_iadd hx hb dX1_next_352 ?_
                              refine lv_topi (fun x_259 e_260 => ?_)
                              obtain rfl : x_259 = nI (g + (ts1 x2 (Y 8) g)) := e_260.trans (nI_add g (ts1 x2 (Y 8) g))
                              refine lv_istore_n (lv' := [(1, .int (nI (g + (ts1 x2 (Y 8) g)))), (4, .int (nI 0)), (2, .int (nI (many + 1))), (3, .int (nI (x4 g))), (5, .int (nI first)), (9, .int (nI (ts1 x2 (Y 8) g))), (8, .int (bI (rb x2 (Y 8) (g + 1)))), (7, .int (nI (x2 g))), (0, .ref (ad 0)), (6, .int (nI en))]) hx hb dX1_next_353 rfl hl (by decide) rfl (fun ls hl => ?_)
                              refine lv_goto (tgt := 65) hx hb dX1_next_354 (by decide) ?_
                              rw [rL, if_neg (by omega), if_neg (by omega), if_neg (by rw [c_94]; decide), if_neg (by omega), if_neg (by omega), if_neg (by omega), rQ, if_pos (by omega), rKY, if_neg (by omega), rK5, if_neg (by omega), rK6, if_neg (by omega), rK6, if_neg (by omega), rK6, if_neg (by omega), rK9, if_neg (by omega), if_pos (by omega), if_neg (by omega)] at hQ
                              exact ih (zu Y 7 (Y 7 + 1)) x5 x6 x7 x8 x9 (g + (ts1 x2 (Y 8) g)) (many + 1) (x4 g) 0 first en (by show Y 8 - (g + (ts1 x2 (Y 8) g)) + 1 - en < k; omega) (show (Y 8) ≤ 32768 by omega) (show (g + (ts1 x2 (Y 8) g)) ≤ (Y 8) by omega) (show (Y 18) ≤ (g + (ts1 x2 (Y 8) g)) by omega) (show (many + 1) ≤ (g + (ts1 x2 (Y 8) g)) by omega) (show (many + 1) ≤ 8000 → (Y 13) = (many + 1) by omega) (show 0 ≤ 1 by omega) (show en ≤ 1 by omega) (show (Y 7 + 1) ≤ 1000 by omega) (show (Y 6) ≤ 20000 by omega) (show en = 1 → (g + (ts1 x2 (Y 8) g)) < (Y 8) by omega) hQ _ _ hP hD hS _ (lv_sub hl [8, 0, 2, 3, 1, 4, 9] rfl)
                            · have c_258 := mt (nI_leI (a := 8000) (b := many) (by omega) (by omega)).mpr c_258
                              omega
                        · have c_246 := (nI_eq (a := many) (b := 0) (by omega) (by omega)).mp c_246
                          refine lv_aload_n hx hb dX1_next_296 rfl (lv_at hl 3 rfl) ?_
                          refine va_get (D := (dC, dI)) (ci := 1) (v := .ref (ad 4)) (C := RX1) (T := TX1) (N := 20) hx hb hts inX1 hown hK hP 0 rfl rfl 11 (by decide) (hts _ fl_X1_21) (fun _ h9 => h9) rfl dX1_next_297 ?_
                          refine lv_iload_n hx hb dX1_next_300 rfl (lv_at hl 4 rfl) ?_
                          refine va_iald hx hb hK hP 4 1 rfl rfl (vp_in_nI (by omega) (by decide)) dX1_next_301 ?_
                          refine lv_topi (fun x_261 e_262 => ?_)
                          obtain rfl : x_261 = nI (x4 g) := e_262.trans (by rw [nI_clamp (by omega)])
                          refine lv_goto (tgt := 307) hx hb dX1_next_302 (by decide) ?_
                          refine lv_istore (lv' := [(5, .int (nI (x4 g))), (9, .int (nI (ts1 x2 (Y 8) g))), (8, .int (bI (rb x2 (Y 8) (g + 1)))), (7, .int (nI (x2 g))), (0, .ref (ad 0)), (1, .int (nI g)), (2, .int (nI many)), (3, .int (nI much)), (4, .int (nI bf)), (6, .int (nI en))]) hx hb dX1_next_307 hl (by decide) rfl (fun ls hl => ?_)
                          refine lv_iload_n hx hb dX1_next_309 rfl (lv_at hl 6 rfl) ?_
                          refine lv_sipush (v := nI 8000) hx hb dX1_next_310 (by decide) ?_
                          refine lv_icmp_ne (tgt := 325) hx hb dX1_next_313 (by decide) (fun c_263 => ?_) (fun c_263 => ?_)
                          · have c_263 := mt (nI_eq (a := many) (b := 8000) (by omega) (by omega)).mpr c_263
                            refine lv_iload_n hx hb dX1_next_325 rfl (lv_at hl 7 rfl) ?_
                            refine lv_istore_n (lv' := [(3, .int (nI much)), (5, .int (nI (x4 g))), (9, .int (nI (ts1 x2 (Y 8) g))), (8, .int (bI (rb x2 (Y 8) (g + 1)))), (7, .int (nI (x2 g))), (0, .ref (ad 0)), (1, .int (nI g)), (2, .int (nI many)), (4, .int (nI bf)), (6, .int (nI en))]) hx hb dX1_next_326 rfl hl (by decide) rfl (fun ls hl => ?_)
                            refine lv_iload_n hx hb dX1_next_327 rfl (lv_at hl 7 rfl) ?_
                            refine lv_sipush (v := nI 8000) hx hb dX1_next_328 (by decide) ?_
                            refine lv_icmp_ge (tgt := 343) hx hb dX1_next_331 (by decide) (fun c_264 => ?_) (fun c_264 => ?_)
                            · have c_264 := (nI_leI (a := 8000) (b := many) (by omega) (by omega)).mp c_264
                              omega
                            · have c_264 := mt (nI_leI (a := 8000) (b := many) (by omega) (by omega)).mpr c_264
                              refine lv_aload_n hx hb dX1_next_334 rfl (lv_at hl 5 rfl) ?_
                              refine lv_iload_n hx hb dX1_next_335 rfl (lv_at hl 6 rfl) ?_
                              refine lv_iload hx hb dX1_next_336 (lv_at hl 2 rfl) ?_
                              refine lv_iload hx hb dX1_next_338 (lv_at hl 8 rfl) ?_
                              refine rm_callv (va_runV (As := [.int (nI g), .int (nI (ts1 x2 (Y 8) g)), .int (nI bf)]) (rest := []) ⟨hx, hb, hml, hown, hts⟩ (r_keep l dC dI ct ad H.size (zu Y 7 (Y 7 + 1)) x1 x2 x3 x4 x5 x6 x7 x8 x9 g (ts1 x2 (Y 8) g) bf (show g < 32768 by omega) (show Y 18 + ts1 x2 (Y 8) g ≤ 32768 by omega) (show g + ts1 x2 (Y 8) g ≤ 32768 by omega) h2 (show Y 13 < 8000 by omega) (show bf ≤ 1 by omega)) (cwV 3 hts (gV (fun _ h => h) ml_X1_132 im_X1_keep se_X1_keep ini_X1 co_X1_keep) rfl rfl rfl pd_X1_keep ⟨Nat.le_of_ble_eq_true rfl, Nat.le_of_ble_eq_true rfl⟩) (rm_preS hK hP hD) rfl rfl hl.1 rfl (lv_room (Nat.le_of_ble_eq_true rfl)) dX1_next_340 ⟨Nat.zero_le _, Nat.zero_le _⟩) hD hS hA (fun u_266 H locs q_265 hP hD hS => ?_)
                              subst q_265
                              have hP : va_P (dC, dI) vwCl (rmW ct ad ((zu (zu (zu Y 7 (Y 7 + 1)) 13 (Y 13 + 1)) 18 (Y 18 + (ts1 x2 (Y 8) g))), x1, x2, x3, x4, (nu x5 (Y 13) (Y 18)), (nu x6 (Y 13) (ts1 x2 (Y 8) g)), (nu x7 (Y 13) (x4 g)), (nu x8 (Y 13) bf), (cpG (fun i => x2 (g + i)) (Y 18) (ts1 x2 (Y 8) g) x9))) H := hP
                              have hD : va_D A (rmW ct ad ((zu (zu (zu Y 7 (Y 7 + 1)) 13 (Y 13 + 1)) 18 (Y 18 + (ts1 x2 (Y 8) g))), x1, x2, x3, x4, (nu x5 (Y 13) (Y 18)), (nu x6 (Y 13) (ts1 x2 (Y 8) g)), (nu x7 (Y 13) (x4 g)), (nu x8 (Y 13) bf), (cpG (fun i => x2 (g + i)) (Y 18) (ts1 x2 (Y 8) g) x9))) := hD
                              refine lv_iinc (v := nI (many + 1)) (lv' := [(2, .int (nI (many + 1))), (3, .int (nI much)), (5, .int (nI (x4 g))), (9, .int (nI (ts1 x2 (Y 8) g))), (8, .int (bI (rb x2 (Y 8) (g + 1)))), (7, .int (nI (x2 g))), (0, .ref (ad 0)), (1, .int (nI g)), (4, .int (nI bf)), (6, .int (nI en))]) hx hb dX1_next_343 hl (k := 7) rfl (by exact nI_add many 1) (by decide) rfl (fun ls hl => ?_)
                              refine lv_iconst (v := nI 0) hx hb dX1_next_346 (by decide) ?_
                              refine lv_istore (lv' := [(4, .int (nI 0)), (2, .int (nI (many + 1))), (3, .int (nI much)), (5, .int (nI (x4 g))), (9, .int (nI (ts1 x2 (Y 8) g))), (8, .int (bI (rb x2 (Y 8) (g + 1)))), (7, .int (nI (x2 g))), (0, .ref (ad 0)), (1, .int (nI g)), (6, .int (nI en))]) hx hb dX1_next_347 hl (by decide) rfl (fun ls hl => ?_)
                              refine lv_iload_n hx hb dX1_next_349 rfl (lv_at hl 8 rfl) ?_
                              refine lv_iload hx hb dX1_next_350 (lv_at hl 4 rfl) ?_
                              refine lv_iadd hx hb dX1_next_352 ?_
                              refine lv_topi (fun x_268 e_269 => ?_)
                              obtain rfl : x_268 = nI (g + (ts1 x2 (Y 8) g)) := e_269.trans (nI_add g (ts1 x2 (Y 8) g))
                              refine lv_istore_n (lv' := [(1, .int (nI (g + (ts1 x2 (Y 8) g)))), (4, .int (nI 0)), (2, .int (nI (many + 1))), (3, .int (nI much)), (5, .int (nI (x4 g))), (9, .int (nI (ts1 x2 (Y 8) g))), (8, .int (bI (rb x2 (Y 8) (g + 1)))), (7, .int (nI (x2 g))), (0, .ref (ad 0)), (6, .int (nI en))]) hx hb dX1_next_353 rfl hl (by decide) rfl (fun ls hl => ?_)
                              refine lv_goto (tgt := 65) hx hb dX1_next_354 (by decide) ?_
                              rw [rL, if_neg (by omega), if_neg (by omega), if_neg (by rw [c_94]; decide), if_neg (by omega), if_neg (by omega), if_neg (by omega), rQ, if_pos (by omega), rKY, if_pos (by omega), rK5, if_pos (by omega), rK6, if_pos (by omega), rK6, if_pos (by omega), rK6, if_pos (by omega), rK9, if_pos (by omega), if_neg (by omega), if_pos (by omega)] at hQ
                              exact ih (zu (zu (zu Y 7 (Y 7 + 1)) 13 (Y 13 + 1)) 18 (Y 18 + (ts1 x2 (Y 8) g))) ((nu x5 (Y 13) (Y 18))) ((nu x6 (Y 13) (ts1 x2 (Y 8) g))) ((nu x7 (Y 13) (x4 g))) ((nu x8 (Y 13) bf)) ((cpG (fun i => x2 (g + i)) (Y 18) (ts1 x2 (Y 8) g) x9)) (g + (ts1 x2 (Y 8) g)) (many + 1) much 0 (x4 g) en (by show Y 8 - (g + (ts1 x2 (Y 8) g)) + 1 - en < k; omega) (show (Y 8) ≤ 32768 by omega) (show (g + (ts1 x2 (Y 8) g)) ≤ (Y 8) by omega) (show (Y 18 + (ts1 x2 (Y 8) g)) ≤ (g + (ts1 x2 (Y 8) g)) by omega) (show (many + 1) ≤ (g + (ts1 x2 (Y 8) g)) by omega) (show (many + 1) ≤ 8000 → (Y 13 + 1) = (many + 1) by omega) (show 0 ≤ 1 by omega) (show en ≤ 1 by omega) (show (Y 7 + 1) ≤ 1000 by omega) (show (Y 6) ≤ 20000 by omega) (show en = 1 → (g + (ts1 x2 (Y 8) g)) < (Y 8) by omega) hQ _ _ hP hD hS _ (lv_sub hl [8, 0, 2, 3, 1, 4, 9] rfl)
                          · have c_263 := (nI_eq (a := many) (b := 8000) (by omega) (by omega)).mp c_263
                            omega
                      · have c_245 := mt (nI_leI (a := Y 7 + 1) (b := 1000) (by omega) (by omega)).mpr c_245
                        refine lv_aload_n hx hb dX1_next_279 rfl (lv_at hl 3 rfl) ?_
                        refine lv_bipush (v := nI 21) hx hb dX1_next_280 (by decide) ?_
                        refine lv_aload_n hx hb dX1_next_282 rfl (lv_at hl 3 rfl) ?_
                        refine va_get (D := (dC, dI)) (ci := 1) (v := .ref (ad 4)) (C := RX1) (T := TX1) (N := 20) hx hb hts inX1 hown hK hP 0 rfl rfl 11 (by decide) (hts _ fl_X1_21) (fun _ h9 => h9) rfl dX1_next_283 ?_
                        refine lv_iload_n hx hb dX1_next_286 rfl (lv_at hl 4 rfl) ?_
                        refine va_iald hx hb hK hP 4 1 rfl rfl (vp_in_nI (by omega) (by decide)) dX1_next_287 ?_
                        refine lv_topi (fun x_270 e_271 => ?_)
                        obtain rfl : x_270 = nI (x4 g) := e_271.trans (by rw [nI_clamp (by omega)])
                        refine rm_calli (va_runV (As := [.int (nI 21), .int (nI (x4 g))]) (rest := []) ⟨hx, hb, hml, hown, hts⟩ (r_stop l dC dI ct ad H.size (zu Y 7 (Y 7 + 1)) x1 x2 x3 x4 x5 x6 x7 x8 x9 21 (x4 g)) (cwV 2 hts (gV (fun _ h => h) ml_X1_126 im_X1_stop se_X1_stop ini_X1 co_X1_stop) rfl rfl rfl pd_X1_stop ⟨Nat.le_of_ble_eq_true rfl, Nat.le_of_ble_eq_true rfl⟩) (rm_preS hK hP hD) rfl rfl hl.1 rfl (lv_room (Nat.le_of_ble_eq_true rfl)) dX1_next_288 ⟨Nat.zero_le _, Nat.zero_le _⟩) hD hS hA (fun r_274 u_273 H locs q_272 hP hD hS => ?_)
                        obtain ⟨rfl, rfl⟩ := q_272
                        have hP : va_P (dC, dI) vwCl (rmW ct ad ((zu (zu (zu (zu Y 4 1) 5 (x4 g)) 7 (Y 7 + 1)) 13 0), x1, x2, x3, x4, x5, x6, x7, x8, x9)) H := hP
                        have hD : va_D A (rmW ct ad ((zu (zu (zu (zu Y 4 1) 5 (x4 g)) 7 (Y 7 + 1)) 13 0), x1, x2, x3, x4, x5, x6, x7, x8, x9)) := hD
                        have hP : va_P (dC, dI) vwCl (rmW ct ad (rSt (zu Y 7 (Y 7 + 1)) (x4 g), x1, x2, x3, x4, x5, x6, x7, x8, x9)) H := by skip; exact hP
                        have hD : va_D A (rmW ct ad (rSt (zu Y 7 (Y 7 + 1)) (x4 g), x1, x2, x3, x4, x5, x6, x7, x8, x9)) := by skip; exact hD
                        exact W.iret (v := (-10) - nI 21) hx hb hr (fun t ht hW => ⟨⟨_, (rSt (zu Y 7 (Y 7 + 1)) (x4 g), x1, x2, x3, x4, x5, x6, x7, x8, x9), rfl, (by rw [rL, if_neg (by omega), if_neg (by omega), if_neg (by rw [c_94]; decide), if_neg (by omega), if_neg (by omega), if_pos (by omega), rQ, if_pos (by omega)] at hQ; exact hQ), by rw [ht]; exact hP, va_K.moved hW.alike hK, hD⟩, hS.F ht⟩) hS.2.2 dX1_next_291
                    · have c_242 := mt (nI_eq (a := x2 g) (b := 34) (by omega) (by omega)).mpr c_242
                      refine lv_iload hx hb dX1_next_252 (lv_at hl 2 rfl) ?_
                      refine lv_bipush (v := nI 39) hx hb dX1_next_254 (by decide) ?_
                      refine lv_icmp_ne (tgt := 292) hx hb dX1_next_256 (by decide) (fun c_275 => ?_) (fun c_275 => ?_)
                      · have c_275 := mt (nI_eq (a := x2 g) (b := 39) (by omega) (by omega)).mpr c_275
                        refine lv_iload_n hx hb dX1_next_292 rfl (lv_at hl 5 rfl) ?_
                        refine lv_if_ne (tgt := 305) hx hb dX1_next_293 (by decide) (fun c_276 => ?_) (fun c_276 => ?_)
                        · have c_276 := mt (nI_eq (a := many) (b := 0) (by omega) (by omega)).mpr c_276
                          refine lv_iload hx hb dX1_next_305 (lv_at hl 8 rfl) ?_
                          refine lv_istore (lv' := [(5, .int (nI first)), (9, .int (nI (ts1 x2 (Y 8) g))), (8, .int (bI (rb x2 (Y 8) (g + 1)))), (7, .int (nI (x2 g))), (0, .ref (ad 0)), (1, .int (nI g)), (2, .int (nI many)), (3, .int (nI much)), (4, .int (nI bf)), (6, .int (nI en))]) hx hb dX1_next_307 hl (by decide) rfl (fun ls hl => ?_)
                          refine lv_iload_n hx hb dX1_next_309 rfl (lv_at hl 6 rfl) ?_
                          refine lv_sipush (v := nI 8000) hx hb dX1_next_310 (by decide) ?_
                          refine lv_icmp_ne (tgt := 325) hx hb dX1_next_313 (by decide) (fun c_277 => ?_) (fun c_277 => ?_)
                          · have c_277 := mt (nI_eq (a := many) (b := 8000) (by omega) (by omega)).mpr c_277
                            refine lv_iload_n hx hb dX1_next_325 rfl (lv_at hl 7 rfl) ?_
                            refine lv_istore_n (lv' := [(3, .int (nI much)), (5, .int (nI first)), (9, .int (nI (ts1 x2 (Y 8) g))), (8, .int (bI (rb x2 (Y 8) (g + 1)))), (7, .int (nI (x2 g))), (0, .ref (ad 0)), (1, .int (nI g)), (2, .int (nI many)), (4, .int (nI bf)), (6, .int (nI en))]) hx hb dX1_next_326 rfl hl (by decide) rfl (fun ls hl => ?_)
                            refine lv_iload_n hx hb dX1_next_327 rfl (lv_at hl 7 rfl) ?_
                            refine lv_sipush (v := nI 8000) hx hb dX1_next_328 (by decide) ?_
                            refine lv_icmp_ge (tgt := 343) hx hb dX1_next_331 (by decide) (fun c_278 => ?_) (fun c_278 => ?_)
                            · have c_278 := (nI_leI (a := 8000) (b := many) (by omega) (by omega)).mp c_278
                              refine lv_iinc (v := nI (many + 1)) (lv' := [(2, .int (nI (many + 1))), (3, .int (nI much)), (5, .int (nI first)), (9, .int (nI (ts1 x2 (Y 8) g))), (8, .int (bI (rb x2 (Y 8) (g + 1)))), (7, .int (nI (x2 g))), (0, .ref (ad 0)), (1, .int (nI g)), (4, .int (nI bf)), (6, .int (nI en))]) hx hb dX1_next_343 hl (k := 7) rfl (by exact nI_add many 1) (by decide) rfl (fun ls hl => ?_)
                              refine lv_iconst (v := nI 0) hx hb dX1_next_346 (by decide) ?_
                              refine lv_istore (lv' := [(4, .int (nI 0)), (2, .int (nI (many + 1))), (3, .int (nI much)), (5, .int (nI first)), (9, .int (nI (ts1 x2 (Y 8) g))), (8, .int (bI (rb x2 (Y 8) (g + 1)))), (7, .int (nI (x2 g))), (0, .ref (ad 0)), (1, .int (nI g)), (6, .int (nI en))]) hx hb dX1_next_347 hl (by decide) rfl (fun ls hl => ?_)
                              refine lv_iload_n hx hb dX1_next_349 rfl (lv_at hl 8 rfl) ?_
                              refine lv_iload hx hb dX1_next_350 (lv_at hl 4 rfl) ?_
                              refine lv_iadd hx hb dX1_next_352 ?_
                              refine lv_topi (fun x_279 e_280 => ?_)
                              obtain rfl : x_279 = nI (g + (ts1 x2 (Y 8) g)) := e_280.trans (nI_add g (ts1 x2 (Y 8) g))
                              refine lv_istore_n (lv' := [(1, .int (nI (g + (ts1 x2 (Y 8) g)))), (4, .int (nI 0)), (2, .int (nI (many + 1))), (3, .int (nI much)), (5, .int (nI first)), (9, .int (nI (ts1 x2 (Y 8) g))), (8, .int (bI (rb x2 (Y 8) (g + 1)))), (7, .int (nI (x2 g))), (0, .ref (ad 0)), (6, .int (nI en))]) hx hb dX1_next_353 rfl hl (by decide) rfl (fun ls hl => ?_)
                              refine lv_goto (tgt := 65) hx hb dX1_next_354 (by decide) ?_
                              rw [rL, if_neg (by omega), if_neg (by omega), if_neg (by rw [c_94]; decide), if_neg (by omega), if_neg (by omega), if_neg (by omega), rQ, if_neg (by omega), rKY, if_neg (by omega), rK5, if_neg (by omega), rK6, if_neg (by omega), rK6, if_neg (by omega), rK6, if_neg (by omega), rK9, if_neg (by omega), if_neg (by omega), if_neg (by omega)] at hQ
                              exact ih Y x5 x6 x7 x8 x9 (g + (ts1 x2 (Y 8) g)) (many + 1) much 0 first en (by show Y 8 - (g + (ts1 x2 (Y 8) g)) + 1 - en < k; omega) (show (Y 8) ≤ 32768 by omega) (show (g + (ts1 x2 (Y 8) g)) ≤ (Y 8) by omega) (show (Y 18) ≤ (g + (ts1 x2 (Y 8) g)) by omega) (show (many + 1) ≤ (g + (ts1 x2 (Y 8) g)) by omega) (show (many + 1) ≤ 8000 → (Y 13) = (many + 1) by omega) (show 0 ≤ 1 by omega) (show en ≤ 1 by omega) (show (Y 7) ≤ 1000 by omega) (show (Y 6) ≤ 20000 by omega) (show en = 1 → (g + (ts1 x2 (Y 8) g)) < (Y 8) by omega) hQ _ _ hP hD hS _ (lv_sub hl [8, 0, 2, 3, 1, 4, 9] rfl)
                            · have c_278 := mt (nI_leI (a := 8000) (b := many) (by omega) (by omega)).mpr c_278
                              refine lv_aload_n hx hb dX1_next_334 rfl (lv_at hl 5 rfl) ?_
                              refine lv_iload_n hx hb dX1_next_335 rfl (lv_at hl 6 rfl) ?_
                              refine lv_iload hx hb dX1_next_336 (lv_at hl 2 rfl) ?_
                              refine lv_iload hx hb dX1_next_338 (lv_at hl 8 rfl) ?_
                              refine rm_callv (va_runV (As := [.int (nI g), .int (nI (ts1 x2 (Y 8) g)), .int (nI bf)]) (rest := []) ⟨hx, hb, hml, hown, hts⟩ (r_keep l dC dI ct ad H.size Y x1 x2 x3 x4 x5 x6 x7 x8 x9 g (ts1 x2 (Y 8) g) bf (show g < 32768 by omega) (show Y 18 + ts1 x2 (Y 8) g ≤ 32768 by omega) (show g + ts1 x2 (Y 8) g ≤ 32768 by omega) h2 (show Y 13 < 8000 by omega) (show bf ≤ 1 by omega)) (cwV 3 hts (gV (fun _ h => h) ml_X1_132 im_X1_keep se_X1_keep ini_X1 co_X1_keep) rfl rfl rfl pd_X1_keep ⟨Nat.le_of_ble_eq_true rfl, Nat.le_of_ble_eq_true rfl⟩) (rm_preS hK hP hD) rfl rfl hl.1 rfl (lv_room (Nat.le_of_ble_eq_true rfl)) dX1_next_340 ⟨Nat.zero_le _, Nat.zero_le _⟩) hD hS hA (fun u_282 H locs q_281 hP hD hS => ?_)
                              subst q_281
                              have hP : va_P (dC, dI) vwCl (rmW ct ad ((zu (zu Y 13 (Y 13 + 1)) 18 (Y 18 + (ts1 x2 (Y 8) g))), x1, x2, x3, x4, (nu x5 (Y 13) (Y 18)), (nu x6 (Y 13) (ts1 x2 (Y 8) g)), (nu x7 (Y 13) (x4 g)), (nu x8 (Y 13) bf), (cpG (fun i => x2 (g + i)) (Y 18) (ts1 x2 (Y 8) g) x9))) H := hP
                              have hD : va_D A (rmW ct ad ((zu (zu Y 13 (Y 13 + 1)) 18 (Y 18 + (ts1 x2 (Y 8) g))), x1, x2, x3, x4, (nu x5 (Y 13) (Y 18)), (nu x6 (Y 13) (ts1 x2 (Y 8) g)), (nu x7 (Y 13) (x4 g)), (nu x8 (Y 13) bf), (cpG (fun i => x2 (g + i)) (Y 18) (ts1 x2 (Y 8) g) x9))) := hD
                              refine lv_iinc (v := nI (many + 1)) (lv' := [(2, .int (nI (many + 1))), (3, .int (nI much)), (5, .int (nI first)), (9, .int (nI (ts1 x2 (Y 8) g))), (8, .int (bI (rb x2 (Y 8) (g + 1)))), (7, .int (nI (x2 g))), (0, .ref (ad 0)), (1, .int (nI g)), (4, .int (nI bf)), (6, .int (nI en))]) hx hb dX1_next_343 hl (k := 7) rfl (by exact nI_add many 1) (by decide) rfl (fun ls hl => ?_)
                              refine lv_iconst (v := nI 0) hx hb dX1_next_346 (by decide) ?_
                              refine lv_istore (lv' := [(4, .int (nI 0)), (2, .int (nI (many + 1))), (3, .int (nI much)), (5, .int (nI first)), (9, .int (nI (ts1 x2 (Y 8) g))), (8, .int (bI (rb x2 (Y 8) (g + 1)))), (7, .int (nI (x2 g))), (0, .ref (ad 0)), (1, .int (nI g)), (6, .int (nI en))]) hx hb dX1_next_347 hl (by decide) rfl (fun ls hl => ?_)
                              refine lv_iload_n hx hb dX1_next_349 rfl (lv_at hl 8 rfl) ?_
                              refine lv_iload hx hb dX1_next_350 (lv_at hl 4 rfl) ?_
                              refine lv_iadd hx hb dX1_next_352 ?_
                              refine lv_topi (fun x_284 e_285 => ?_)
                              obtain rfl : x_284 = nI (g + (ts1 x2 (Y 8) g)) := e_285.trans (nI_add g (ts1 x2 (Y 8) g))
                              refine lv_istore_n (lv' := [(1, .int (nI (g + (ts1 x2 (Y 8) g)))), (4, .int (nI 0)), (2, .int (nI (many + 1))), (3, .int (nI much)), (5, .int (nI first)), (9, .int (nI (ts1 x2 (Y 8) g))), (8, .int (bI (rb x2 (Y 8) (g + 1)))), (7, .int (nI (x2 g))), (0, .ref (ad 0)), (6, .int (nI en))]) hx hb dX1_next_353 rfl hl (by decide) rfl (fun ls hl => ?_)
                              refine lv_goto (tgt := 65) hx hb dX1_next_354 (by decide) ?_
                              rw [rL, if_neg (by omega), if_neg (by omega), if_neg (by rw [c_94]; decide), if_neg (by omega), if_neg (by omega), if_neg (by omega), rQ, if_neg (by omega), rKY, if_pos (by omega), rK5, if_pos (by omega), rK6, if_pos (by omega), rK6, if_pos (by omega), rK6, if_pos (by omega), rK9, if_pos (by omega), if_neg (by omega), if_neg (by omega)] at hQ
                              exact ih (zu (zu Y 13 (Y 13 + 1)) 18 (Y 18 + (ts1 x2 (Y 8) g))) ((nu x5 (Y 13) (Y 18))) ((nu x6 (Y 13) (ts1 x2 (Y 8) g))) ((nu x7 (Y 13) (x4 g))) ((nu x8 (Y 13) bf)) ((cpG (fun i => x2 (g + i)) (Y 18) (ts1 x2 (Y 8) g) x9)) (g + (ts1 x2 (Y 8) g)) (many + 1) much 0 first en (by show Y 8 - (g + (ts1 x2 (Y 8) g)) + 1 - en < k; omega) (show (Y 8) ≤ 32768 by omega) (show (g + (ts1 x2 (Y 8) g)) ≤ (Y 8) by omega) (show (Y 18 + (ts1 x2 (Y 8) g)) ≤ (g + (ts1 x2 (Y 8) g)) by omega) (show (many + 1) ≤ (g + (ts1 x2 (Y 8) g)) by omega) (show (many + 1) ≤ 8000 → (Y 13 + 1) = (many + 1) by omega) (show 0 ≤ 1 by omega) (show en ≤ 1 by omega) (show (Y 7) ≤ 1000 by omega) (show (Y 6) ≤ 20000 by omega) (show en = 1 → (g + (ts1 x2 (Y 8) g)) < (Y 8) by omega) hQ _ _ hP hD hS _ (lv_sub hl [8, 0, 2, 3, 1, 4, 9] rfl)
                          · have c_277 := (nI_eq (a := many) (b := 8000) (by omega) (by omega)).mp c_277
                            refine lv_aload_n hx hb dX1_next_316 rfl (lv_at hl 4 rfl) ?_
                            refine va_get (D := (dC, dI)) (ci := 1) (v := .ref (ad 4)) (C := RX1) (T := TX1) (N := 20) hx hb hts inX1 hown hK hP 0 rfl rfl 11 (by decide) (hts _ fl_X1_21) (fun _ h9 => h9) rfl dX1_next_317 ?_
                            refine lv_iload_n hx hb dX1_next_320 rfl (lv_at hl 5 rfl) ?_
                            refine va_iald hx hb hK hP 4 1 rfl rfl (vp_in_nI (by omega) (by decide)) dX1_next_321 ?_
                            refine lv_topi (fun x_286 e_287 => ?_)
                            obtain rfl : x_286 = nI (x4 g) := e_287.trans (by rw [nI_clamp (by omega)])
                            refine lv_goto (tgt := 326) hx hb dX1_next_322 (by decide) ?_
                            refine lv_istore_n (lv' := [(3, .int (nI (x4 g))), (5, .int (nI first)), (9, .int (nI (ts1 x2 (Y 8) g))), (8, .int (bI (rb x2 (Y 8) (g + 1)))), (7, .int (nI (x2 g))), (0, .ref (ad 0)), (1, .int (nI g)), (2, .int (nI many)), (4, .int (nI bf)), (6, .int (nI en))]) hx hb dX1_next_326 rfl hl (by decide) rfl (fun ls hl => ?_)
                            refine lv_iload_n hx hb dX1_next_327 rfl (lv_at hl 7 rfl) ?_
                            refine lv_sipush (v := nI 8000) hx hb dX1_next_328 (by decide) ?_
                            refine lv_icmp_ge (tgt := 343) hx hb dX1_next_331 (by decide) (fun c_288 => ?_) (fun c_288 => ?_)
                            · have c_288 := (nI_leI (a := 8000) (b := many) (by omega) (by omega)).mp c_288
                              refine lv_iinc (v := nI (many + 1)) (lv' := [(2, .int (nI (many + 1))), (3, .int (nI (x4 g))), (5, .int (nI first)), (9, .int (nI (ts1 x2 (Y 8) g))), (8, .int (bI (rb x2 (Y 8) (g + 1)))), (7, .int (nI (x2 g))), (0, .ref (ad 0)), (1, .int (nI g)), (4, .int (nI bf)), (6, .int (nI en))]) hx hb dX1_next_343 hl (k := 7) rfl (by exact nI_add many 1) (by decide) rfl (fun ls hl => ?_)
                              refine lv_iconst (v := nI 0) hx hb dX1_next_346 (by decide) ?_
                              refine lv_istore (lv' := [(4, .int (nI 0)), (2, .int (nI (many + 1))), (3, .int (nI (x4 g))), (5, .int (nI first)), (9, .int (nI (ts1 x2 (Y 8) g))), (8, .int (bI (rb x2 (Y 8) (g + 1)))), (7, .int (nI (x2 g))), (0, .ref (ad 0)), (1, .int (nI g)), (6, .int (nI en))]) hx hb dX1_next_347 hl (by decide) rfl (fun ls hl => ?_)
                              refine lv_iload_n hx hb dX1_next_349 rfl (lv_at hl 8 rfl) ?_
                              refine lv_iload hx hb dX1_next_350 (lv_at hl 4 rfl) ?_
                              refine lv_iadd hx hb dX1_next_352 ?_
                              refine lv_topi (fun x_289 e_290 => ?_)
                              obtain rfl : x_289 = nI (g + (ts1 x2 (Y 8) g)) := e_290.trans (nI_add g (ts1 x2 (Y 8) g))
                              refine lv_istore_n (lv' := [(1, .int (nI (g + (ts1 x2 (Y 8) g)))), (4, .int (nI 0)), (2, .int (nI (many + 1))), (3, .int (nI (x4 g))), (5, .int (nI first)), (9, .int (nI (ts1 x2 (Y 8) g))), (8, .int (bI (rb x2 (Y 8) (g + 1)))), (7, .int (nI (x2 g))), (0, .ref (ad 0)), (6, .int (nI en))]) hx hb dX1_next_353 rfl hl (by decide) rfl (fun ls hl => ?_)
                              refine lv_goto (tgt := 65) hx hb dX1_next_354 (by decide) ?_
                              rw [rL, if_neg (by omega), if_neg (by omega), if_neg (by rw [c_94]; decide), if_neg (by omega), if_neg (by omega), if_neg (by omega), rQ, if_neg (by omega), rKY, if_neg (by omega), rK5, if_neg (by omega), rK6, if_neg (by omega), rK6, if_neg (by omega), rK6, if_neg (by omega), rK9, if_neg (by omega), if_pos (by omega), if_neg (by omega)] at hQ
                              exact ih Y x5 x6 x7 x8 x9 (g + (ts1 x2 (Y 8) g)) (many + 1) (x4 g) 0 first en (by show Y 8 - (g + (ts1 x2 (Y 8) g)) + 1 - en < k; omega) (show (Y 8) ≤ 32768 by omega) (show (g + (ts1 x2 (Y 8) g)) ≤ (Y 8) by omega) (show (Y 18) ≤ (g + (ts1 x2 (Y 8) g)) by omega) (show (many + 1) ≤ (g + (ts1 x2 (Y 8) g)) by omega) (show (many + 1) ≤ 8000 → (Y 13) = (many + 1) by omega) (show 0 ≤ 1 by omega) (show en ≤ 1 by omega) (show (Y 7) ≤ 1000 by omega) (show (Y 6) ≤ 20000 by omega) (show en = 1 → (g + (ts1 x2 (Y 8) g)) < (Y 8) by omega) hQ _ _ hP hD hS _ (lv_sub hl [8, 0, 2, 3, 1, 4, 9] rfl)
                            · have c_288 := mt (nI_leI (a := 8000) (b := many) (by omega) (by omega)).mpr c_288
                              omega
                        · have c_276 := (nI_eq (a := many) (b := 0) (by omega) (by omega)).mp c_276
                          refine lv_aload_n hx hb dX1_next_296 rfl (lv_at hl 3 rfl) ?_
                          refine va_get (D := (dC, dI)) (ci := 1) (v := .ref (ad 4)) (C := RX1) (T := TX1) (N := 20) hx hb hts inX1 hown hK hP 0 rfl rfl 11 (by decide) (hts _ fl_X1_21) (fun _ h9 => h9) rfl dX1_next_297 ?_
                          refine lv_iload_n hx hb dX1_next_300 rfl (lv_at hl 4 rfl) ?_
                          refine va_iald hx hb hK hP 4 1 rfl rfl (vp_in_nI (by omega) (by decide)) dX1_next_301 ?_
                          refine lv_topi (fun x_291 e_292 => ?_)
                          obtain rfl : x_291 = nI (x4 g) := e_292.trans (by rw [nI_clamp (by omega)])
                          refine lv_goto (tgt := 307) hx hb dX1_next_302 (by decide) ?_
                          refine lv_istore (lv' := [(5, .int (nI (x4 g))), (9, .int (nI (ts1 x2 (Y 8) g))), (8, .int (bI (rb x2 (Y 8) (g + 1)))), (7, .int (nI (x2 g))), (0, .ref (ad 0)), (1, .int (nI g)), (2, .int (nI many)), (3, .int (nI much)), (4, .int (nI bf)), (6, .int (nI en))]) hx hb dX1_next_307 hl (by decide) rfl (fun ls hl => ?_)
                          refine lv_iload_n hx hb dX1_next_309 rfl (lv_at hl 6 rfl) ?_
                          refine lv_sipush (v := nI 8000) hx hb dX1_next_310 (by decide) ?_
                          refine lv_icmp_ne (tgt := 325) hx hb dX1_next_313 (by decide) (fun c_293 => ?_) (fun c_293 => ?_)
                          · have c_293 := mt (nI_eq (a := many) (b := 8000) (by omega) (by omega)).mpr c_293
                            refine lv_iload_n hx hb dX1_next_325 rfl (lv_at hl 7 rfl) ?_
                            refine lv_istore_n (lv' := [(3, .int (nI much)), (5, .int (nI (x4 g))), (9, .int (nI (ts1 x2 (Y 8) g))), (8, .int (bI (rb x2 (Y 8) (g + 1)))), (7, .int (nI (x2 g))), (0, .ref (ad 0)), (1, .int (nI g)), (2, .int (nI many)), (4, .int (nI bf)), (6, .int (nI en))]) hx hb dX1_next_326 rfl hl (by decide) rfl (fun ls hl => ?_)
                            refine lv_iload_n hx hb dX1_next_327 rfl (lv_at hl 7 rfl) ?_
                            refine lv_sipush (v := nI 8000) hx hb dX1_next_328 (by decide) ?_
                            refine lv_icmp_ge (tgt := 343) hx hb dX1_next_331 (by decide) (fun c_294 => ?_) (fun c_294 => ?_)
                            · have c_294 := (nI_leI (a := 8000) (b := many) (by omega) (by omega)).mp c_294
                              omega
                            · have c_294 := mt (nI_leI (a := 8000) (b := many) (by omega) (by omega)).mpr c_294
                              refine lv_aload_n hx hb dX1_next_334 rfl (lv_at hl 5 rfl) ?_
                              refine lv_iload_n hx hb dX1_next_335 rfl (lv_at hl 6 rfl) ?_
                              refine lv_iload hx hb dX1_next_336 (lv_at hl 2 rfl) ?_
                              refine lv_iload hx hb dX1_next_338 (lv_at hl 8 rfl) ?_
                              refine rm_callv (va_runV (As := [.int (nI g), .int (nI (ts1 x2 (Y 8) g)), .int (nI bf)]) (rest := []) ⟨hx, hb, hml, hown, hts⟩ (r_keep l dC dI ct ad H.size Y x1 x2 x3 x4 x5 x6 x7 x8 x9 g (ts1 x2 (Y 8) g) bf (show g < 32768 by omega) (show Y 18 + ts1 x2 (Y 8) g ≤ 32768 by omega) (show g + ts1 x2 (Y 8) g ≤ 32768 by omega) h2 (show Y 13 < 8000 by omega) (show bf ≤ 1 by omega)) (cwV 3 hts (gV (fun _ h => h) ml_X1_132 im_X1_keep se_X1_keep ini_X1 co_X1_keep) rfl rfl rfl pd_X1_keep ⟨Nat.le_of_ble_eq_true rfl, Nat.le_of_ble_eq_true rfl⟩) (rm_preS hK hP hD) rfl rfl hl.1 rfl (lv_room (Nat.le_of_ble_eq_true rfl)) dX1_next_340 ⟨Nat.zero_le _, Nat.zero_le _⟩) hD hS hA (fun u_296 H locs q_295 hP hD hS => ?_)
                              subst q_295
                              have hP : va_P (dC, dI) vwCl (rmW ct ad ((zu (zu Y 13 (Y 13 + 1)) 18 (Y 18 + (ts1 x2 (Y 8) g))), x1, x2, x3, x4, (nu x5 (Y 13) (Y 18)), (nu x6 (Y 13) (ts1 x2 (Y 8) g)), (nu x7 (Y 13) (x4 g)), (nu x8 (Y 13) bf), (cpG (fun i => x2 (g + i)) (Y 18) (ts1 x2 (Y 8) g) x9))) H := hP
                              have hD : va_D A (rmW ct ad ((zu (zu Y 13 (Y 13 + 1)) 18 (Y 18 + (ts1 x2 (Y 8) g))), x1, x2, x3, x4, (nu x5 (Y 13) (Y 18)), (nu x6 (Y 13) (ts1 x2 (Y 8) g)), (nu x7 (Y 13) (x4 g)), (nu x8 (Y 13) bf), (cpG (fun i => x2 (g + i)) (Y 18) (ts1 x2 (Y 8) g) x9))) := hD
                              refine lv_iinc (v := nI (many + 1)) (lv' := [(2, .int (nI (many + 1))), (3, .int (nI much)), (5, .int (nI (x4 g))), (9, .int (nI (ts1 x2 (Y 8) g))), (8, .int (bI (rb x2 (Y 8) (g + 1)))), (7, .int (nI (x2 g))), (0, .ref (ad 0)), (1, .int (nI g)), (4, .int (nI bf)), (6, .int (nI en))]) hx hb dX1_next_343 hl (k := 7) rfl (by exact nI_add many 1) (by decide) rfl (fun ls hl => ?_)
                              refine lv_iconst (v := nI 0) hx hb dX1_next_346 (by decide) ?_
                              refine lv_istore (lv' := [(4, .int (nI 0)), (2, .int (nI (many + 1))), (3, .int (nI much)), (5, .int (nI (x4 g))), (9, .int (nI (ts1 x2 (Y 8) g))), (8, .int (bI (rb x2 (Y 8) (g + 1)))), (7, .int (nI (x2 g))), (0, .ref (ad 0)), (1, .int (nI g)), (6, .int (nI en))]) hx hb dX1_next_347 hl (by decide) rfl (fun ls hl => ?_)
                              refine lv_iload_n hx hb dX1_next_349 rfl (lv_at hl 8 rfl) ?_
                              refine lv_iload hx hb dX1_next_350 (lv_at hl 4 rfl) ?_
                              refine lv_iadd hx hb dX1_next_352 ?_
                              refine lv_topi (fun x_298 e_299 => ?_)
                              obtain rfl : x_298 = nI (g + (ts1 x2 (Y 8) g)) := e_299.trans (nI_add g (ts1 x2 (Y 8) g))
                              refine lv_istore_n (lv' := [(1, .int (nI (g + (ts1 x2 (Y 8) g)))), (4, .int (nI 0)), (2, .int (nI (many + 1))), (3, .int (nI much)), (5, .int (nI (x4 g))), (9, .int (nI (ts1 x2 (Y 8) g))), (8, .int (bI (rb x2 (Y 8) (g + 1)))), (7, .int (nI (x2 g))), (0, .ref (ad 0)), (6, .int (nI en))]) hx hb dX1_next_353 rfl hl (by decide) rfl (fun ls hl => ?_)
                              refine lv_goto (tgt := 65) hx hb dX1_next_354 (by decide) ?_
                              rw [rL, if_neg (by omega), if_neg (by omega), if_neg (by rw [c_94]; decide), if_neg (by omega), if_neg (by omega), if_neg (by omega), rQ, if_neg (by omega), rKY, if_pos (by omega), rK5, if_pos (by omega), rK6, if_pos (by omega), rK6, if_pos (by omega), rK6, if_pos (by omega), rK9, if_pos (by omega), if_neg (by omega), if_pos (by omega)] at hQ
                              exact ih (zu (zu Y 13 (Y 13 + 1)) 18 (Y 18 + (ts1 x2 (Y 8) g))) ((nu x5 (Y 13) (Y 18))) ((nu x6 (Y 13) (ts1 x2 (Y 8) g))) ((nu x7 (Y 13) (x4 g))) ((nu x8 (Y 13) bf)) ((cpG (fun i => x2 (g + i)) (Y 18) (ts1 x2 (Y 8) g) x9)) (g + (ts1 x2 (Y 8) g)) (many + 1) much 0 (x4 g) en (by show Y 8 - (g + (ts1 x2 (Y 8) g)) + 1 - en < k; omega) (show (Y 8) ≤ 32768 by omega) (show (g + (ts1 x2 (Y 8) g)) ≤ (Y 8) by omega) (show (Y 18 + (ts1 x2 (Y 8) g)) ≤ (g + (ts1 x2 (Y 8) g)) by omega) (show (many + 1) ≤ (g + (ts1 x2 (Y 8) g)) by omega) (show (many + 1) ≤ 8000 → (Y 13 + 1) = (many + 1) by omega) (show 0 ≤ 1 by omega) (show en ≤ 1 by omega) (show (Y 7) ≤ 1000 by omega) (show (Y 6) ≤ 20000 by omega) (show en = 1 → (g + (ts1 x2 (Y 8) g)) < (Y 8) by omega) hQ _ _ hP hD hS _ (lv_sub hl [8, 0, 2, 3, 1, 4, 9] rfl)
                          · have c_293 := (nI_eq (a := many) (b := 8000) (by omega) (by omega)).mp c_293
                            omega
                      · have c_275 := (nI_eq (a := x2 g) (b := 39) (by omega) (by omega)).mp c_275
                        refine lv_aload_n hx hb dX1_next_259 rfl (lv_at hl 3 rfl) ?_
                        refine lv_dup hx hb dX1_next_260 rfl ?_
                        refine va_get (D := (dC, dI)) (ci := 1) (v := .int (nI (Y 7))) (C := RX1) (T := TX1) (N := 20) hx hb hts inX1 hown hK hP 0 rfl rfl 7 (by decide) (hts _ fl_X1_63) (fun _ h9 => h9) rfl dX1_next_261 ?_
                        refine lv_iconst (v := nI 1) hx hb dX1_next_264 (by decide) ?_
                        refine lv_iadd hx hb dX1_next_265 ?_
                        refine lv_topi (fun x_300 e_301 => ?_)
                        obtain rfl : x_300 = nI (Y 7 + 1) := e_301.trans (nI_add (Y 7) 1)
                        refine va_put (D := (dC, dI)) (ci := 1) (v := .int (nI (Y 7 + 1))) (ty := .int) (C := RX1) (T := TX1) (N := 20) hx hb hts inX1 tyX1 okX1 nmX1 hown hK hP hD hS 0 rfl rfl 7 (by decide) (hts _ fl_X1_63) (fun _ h9 => h9) rfl (by decide +kernel) rfl rfl (Nat.le_of_ble_eq_true rfl) dX1_next_266 (fun H locs hP hD hS => ?_)
                        have hP : va_P (dC, dI) vwCl (rmW ct ad ((zu Y 7 (Y 7 + 1)), x1, x2, x3, x4, x5, x6, x7, x8, x9)) H := hP
                        have hD : va_D A (rmW ct ad ((zu Y 7 (Y 7 + 1)), x1, x2, x3, x4, x5, x6, x7, x8, x9)) := hD
                        refine lv_aload_n hx hb dX1_next_269 rfl (lv_at hl 3 rfl) ?_
                        refine va_get (D := (dC, dI)) (ci := 1) (v := .int (nI (Y 7 + 1))) (C := RX1) (T := TX1) (N := 20) hx hb hts inX1 hown hK hP 0 rfl rfl 7 (by decide) (hts _ fl_X1_63) (fun _ h9 => h9) rfl dX1_next_270 ?_
                        refine lv_sipush (v := nI 1000) hx hb dX1_next_273 (by decide) ?_
                        refine lv_icmp_le (tgt := 292) hx hb dX1_next_276 (by decide) (fun c_302 => ?_) (fun c_302 => ?_)
                        · have c_302 := (nI_leI (a := Y 7 + 1) (b := 1000) (by omega) (by omega)).mp c_302
                          refine lv_iload_n hx hb dX1_next_292 rfl (lv_at hl 5 rfl) ?_
                          refine lv_if_ne (tgt := 305) hx hb dX1_next_293 (by decide) (fun c_303 => ?_) (fun c_303 => ?_)
                          · have c_303 := mt (nI_eq (a := many) (b := 0) (by omega) (by omega)).mpr c_303
                            refine lv_iload hx hb dX1_next_305 (lv_at hl 8 rfl) ?_
                            refine lv_istore (lv' := [(5, .int (nI first)), (9, .int (nI (ts1 x2 (Y 8) g))), (8, .int (bI (rb x2 (Y 8) (g + 1)))), (7, .int (nI (x2 g))), (0, .ref (ad 0)), (1, .int (nI g)), (2, .int (nI many)), (3, .int (nI much)), (4, .int (nI bf)), (6, .int (nI en))]) hx hb dX1_next_307 hl (by decide) rfl (fun ls hl => ?_)
                            refine lv_iload_n hx hb dX1_next_309 rfl (lv_at hl 6 rfl) ?_
                            refine lv_sipush (v := nI 8000) hx hb dX1_next_310 (by decide) ?_
                            refine lv_icmp_ne (tgt := 325) hx hb dX1_next_313 (by decide) (fun c_304 => ?_) (fun c_304 => ?_)
                            · have c_304 := mt (nI_eq (a := many) (b := 8000) (by omega) (by omega)).mpr c_304
                              refine lv_iload_n hx hb dX1_next_325 rfl (lv_at hl 7 rfl) ?_
                              refine lv_istore_n (lv' := [(3, .int (nI much)), (5, .int (nI first)), (9, .int (nI (ts1 x2 (Y 8) g))), (8, .int (bI (rb x2 (Y 8) (g + 1)))), (7, .int (nI (x2 g))), (0, .ref (ad 0)), (1, .int (nI g)), (2, .int (nI many)), (4, .int (nI bf)), (6, .int (nI en))]) hx hb dX1_next_326 rfl hl (by decide) rfl (fun ls hl => ?_)
                              refine lv_iload_n hx hb dX1_next_327 rfl (lv_at hl 7 rfl) ?_
                              refine lv_sipush (v := nI 8000) hx hb dX1_next_328 (by decide) ?_
                              refine lv_icmp_ge (tgt := 343) hx hb dX1_next_331 (by decide) (fun c_305 => ?_) (fun c_305 => ?_)
                              · have c_305 := (nI_leI (a := 8000) (b := many) (by omega) (by omega)).mp c_305
                                refine lv_iinc (v := nI (many + 1)) (lv' := [(2, .int (nI (many + 1))), (3, .int (nI much)), (5, .int (nI first)), (9, .int (nI (ts1 x2 (Y 8) g))), (8, .int (bI (rb x2 (Y 8) (g + 1)))), (7, .int (nI (x2 g))), (0, .ref (ad 0)), (1, .int (nI g)), (4, .int (nI bf)), (6, .int (nI en))]) hx hb dX1_next_343 hl (k := 7) rfl (by exact nI_add many 1) (by decide) rfl (fun ls hl => ?_)
                                refine lv_iconst (v := nI 0) hx hb dX1_next_346 (by decide) ?_
                                refine lv_istore (lv' := [(4, .int (nI 0)), (2, .int (nI (many + 1))), (3, .int (nI much)), (5, .int (nI first)), (9, .int (nI (ts1 x2 (Y 8) g))), (8, .int (bI (rb x2 (Y 8) (g + 1)))), (7, .int (nI (x2 g))), (0, .ref (ad 0)), (1, .int (nI g)), (6, .int (nI en))]) hx hb dX1_next_347 hl (by decide) rfl (fun ls hl => ?_)
                                refine lv_iload_n hx hb dX1_next_349 rfl (lv_at hl 8 rfl) ?_
                                refine lv_iload hx hb dX1_next_350 (lv_at hl 4 rfl) ?_
                                refine lv_iadd hx hb dX1_next_352 ?_
                                refine lv_topi (fun x_306 e_307 => ?_)
                                obtain rfl : x_306 = nI (g + (ts1 x2 (Y 8) g)) := e_307.trans (nI_add g (ts1 x2 (Y 8) g))
                                refine lv_istore_n (lv' := [(1, .int (nI (g + (ts1 x2 (Y 8) g)))), (4, .int (nI 0)), (2, .int (nI (many + 1))), (3, .int (nI much)), (5, .int (nI first)), (9, .int (nI (ts1 x2 (Y 8) g))), (8, .int (bI (rb x2 (Y 8) (g + 1)))), (7, .int (nI (x2 g))), (0, .ref (ad 0)), (6, .int (nI en))]) hx hb dX1_next_353 rfl hl (by decide) rfl (fun ls hl => ?_)
                                refine lv_goto (tgt := 65) hx hb dX1_next_354 (by decide) ?_
                                rw [rL, if_neg (by omega), if_neg (by omega), if_neg (by rw [c_94]; decide), if_neg (by omega), if_neg (by omega), if_neg (by omega), rQ, if_pos (by omega), rKY, if_neg (by omega), rK5, if_neg (by omega), rK6, if_neg (by omega), rK6, if_neg (by omega), rK6, if_neg (by omega), rK9, if_neg (by omega), if_neg (by omega), if_neg (by omega)] at hQ
                                exact ih (zu Y 7 (Y 7 + 1)) x5 x6 x7 x8 x9 (g + (ts1 x2 (Y 8) g)) (many + 1) much 0 first en (by show Y 8 - (g + (ts1 x2 (Y 8) g)) + 1 - en < k; omega) (show (Y 8) ≤ 32768 by omega) (show (g + (ts1 x2 (Y 8) g)) ≤ (Y 8) by omega) (show (Y 18) ≤ (g + (ts1 x2 (Y 8) g)) by omega) (show (many + 1) ≤ (g + (ts1 x2 (Y 8) g)) by omega) (show (many + 1) ≤ 8000 → (Y 13) = (many + 1) by omega) (show 0 ≤ 1 by omega) (show en ≤ 1 by omega) (show (Y 7 + 1) ≤ 1000 by omega) (show (Y 6) ≤ 20000 by omega) (show en = 1 → (g + (ts1 x2 (Y 8) g)) < (Y 8) by omega) hQ _ _ hP hD hS _ (lv_sub hl [8, 0, 2, 3, 1, 4, 9] rfl)
                              · have c_305 := mt (nI_leI (a := 8000) (b := many) (by omega) (by omega)).mpr c_305
                                refine lv_aload_n hx hb dX1_next_334 rfl (lv_at hl 5 rfl) ?_
                                refine lv_iload_n hx hb dX1_next_335 rfl (lv_at hl 6 rfl) ?_
                                refine lv_iload hx hb dX1_next_336 (lv_at hl 2 rfl) ?_
                                refine lv_iload hx hb dX1_next_338 (lv_at hl 8 rfl) ?_
                                refine rm_callv (va_runV (As := [.int (nI g), .int (nI (ts1 x2 (Y 8) g)), .int (nI bf)]) (rest := []) ⟨hx, hb, hml, hown, hts⟩ (r_keep l dC dI ct ad H.size (zu Y 7 (Y 7 + 1)) x1 x2 x3 x4 x5 x6 x7 x8 x9 g (ts1 x2 (Y 8) g) bf (show g < 32768 by omega) (show Y 18 + ts1 x2 (Y 8) g ≤ 32768 by omega) (show g + ts1 x2 (Y 8) g ≤ 32768 by omega) h2 (show Y 13 < 8000 by omega) (show bf ≤ 1 by omega)) (cwV 3 hts (gV (fun _ h => h) ml_X1_132 im_X1_keep se_X1_keep ini_X1 co_X1_keep) rfl rfl rfl pd_X1_keep ⟨Nat.le_of_ble_eq_true rfl, Nat.le_of_ble_eq_true rfl⟩) (rm_preS hK hP hD) rfl rfl hl.1 rfl (lv_room (Nat.le_of_ble_eq_true rfl)) dX1_next_340 ⟨Nat.zero_le _, Nat.zero_le _⟩) hD hS hA (fun u_309 H locs q_308 hP hD hS => ?_)
                                subst q_308
                                have hP : va_P (dC, dI) vwCl (rmW ct ad ((zu (zu (zu Y 7 (Y 7 + 1)) 13 (Y 13 + 1)) 18 (Y 18 + (ts1 x2 (Y 8) g))), x1, x2, x3, x4, (nu x5 (Y 13) (Y 18)), (nu x6 (Y 13) (ts1 x2 (Y 8) g)), (nu x7 (Y 13) (x4 g)), (nu x8 (Y 13) bf), (cpG (fun i => x2 (g + i)) (Y 18) (ts1 x2 (Y 8) g) x9))) H := hP
                                have hD : va_D A (rmW ct ad ((zu (zu (zu Y 7 (Y 7 + 1)) 13 (Y 13 + 1)) 18 (Y 18 + (ts1 x2 (Y 8) g))), x1, x2, x3, x4, (nu x5 (Y 13) (Y 18)), (nu x6 (Y 13) (ts1 x2 (Y 8) g)), (nu x7 (Y 13) (x4 g)), (nu x8 (Y 13) bf), (cpG (fun i => x2 (g + i)) (Y 18) (ts1 x2 (Y 8) g) x9))) := hD
                                refine lv_iinc (v := nI (many + 1)) (lv' := [(2, .int (nI (many + 1))), (3, .int (nI much)), (5, .int (nI first)), (9, .int (nI (ts1 x2 (Y 8) g))), (8, .int (bI (rb x2 (Y 8) (g + 1)))), (7, .int (nI (x2 g))), (0, .ref (ad 0)), (1, .int (nI g)), (4, .int (nI bf)), (6, .int (nI en))]) hx hb dX1_next_343 hl (k := 7) rfl (by exact nI_add many 1) (by decide) rfl (fun ls hl => ?_)
                                refine lv_iconst (v := nI 0) hx hb dX1_next_346 (by decide) ?_
                                refine lv_istore (lv' := [(4, .int (nI 0)), (2, .int (nI (many + 1))), (3, .int (nI much)), (5, .int (nI first)), (9, .int (nI (ts1 x2 (Y 8) g))), (8, .int (bI (rb x2 (Y 8) (g + 1)))), (7, .int (nI (x2 g))), (0, .ref (ad 0)), (1, .int (nI g)), (6, .int (nI en))]) hx hb dX1_next_347 hl (by decide) rfl (fun ls hl => ?_)
                                refine lv_iload_n hx hb dX1_next_349 rfl (lv_at hl 8 rfl) ?_
                                refine lv_iload hx hb dX1_next_350 (lv_at hl 4 rfl) ?_
                                refine lv_iadd hx hb dX1_next_352 ?_
                                refine lv_topi (fun x_311 e_312 => ?_)
                                obtain rfl : x_311 = nI (g + (ts1 x2 (Y 8) g)) := e_312.trans (nI_add g (ts1 x2 (Y 8) g))
                                refine lv_istore_n (lv' := [(1, .int (nI (g + (ts1 x2 (Y 8) g)))), (4, .int (nI 0)), (2, .int (nI (many + 1))), (3, .int (nI much)), (5, .int (nI first)), (9, .int (nI (ts1 x2 (Y 8) g))), (8, .int (bI (rb x2 (Y 8) (g + 1)))), (7, .int (nI (x2 g))), (0, .ref (ad 0)), (6, .int (nI en))]) hx hb dX1_next_353 rfl hl (by decide) rfl (fun ls hl => ?_)
                                refine lv_goto (tgt := 65) hx hb dX1_next_354 (by decide) ?_
                                rw [rL, if_neg (by omega), if_neg (by omega), if_neg (by rw [c_94]; decide), if_neg (by omega), if_neg (by omega), if_neg (by omega), rQ, if_pos (by omega), rKY, if_pos (by omega), rK5, if_pos (by omega), rK6, if_pos (by omega), rK6, if_pos (by omega), rK6, if_pos (by omega), rK9, if_pos (by omega), if_neg (by omega), if_neg (by omega)] at hQ
                                exact ih (zu (zu (zu Y 7 (Y 7 + 1)) 13 (Y 13 + 1)) 18 (Y 18 + (ts1 x2 (Y 8) g))) ((nu x5 (Y 13) (Y 18))) ((nu x6 (Y 13) (ts1 x2 (Y 8) g))) ((nu x7 (Y 13) (x4 g))) ((nu x8 (Y 13) bf)) ((cpG (fun i => x2 (g + i)) (Y 18) (ts1 x2 (Y 8) g) x9)) (g + (ts1 x2 (Y 8) g)) (many + 1) much 0 first en (by show Y 8 - (g + (ts1 x2 (Y 8) g)) + 1 - en < k; omega) (show (Y 8) ≤ 32768 by omega) (show (g + (ts1 x2 (Y 8) g)) ≤ (Y 8) by omega) (show (Y 18 + (ts1 x2 (Y 8) g)) ≤ (g + (ts1 x2 (Y 8) g)) by omega) (show (many + 1) ≤ (g + (ts1 x2 (Y 8) g)) by omega) (show (many + 1) ≤ 8000 → (Y 13 + 1) = (many + 1) by omega) (show 0 ≤ 1 by omega) (show en ≤ 1 by omega) (show (Y 7 + 1) ≤ 1000 by omega) (show (Y 6) ≤ 20000 by omega) (show en = 1 → (g + (ts1 x2 (Y 8) g)) < (Y 8) by omega) hQ _ _ hP hD hS _ (lv_sub hl [8, 0, 2, 3, 1, 4, 9] rfl)
                            · have c_304 := (nI_eq (a := many) (b := 8000) (by omega) (by omega)).mp c_304
                              refine lv_aload_n hx hb dX1_next_316 rfl (lv_at hl 4 rfl) ?_
                              refine va_get (D := (dC, dI)) (ci := 1) (v := .ref (ad 4)) (C := RX1) (T := TX1) (N := 20) hx hb hts inX1 hown hK hP 0 rfl rfl 11 (by decide) (hts _ fl_X1_21) (fun _ h9 => h9) rfl dX1_next_317 ?_
                              refine lv_iload_n hx hb dX1_next_320 rfl (lv_at hl 5 rfl) ?_
                              refine va_iald hx hb hK hP 4 1 rfl rfl (vp_in_nI (by omega) (by decide)) dX1_next_321 ?_
                              refine lv_topi (fun x_313 e_314 => ?_)
                              obtain rfl : x_313 = nI (x4 g) := e_314.trans (by rw [nI_clamp (by omega)])
                              refine lv_goto (tgt := 326) hx hb dX1_next_322 (by decide) ?_
                              refine lv_istore_n (lv' := [(3, .int (nI (x4 g))), (5, .int (nI first)), (9, .int (nI (ts1 x2 (Y 8) g))), (8, .int (bI (rb x2 (Y 8) (g + 1)))), (7, .int (nI (x2 g))), (0, .ref (ad 0)), (1, .int (nI g)), (2, .int (nI many)), (4, .int (nI bf)), (6, .int (nI en))]) hx hb dX1_next_326 rfl hl (by decide) rfl (fun ls hl => ?_)
                              refine lv_iload_n hx hb dX1_next_327 rfl (lv_at hl 7 rfl) ?_
                              refine lv_sipush (v := nI 8000) hx hb dX1_next_328 (by decide) ?_
                              refine lv_icmp_ge (tgt := 343) hx hb dX1_next_331 (by decide) (fun c_315 => ?_) (fun c_315 => ?_)
                              · have c_315 := (nI_leI (a := 8000) (b := many) (by omega) (by omega)).mp c_315
                                refine lv_iinc (v := nI (many + 1)) (lv' := [(2, .int (nI (many + 1))), (3, .int (nI (x4 g))), (5, .int (nI first)), (9, .int (nI (ts1 x2 (Y 8) g))), (8, .int (bI (rb x2 (Y 8) (g + 1)))), (7, .int (nI (x2 g))), (0, .ref (ad 0)), (1, .int (nI g)), (4, .int (nI bf)), (6, .int (nI en))]) hx hb dX1_next_343 hl (k := 7) rfl (by exact nI_add many 1) (by decide) rfl (fun ls hl => ?_)
                                refine lv_iconst (v := nI 0) hx hb dX1_next_346 (by decide) ?_
                                refine lv_istore (lv' := [(4, .int (nI 0)), (2, .int (nI (many + 1))), (3, .int (nI (x4 g))), (5, .int (nI first)), (9, .int (nI (ts1 x2 (Y 8) g))), (8, .int (bI (rb x2 (Y 8) (g + 1)))), (7, .int (nI (x2 g))), (0, .ref (ad 0)), (1, .int (nI g)), (6, .int (nI en))]) hx hb dX1_next_347 hl (by decide) rfl (fun ls hl => ?_)
                                refine lv_iload_n hx hb dX1_next_349 rfl (lv_at hl 8 rfl) ?_
                                refine lv_iload hx hb dX1_next_350 (lv_at hl 4 rfl) ?_
                                refine lv_iadd hx hb dX1_next_352 ?_
                                refine lv_topi (fun x_316 e_317 => ?_)
                                obtain rfl : x_316 = nI (g + (ts1 x2 (Y 8) g)) := e_317.trans (nI_add g (ts1 x2 (Y 8) g))
                                refine lv_istore_n (lv' := [(1, .int (nI (g + (ts1 x2 (Y 8) g)))), (4, .int (nI 0)), (2, .int (nI (many + 1))), (3, .int (nI (x4 g))), (5, .int (nI first)), (9, .int (nI (ts1 x2 (Y 8) g))), (8, .int (bI (rb x2 (Y 8) (g + 1)))), (7, .int (nI (x2 g))), (0, .ref (ad 0)), (6, .int (nI en))]) hx hb dX1_next_353 rfl hl (by decide) rfl (fun ls hl => ?_)
                                refine lv_goto (tgt := 65) hx hb dX1_next_354 (by decide) ?_
                                rw [rL, if_neg (by omega), if_neg (by omega), if_neg (by rw [c_94]; decide), if_neg (by omega), if_neg (by omega), if_neg (by omega), rQ, if_pos (by omega), rKY, if_neg (by omega), rK5, if_neg (by omega), rK6, if_neg (by omega), rK6, if_neg (by omega), rK6, if_neg (by omega), rK9, if_neg (by omega), if_pos (by omega), if_neg (by omega)] at hQ
                                exact ih (zu Y 7 (Y 7 + 1)) x5 x6 x7 x8 x9 (g + (ts1 x2 (Y 8) g)) (many + 1) (x4 g) 0 first en (by show Y 8 - (g + (ts1 x2 (Y 8) g)) + 1 - en < k; omega) (show (Y 8) ≤ 32768 by omega) (show (g + (ts1 x2 (Y 8) g)) ≤ (Y 8) by omega) (show (Y 18) ≤ (g + (ts1 x2 (Y 8) g)) by omega) (show (many + 1) ≤ (g + (ts1 x2 (Y 8) g)) by omega) (show (many + 1) ≤ 8000 → (Y 13) = (many + 1) by omega) (show 0 ≤ 1 by omega) (show en ≤ 1 by omega) (show (Y 7 + 1) ≤ 1000 by omega) (show (Y 6) ≤ 20000 by omega) (show en = 1 → (g + (ts1 x2 (Y 8) g)) < (Y 8) by omega) hQ _ _ hP hD hS _ (lv_sub hl [8, 0, 2, 3, 1, 4, 9] rfl)
                              · have c_315 := mt (nI_leI (a := 8000) (b := many) (by omega) (by omega)).mpr c_315
                                omega
                          · have c_303 := (nI_eq (a := many) (b := 0) (by omega) (by omega)).mp c_303
                            refine lv_aload_n hx hb dX1_next_296 rfl (lv_at hl 3 rfl) ?_
                            refine va_get (D := (dC, dI)) (ci := 1) (v := .ref (ad 4)) (C := RX1) (T := TX1) (N := 20) hx hb hts inX1 hown hK hP 0 rfl rfl 11 (by decide) (hts _ fl_X1_21) (fun _ h9 => h9) rfl dX1_next_297 ?_
                            refine lv_iload_n hx hb dX1_next_300 rfl (lv_at hl 4 rfl) ?_
                            refine va_iald hx hb hK hP 4 1 rfl rfl (vp_in_nI (by omega) (by decide)) dX1_next_301 ?_
                            refine lv_topi (fun x_318 e_319 => ?_)
                            obtain rfl : x_318 = nI (x4 g) := e_319.trans (by rw [nI_clamp (by omega)])
                            refine lv_goto (tgt := 307) hx hb dX1_next_302 (by decide) ?_
                            refine lv_istore (lv' := [(5, .int (nI (x4 g))), (9, .int (nI (ts1 x2 (Y 8) g))), (8, .int (bI (rb x2 (Y 8) (g + 1)))), (7, .int (nI (x2 g))), (0, .ref (ad 0)), (1, .int (nI g)), (2, .int (nI many)), (3, .int (nI much)), (4, .int (nI bf)), (6, .int (nI en))]) hx hb dX1_next_307 hl (by decide) rfl (fun ls hl => ?_)
                            refine lv_iload_n hx hb dX1_next_309 rfl (lv_at hl 6 rfl) ?_
                            refine lv_sipush (v := nI 8000) hx hb dX1_next_310 (by decide) ?_
                            refine lv_icmp_ne (tgt := 325) hx hb dX1_next_313 (by decide) (fun c_320 => ?_) (fun c_320 => ?_)
                            · have c_320 := mt (nI_eq (a := many) (b := 8000) (by omega) (by omega)).mpr c_320
                              refine lv_iload_n hx hb dX1_next_325 rfl (lv_at hl 7 rfl) ?_
                              refine lv_istore_n (lv' := [(3, .int (nI much)), (5, .int (nI (x4 g))), (9, .int (nI (ts1 x2 (Y 8) g))), (8, .int (bI (rb x2 (Y 8) (g + 1)))), (7, .int (nI (x2 g))), (0, .ref (ad 0)), (1, .int (nI g)), (2, .int (nI many)), (4, .int (nI bf)), (6, .int (nI en))]) hx hb dX1_next_326 rfl hl (by decide) rfl (fun ls hl => ?_)
                              refine lv_iload_n hx hb dX1_next_327 rfl (lv_at hl 7 rfl) ?_
                              refine lv_sipush (v := nI 8000) hx hb dX1_next_328 (by decide) ?_
                              refine lv_icmp_ge (tgt := 343) hx hb dX1_next_331 (by decide) (fun c_321 => ?_) (fun c_321 => ?_)
                              · have c_321 := (nI_leI (a := 8000) (b := many) (by omega) (by omega)).mp c_321
                                omega
                              · have c_321 := mt (nI_leI (a := 8000) (b := many) (by omega) (by omega)).mpr c_321
                                refine lv_aload_n hx hb dX1_next_334 rfl (lv_at hl 5 rfl) ?_
                                refine lv_iload_n hx hb dX1_next_335 rfl (lv_at hl 6 rfl) ?_
                                refine lv_iload hx hb dX1_next_336 (lv_at hl 2 rfl) ?_
                                refine lv_iload hx hb dX1_next_338 (lv_at hl 8 rfl) ?_
                                refine rm_callv (va_runV (As := [.int (nI g), .int (nI (ts1 x2 (Y 8) g)), .int (nI bf)]) (rest := []) ⟨hx, hb, hml, hown, hts⟩ (r_keep l dC dI ct ad H.size (zu Y 7 (Y 7 + 1)) x1 x2 x3 x4 x5 x6 x7 x8 x9 g (ts1 x2 (Y 8) g) bf (show g < 32768 by omega) (show Y 18 + ts1 x2 (Y 8) g ≤ 32768 by omega) (show g + ts1 x2 (Y 8) g ≤ 32768 by omega) h2 (show Y 13 < 8000 by omega) (show bf ≤ 1 by omega)) (cwV 3 hts (gV (fun _ h => h) ml_X1_132 im_X1_keep se_X1_keep ini_X1 co_X1_keep) rfl rfl rfl pd_X1_keep ⟨Nat.le_of_ble_eq_true rfl, Nat.le_of_ble_eq_true rfl⟩) (rm_preS hK hP hD) rfl rfl hl.1 rfl (lv_room (Nat.le_of_ble_eq_true rfl)) dX1_next_340 ⟨Nat.zero_le _, Nat.zero_le _⟩) hD hS hA (fun u_323 H locs q_322 hP hD hS => ?_)
                                subst q_322
                                have hP : va_P (dC, dI) vwCl (rmW ct ad ((zu (zu (zu Y 7 (Y 7 + 1)) 13 (Y 13 + 1)) 18 (Y 18 + (ts1 x2 (Y 8) g))), x1, x2, x3, x4, (nu x5 (Y 13) (Y 18)), (nu x6 (Y 13) (ts1 x2 (Y 8) g)), (nu x7 (Y 13) (x4 g)), (nu x8 (Y 13) bf), (cpG (fun i => x2 (g + i)) (Y 18) (ts1 x2 (Y 8) g) x9))) H := hP
                                have hD : va_D A (rmW ct ad ((zu (zu (zu Y 7 (Y 7 + 1)) 13 (Y 13 + 1)) 18 (Y 18 + (ts1 x2 (Y 8) g))), x1, x2, x3, x4, (nu x5 (Y 13) (Y 18)), (nu x6 (Y 13) (ts1 x2 (Y 8) g)), (nu x7 (Y 13) (x4 g)), (nu x8 (Y 13) bf), (cpG (fun i => x2 (g + i)) (Y 18) (ts1 x2 (Y 8) g) x9))) := hD
                                refine lv_iinc (v := nI (many + 1)) (lv' := [(2, .int (nI (many + 1))), (3, .int (nI much)), (5, .int (nI (x4 g))), (9, .int (nI (ts1 x2 (Y 8) g))), (8, .int (bI (rb x2 (Y 8) (g + 1)))), (7, .int (nI (x2 g))), (0, .ref (ad 0)), (1, .int (nI g)), (4, .int (nI bf)), (6, .int (nI en))]) hx hb dX1_next_343 hl (k := 7) rfl (by exact nI_add many 1) (by decide) rfl (fun ls hl => ?_)
                                refine lv_iconst (v := nI 0) hx hb dX1_next_346 (by decide) ?_
                                refine lv_istore (lv' := [(4, .int (nI 0)), (2, .int (nI (many + 1))), (3, .int (nI much)), (5, .int (nI (x4 g))), (9, .int (nI (ts1 x2 (Y 8) g))), (8, .int (bI (rb x2 (Y 8) (g + 1)))), (7, .int (nI (x2 g))), (0, .ref (ad 0)), (1, .int (nI g)), (6, .int (nI en))]) hx hb dX1_next_347 hl (by decide) rfl (fun ls hl => ?_)
                                refine lv_iload_n hx hb dX1_next_349 rfl (lv_at hl 8 rfl) ?_
                                refine lv_iload hx hb dX1_next_350 (lv_at hl 4 rfl) ?_
                                refine lv_iadd hx hb dX1_next_352 ?_
                                refine lv_topi (fun x_325 e_326 => ?_)
                                obtain rfl : x_325 = nI (g + (ts1 x2 (Y 8) g)) := e_326.trans (nI_add g (ts1 x2 (Y 8) g))
                                refine lv_istore_n (lv' := [(1, .int (nI (g + (ts1 x2 (Y 8) g)))), (4, .int (nI 0)), (2, .int (nI (many + 1))), (3, .int (nI much)), (5, .int (nI (x4 g))), (9, .int (nI (ts1 x2 (Y 8) g))), (8, .int (bI (rb x2 (Y 8) (g + 1)))), (7, .int (nI (x2 g))), (0, .ref (ad 0)), (6, .int (nI en))]) hx hb dX1_next_353 rfl hl (by decide) rfl (fun ls hl => ?_)
                                refine lv_goto (tgt := 65) hx hb dX1_next_354 (by decide) ?_
                                rw [rL, if_neg (by omega), if_neg (by omega), if_neg (by rw [c_94]; decide), if_neg (by omega), if_neg (by omega), if_neg (by omega), rQ, if_pos (by omega), rKY, if_pos (by omega), rK5, if_pos (by omega), rK6, if_pos (by omega), rK6, if_pos (by omega), rK6, if_pos (by omega), rK9, if_pos (by omega), if_neg (by omega), if_pos (by omega)] at hQ
                                exact ih (zu (zu (zu Y 7 (Y 7 + 1)) 13 (Y 13 + 1)) 18 (Y 18 + (ts1 x2 (Y 8) g))) ((nu x5 (Y 13) (Y 18))) ((nu x6 (Y 13) (ts1 x2 (Y 8) g))) ((nu x7 (Y 13) (x4 g))) ((nu x8 (Y 13) bf)) ((cpG (fun i => x2 (g + i)) (Y 18) (ts1 x2 (Y 8) g) x9)) (g + (ts1 x2 (Y 8) g)) (many + 1) much 0 (x4 g) en (by show Y 8 - (g + (ts1 x2 (Y 8) g)) + 1 - en < k; omega) (show (Y 8) ≤ 32768 by omega) (show (g + (ts1 x2 (Y 8) g)) ≤ (Y 8) by omega) (show (Y 18 + (ts1 x2 (Y 8) g)) ≤ (g + (ts1 x2 (Y 8) g)) by omega) (show (many + 1) ≤ (g + (ts1 x2 (Y 8) g)) by omega) (show (many + 1) ≤ 8000 → (Y 13 + 1) = (many + 1) by omega) (show 0 ≤ 1 by omega) (show en ≤ 1 by omega) (show (Y 7 + 1) ≤ 1000 by omega) (show (Y 6) ≤ 20000 by omega) (show en = 1 → (g + (ts1 x2 (Y 8) g)) < (Y 8) by omega) hQ _ _ hP hD hS _ (lv_sub hl [8, 0, 2, 3, 1, 4, 9] rfl)
                            · have c_320 := (nI_eq (a := many) (b := 8000) (by omega) (by omega)).mp c_320
                              omega
                        · have c_302 := mt (nI_leI (a := Y 7 + 1) (b := 1000) (by omega) (by omega)).mpr c_302
                          refine lv_aload_n hx hb dX1_next_279 rfl (lv_at hl 3 rfl) ?_
                          refine lv_bipush (v := nI 21) hx hb dX1_next_280 (by decide) ?_
                          refine lv_aload_n hx hb dX1_next_282 rfl (lv_at hl 3 rfl) ?_
                          refine va_get (D := (dC, dI)) (ci := 1) (v := .ref (ad 4)) (C := RX1) (T := TX1) (N := 20) hx hb hts inX1 hown hK hP 0 rfl rfl 11 (by decide) (hts _ fl_X1_21) (fun _ h9 => h9) rfl dX1_next_283 ?_
                          refine lv_iload_n hx hb dX1_next_286 rfl (lv_at hl 4 rfl) ?_
                          refine va_iald hx hb hK hP 4 1 rfl rfl (vp_in_nI (by omega) (by decide)) dX1_next_287 ?_
                          refine lv_topi (fun x_327 e_328 => ?_)
                          obtain rfl : x_327 = nI (x4 g) := e_328.trans (by rw [nI_clamp (by omega)])
                          refine rm_calli (va_runV (As := [.int (nI 21), .int (nI (x4 g))]) (rest := []) ⟨hx, hb, hml, hown, hts⟩ (r_stop l dC dI ct ad H.size (zu Y 7 (Y 7 + 1)) x1 x2 x3 x4 x5 x6 x7 x8 x9 21 (x4 g)) (cwV 2 hts (gV (fun _ h => h) ml_X1_126 im_X1_stop se_X1_stop ini_X1 co_X1_stop) rfl rfl rfl pd_X1_stop ⟨Nat.le_of_ble_eq_true rfl, Nat.le_of_ble_eq_true rfl⟩) (rm_preS hK hP hD) rfl rfl hl.1 rfl (lv_room (Nat.le_of_ble_eq_true rfl)) dX1_next_288 ⟨Nat.zero_le _, Nat.zero_le _⟩) hD hS hA (fun r_331 u_330 H locs q_329 hP hD hS => ?_)
                          obtain ⟨rfl, rfl⟩ := q_329
                          have hP : va_P (dC, dI) vwCl (rmW ct ad ((zu (zu (zu (zu Y 4 1) 5 (x4 g)) 7 (Y 7 + 1)) 13 0), x1, x2, x3, x4, x5, x6, x7, x8, x9)) H := hP
                          have hD : va_D A (rmW ct ad ((zu (zu (zu (zu Y 4 1) 5 (x4 g)) 7 (Y 7 + 1)) 13 0), x1, x2, x3, x4, x5, x6, x7, x8, x9)) := hD
                          have hP : va_P (dC, dI) vwCl (rmW ct ad (rSt (zu Y 7 (Y 7 + 1)) (x4 g), x1, x2, x3, x4, x5, x6, x7, x8, x9)) H := by skip; exact hP
                          have hD : va_D A (rmW ct ad (rSt (zu Y 7 (Y 7 + 1)) (x4 g), x1, x2, x3, x4, x5, x6, x7, x8, x9)) := by skip; exact hD
                          exact W.iret (v := (-10) - nI 21) hx hb hr (fun t ht hW => ⟨⟨_, (rSt (zu Y 7 (Y 7 + 1)) (x4 g), x1, x2, x3, x4, x5, x6, x7, x8, x9), rfl, (by rw [rL, if_neg (by omega), if_neg (by omega), if_neg (by rw [c_94]; decide), if_neg (by omega), if_neg (by omega), if_pos (by omega), rQ, if_pos (by omega)] at hQ; exact hQ), by rw [ht]; exact hP, va_K.moved hW.alike hK, hD⟩, hS.F ht⟩) hS.2.2 dX1_next_291
                · have c_214 := (bI_eqN (k := 47) (by omega)).mp c_214
                  have hl1 : lnI x2 (Y 8) g = lnI x2 (Y 8) (g + 1) := by rw [lnI, if_pos (by omega)]
                  have hln := lnI_b x2 (Y 8) (g + 1)
                  rw [rL, if_neg (by omega), if_neg (by omega), if_neg (by rw [c_94]; decide), if_neg (by omega), if_pos (by omega)] at hQ
                  refine q_next_197 hx hb hr hml hown hts hlocks hK hP many much first en (lnI x2 (Y 8) g) h8 h2 (fun ls hl => ?_) (Y 8 + 1) g (by omega) (by omega) rfl _ (lv_sub hl [2, 3, 4, 5, 7, 8] rfl)
                  refine lv_iconst (v := nI 1) hx hb dX1_next_222 (by decide) ?_
                  refine lv_istore (lv' := [(4, .int (nI 1)), (0, .ref (ad 0)), (1, .int (nI (lnI x2 (Y 8) g))), (2, .int (nI many)), (3, .int (nI much)), (5, .int (nI first)), (6, .int (nI en))]) hx hb dX1_next_223 hl (by decide) rfl (fun ls hl => ?_)
                  refine lv_goto (tgt := 354) hx hb dX1_next_225 (by decide) ?_
                  refine lv_goto (tgt := 65) hx hb dX1_next_354 (by decide) ?_
                  exact ih Y x5 x6 x7 x8 x9 (lnI x2 (Y 8) g) many much 1 first en (by show Y 8 - lnI x2 (Y 8) g + 1 - en < k; omega) (show (Y 8) ≤ 32768 by omega) (show (lnI x2 (Y 8) g) ≤ (Y 8) by omega) (show (Y 18) ≤ (lnI x2 (Y 8) g) by omega) (show many ≤ (lnI x2 (Y 8) g) by omega) (show many ≤ 8000 → (Y 13) = many by omega) (show 1 ≤ 1 by omega) (show en ≤ 1 by omega) (show (Y 7) ≤ 1000 by omega) (show (Y 6) ≤ 20000 by omega) (show en = 1 → (lnI x2 (Y 8) g) < (Y 8) by omega) hQ _ _ hP hD hS _ (lv_sub hl [1, 2, 3, 4, 0, 5, 6] rfl)
            · have c_95 := (nI_eq (a := x2 g) (b := 47) (by omega) (by omega)).mp c_95
              refine lv_iload hx hb dX1_next_143 (lv_at hl 0 rfl) ?_
              refine lv_bipush (v := nI 42) hx hb dX1_next_145 (by decide) ?_
              refine lv_icmp_ne (tgt := 183) hx hb dX1_next_147 (by decide) (fun c_332 => ?_) (fun c_332 => ?_)
              · have c_332 := mt (bI_eqN (k := 42) (by omega)).mpr c_332
                refine lv_iload hx hb dX1_next_183 (lv_at hl 1 rfl) ?_
                refine lv_bipush (v := nI 47) hx hb dX1_next_185 (by decide) ?_
                refine lv_icmp_ne (tgt := 228) hx hb dX1_next_187 (by decide) (fun c_333 => ?_) (fun c_333 => ?_)
                · have c_333 := mt (nI_eq (a := x2 g) (b := 47) (by omega) (by omega)).mpr c_333
                  refine lv_aload_n hx hb dX1_next_228 rfl (lv_at hl 2 rfl) ?_
                  refine lv_iload_n hx hb dX1_next_229 rfl (lv_at hl 3 rfl) ?_
                  refine lv_aload_n hx hb dX1_next_230 rfl (lv_at hl 2 rfl) ?_
                  refine va_get (D := (dC, dI)) (ci := 1) (v := .int (nI (Y 8))) (C := RX1) (T := TX1) (N := 20) hx hb hts inX1 hown hK hP 0 rfl rfl 8 (by decide) (hts _ fl_X1_107) (fun _ h9 => h9) rfl dX1_next_231 ?_
                  have hwH := hw.kept (H1 := H) (fun a h1 h2 => hS.2.1 a h1 (fun z => h2 (hAA a z)))
                  refine vp_callSi (va_Run.run (va_runV (As := [.int (nI g), .int (nI (Y 8))]) (rest := []) ⟨hx, hb, hml, hown, hts⟩ (r_tokenSizeAt l dC dI ct ad dK dV A0 Y x1 x2 x3 x4 x5 x6 x7 x8 x9 g (Y 8) (show g < Y 8 by omega) (show Y 8 ≤ 32768 by omega) h2) (cwV 2 hts (gV (fun _ h => h) ml_X1_129 im_X1_tokenSizeAt se_X1_tokenSizeAt ini_X1 co_X1_tokenSizeAt) rfl rfl rfl pd_X1_tokenSizeAt ⟨Nat.le_of_ble_eq_true rfl, Nat.le_of_ble_eq_true rfl⟩) (rm_preRW hK hP hwH) rfl rfl hl.1 rfl (lv_room (Nat.le_of_ble_eq_true rfl)) dX1_next_234 ⟨Nat.zero_le _, Nat.zero_le _⟩)) (fun r_334 (e_335 : r_334 = nI (ts1 x2 (Y 8) g)) => ?_)
                  subst e_335
                  have := ts1_b h2 (show g < Y 8 by omega)
                  refine lv_istore (lv' := [(9, .int (nI (ts1 x2 (Y 8) g))), (8, .int (bI (rb x2 (Y 8) (g + 1)))), (7, .int (nI (x2 g))), (0, .ref (ad 0)), (1, .int (nI g)), (2, .int (nI many)), (3, .int (nI much)), (4, .int (nI bf)), (5, .int (nI first)), (6, .int (nI en))]) hx hb dX1_next_237 hl (by decide) rfl (fun ls hl => ?_)
                  refine lv_iload hx hb dX1_next_239 (lv_at hl 0 rfl) ?_
                  refine lv_iconst (v := nI 1) hx hb dX1_next_241 (by decide) ?_
                  refine lv_icmp_ne (tgt := 292) hx hb dX1_next_242 (by decide) (fun c_336 => ?_) (fun c_336 => ?_)
                  · have c_336 := mt (nI_eq (a := ts1 x2 (Y 8) g) (b := 1) (by omega) (by omega)).mpr c_336
                    refine lv_iload_n hx hb dX1_next_292 rfl (lv_at hl 5 rfl) ?_
                    refine lv_if_ne (tgt := 305) hx hb dX1_next_293 (by decide) (fun c_337 => ?_) (fun c_337 => ?_)
                    · have c_337 := mt (nI_eq (a := many) (b := 0) (by omega) (by omega)).mpr c_337
                      refine lv_iload hx hb dX1_next_305 (lv_at hl 8 rfl) ?_
                      refine lv_istore (lv' := [(5, .int (nI first)), (9, .int (nI (ts1 x2 (Y 8) g))), (8, .int (bI (rb x2 (Y 8) (g + 1)))), (7, .int (nI (x2 g))), (0, .ref (ad 0)), (1, .int (nI g)), (2, .int (nI many)), (3, .int (nI much)), (4, .int (nI bf)), (6, .int (nI en))]) hx hb dX1_next_307 hl (by decide) rfl (fun ls hl => ?_)
                      refine lv_iload_n hx hb dX1_next_309 rfl (lv_at hl 6 rfl) ?_
                      refine lv_sipush (v := nI 8000) hx hb dX1_next_310 (by decide) ?_
                      refine lv_icmp_ne (tgt := 325) hx hb dX1_next_313 (by decide) (fun c_338 => ?_) (fun c_338 => ?_)
                      · have c_338 := mt (nI_eq (a := many) (b := 8000) (by omega) (by omega)).mpr c_338
                        refine lv_iload_n hx hb dX1_next_325 rfl (lv_at hl 7 rfl) ?_
                        refine lv_istore_n (lv' := [(3, .int (nI much)), (5, .int (nI first)), (9, .int (nI (ts1 x2 (Y 8) g))), (8, .int (bI (rb x2 (Y 8) (g + 1)))), (7, .int (nI (x2 g))), (0, .ref (ad 0)), (1, .int (nI g)), (2, .int (nI many)), (4, .int (nI bf)), (6, .int (nI en))]) hx hb dX1_next_326 rfl hl (by decide) rfl (fun ls hl => ?_)
                        refine lv_iload_n hx hb dX1_next_327 rfl (lv_at hl 7 rfl) ?_
                        refine lv_sipush (v := nI 8000) hx hb dX1_next_328 (by decide) ?_
                        refine lv_icmp_ge (tgt := 343) hx hb dX1_next_331 (by decide) (fun c_339 => ?_) (fun c_339 => ?_)
                        · have c_339 := (nI_leI (a := 8000) (b := many) (by omega) (by omega)).mp c_339
                          refine lv_iinc (v := nI (many + 1)) (lv' := [(2, .int (nI (many + 1))), (3, .int (nI much)), (5, .int (nI first)), (9, .int (nI (ts1 x2 (Y 8) g))), (8, .int (bI (rb x2 (Y 8) (g + 1)))), (7, .int (nI (x2 g))), (0, .ref (ad 0)), (1, .int (nI g)), (4, .int (nI bf)), (6, .int (nI en))]) hx hb dX1_next_343 hl (k := 7) rfl (by exact nI_add many 1) (by decide) rfl (fun ls hl => ?_)
                          refine lv_iconst (v := nI 0) hx hb dX1_next_346 (by decide) ?_
                          refine lv_istore (lv' := [(4, .int (nI 0)), (2, .int (nI (many + 1))), (3, .int (nI much)), (5, .int (nI first)), (9, .int (nI (ts1 x2 (Y 8) g))), (8, .int (bI (rb x2 (Y 8) (g + 1)))), (7, .int (nI (x2 g))), (0, .ref (ad 0)), (1, .int (nI g)), (6, .int (nI en))]) hx hb dX1_next_347 hl (by decide) rfl (fun ls hl => ?_)
                          refine lv_iload_n hx hb dX1_next_349 rfl (lv_at hl 8 rfl) ?_
                          refine lv_iload hx hb dX1_next_350 (lv_at hl 4 rfl) ?_
                          refine lv_iadd hx hb dX1_next_352 ?_
                          refine lv_topi (fun x_340 e_341 => ?_)
                          obtain rfl : x_340 = nI (g + (ts1 x2 (Y 8) g)) := e_341.trans (nI_add g (ts1 x2 (Y 8) g))
                          refine lv_istore_n (lv' := [(1, .int (nI (g + (ts1 x2 (Y 8) g)))), (4, .int (nI 0)), (2, .int (nI (many + 1))), (3, .int (nI much)), (5, .int (nI first)), (9, .int (nI (ts1 x2 (Y 8) g))), (8, .int (bI (rb x2 (Y 8) (g + 1)))), (7, .int (nI (x2 g))), (0, .ref (ad 0)), (6, .int (nI en))]) hx hb dX1_next_353 rfl hl (by decide) rfl (fun ls hl => ?_)
                          refine lv_goto (tgt := 65) hx hb dX1_next_354 (by decide) ?_
                          rw [rL, if_neg (by omega), if_neg (by omega), if_neg (by rw [c_94]; decide), if_neg (by omega), if_neg (by omega), if_neg (by omega), rQ, if_neg (by omega), rKY, if_neg (by omega), rK5, if_neg (by omega), rK6, if_neg (by omega), rK6, if_neg (by omega), rK6, if_neg (by omega), rK9, if_neg (by omega), if_neg (by omega), if_neg (by omega)] at hQ
                          exact ih Y x5 x6 x7 x8 x9 (g + (ts1 x2 (Y 8) g)) (many + 1) much 0 first en (by show Y 8 - (g + (ts1 x2 (Y 8) g)) + 1 - en < k; omega) (show (Y 8) ≤ 32768 by omega) (show (g + (ts1 x2 (Y 8) g)) ≤ (Y 8) by omega) (show (Y 18) ≤ (g + (ts1 x2 (Y 8) g)) by omega) (show (many + 1) ≤ (g + (ts1 x2 (Y 8) g)) by omega) (show (many + 1) ≤ 8000 → (Y 13) = (many + 1) by omega) (show 0 ≤ 1 by omega) (show en ≤ 1 by omega) (show (Y 7) ≤ 1000 by omega) (show (Y 6) ≤ 20000 by omega) (show en = 1 → (g + (ts1 x2 (Y 8) g)) < (Y 8) by omega) hQ _ _ hP hD hS _ (lv_sub hl [8, 0, 2, 3, 1, 4, 9] rfl)
                        · have c_339 := mt (nI_leI (a := 8000) (b := many) (by omega) (by omega)).mpr c_339
                          refine lv_aload_n hx hb dX1_next_334 rfl (lv_at hl 5 rfl) ?_
                          refine lv_iload_n hx hb dX1_next_335 rfl (lv_at hl 6 rfl) ?_
                          refine lv_iload hx hb dX1_next_336 (lv_at hl 2 rfl) ?_
                          refine lv_iload hx hb dX1_next_338 (lv_at hl 8 rfl) ?_
                          refine rm_callv (va_runV (As := [.int (nI g), .int (nI (ts1 x2 (Y 8) g)), .int (nI bf)]) (rest := []) ⟨hx, hb, hml, hown, hts⟩ (r_keep l dC dI ct ad H.size Y x1 x2 x3 x4 x5 x6 x7 x8 x9 g (ts1 x2 (Y 8) g) bf (show g < 32768 by omega) (show Y 18 + ts1 x2 (Y 8) g ≤ 32768 by omega) (show g + ts1 x2 (Y 8) g ≤ 32768 by omega) h2 (show Y 13 < 8000 by omega) (show bf ≤ 1 by omega)) (cwV 3 hts (gV (fun _ h => h) ml_X1_132 im_X1_keep se_X1_keep ini_X1 co_X1_keep) rfl rfl rfl pd_X1_keep ⟨Nat.le_of_ble_eq_true rfl, Nat.le_of_ble_eq_true rfl⟩) (rm_preS hK hP hD) rfl rfl hl.1 rfl (lv_room (Nat.le_of_ble_eq_true rfl)) dX1_next_340 ⟨Nat.zero_le _, Nat.zero_le _⟩) hD hS hA (fun u_343 H locs q_342 hP hD hS => ?_)
                          subst q_342
                          have hP : va_P (dC, dI) vwCl (rmW ct ad ((zu (zu Y 13 (Y 13 + 1)) 18 (Y 18 + (ts1 x2 (Y 8) g))), x1, x2, x3, x4, (nu x5 (Y 13) (Y 18)), (nu x6 (Y 13) (ts1 x2 (Y 8) g)), (nu x7 (Y 13) (x4 g)), (nu x8 (Y 13) bf), (cpG (fun i => x2 (g + i)) (Y 18) (ts1 x2 (Y 8) g) x9))) H := hP
                          have hD : va_D A (rmW ct ad ((zu (zu Y 13 (Y 13 + 1)) 18 (Y 18 + (ts1 x2 (Y 8) g))), x1, x2, x3, x4, (nu x5 (Y 13) (Y 18)), (nu x6 (Y 13) (ts1 x2 (Y 8) g)), (nu x7 (Y 13) (x4 g)), (nu x8 (Y 13) bf), (cpG (fun i => x2 (g + i)) (Y 18) (ts1 x2 (Y 8) g) x9))) := hD
                          refine lv_iinc (v := nI (many + 1)) (lv' := [(2, .int (nI (many + 1))), (3, .int (nI much)), (5, .int (nI first)), (9, .int (nI (ts1 x2 (Y 8) g))), (8, .int (bI (rb x2 (Y 8) (g + 1)))), (7, .int (nI (x2 g))), (0, .ref (ad 0)), (1, .int (nI g)), (4, .int (nI bf)), (6, .int (nI en))]) hx hb dX1_next_343 hl (k := 7) rfl (by exact nI_add many 1) (by decide) rfl (fun ls hl => ?_)
                          refine lv_iconst (v := nI 0) hx hb dX1_next_346 (by decide) ?_
                          refine lv_istore (lv' := [(4, .int (nI 0)), (2, .int (nI (many + 1))), (3, .int (nI much)), (5, .int (nI first)), (9, .int (nI (ts1 x2 (Y 8) g))), (8, .int (bI (rb x2 (Y 8) (g + 1)))), (7, .int (nI (x2 g))), (0, .ref (ad 0)), (1, .int (nI g)), (6, .int (nI en))]) hx hb dX1_next_347 hl (by decide) rfl (fun ls hl => ?_)
                          refine lv_iload_n hx hb dX1_next_349 rfl (lv_at hl 8 rfl) ?_
                          refine lv_iload hx hb dX1_next_350 (lv_at hl 4 rfl) ?_
                          refine lv_iadd hx hb dX1_next_352 ?_
                          refine lv_topi (fun x_345 e_346 => ?_)
                          obtain rfl : x_345 = nI (g + (ts1 x2 (Y 8) g)) := e_346.trans (nI_add g (ts1 x2 (Y 8) g))
                          refine lv_istore_n (lv' := [(1, .int (nI (g + (ts1 x2 (Y 8) g)))), (4, .int (nI 0)), (2, .int (nI (many + 1))), (3, .int (nI much)), (5, .int (nI first)), (9, .int (nI (ts1 x2 (Y 8) g))), (8, .int (bI (rb x2 (Y 8) (g + 1)))), (7, .int (nI (x2 g))), (0, .ref (ad 0)), (6, .int (nI en))]) hx hb dX1_next_353 rfl hl (by decide) rfl (fun ls hl => ?_)
                          refine lv_goto (tgt := 65) hx hb dX1_next_354 (by decide) ?_
                          rw [rL, if_neg (by omega), if_neg (by omega), if_neg (by rw [c_94]; decide), if_neg (by omega), if_neg (by omega), if_neg (by omega), rQ, if_neg (by omega), rKY, if_pos (by omega), rK5, if_pos (by omega), rK6, if_pos (by omega), rK6, if_pos (by omega), rK6, if_pos (by omega), rK9, if_pos (by omega), if_neg (by omega), if_neg (by omega)] at hQ
                          exact ih (zu (zu Y 13 (Y 13 + 1)) 18 (Y 18 + (ts1 x2 (Y 8) g))) ((nu x5 (Y 13) (Y 18))) ((nu x6 (Y 13) (ts1 x2 (Y 8) g))) ((nu x7 (Y 13) (x4 g))) ((nu x8 (Y 13) bf)) ((cpG (fun i => x2 (g + i)) (Y 18) (ts1 x2 (Y 8) g) x9)) (g + (ts1 x2 (Y 8) g)) (many + 1) much 0 first en (by show Y 8 - (g + (ts1 x2 (Y 8) g)) + 1 - en < k; omega) (show (Y 8) ≤ 32768 by omega) (show (g + (ts1 x2 (Y 8) g)) ≤ (Y 8) by omega) (show (Y 18 + (ts1 x2 (Y 8) g)) ≤ (g + (ts1 x2 (Y 8) g)) by omega) (show (many + 1) ≤ (g + (ts1 x2 (Y 8) g)) by omega) (show (many + 1) ≤ 8000 → (Y 13 + 1) = (many + 1) by omega) (show 0 ≤ 1 by omega) (show en ≤ 1 by omega) (show (Y 7) ≤ 1000 by omega) (show (Y 6) ≤ 20000 by omega) (show en = 1 → (g + (ts1 x2 (Y 8) g)) < (Y 8) by omega) hQ _ _ hP hD hS _ (lv_sub hl [8, 0, 2, 3, 1, 4, 9] rfl)
                      · have c_338 := (nI_eq (a := many) (b := 8000) (by omega) (by omega)).mp c_338
                        refine lv_aload_n hx hb dX1_next_316 rfl (lv_at hl 4 rfl) ?_
                        refine va_get (D := (dC, dI)) (ci := 1) (v := .ref (ad 4)) (C := RX1) (T := TX1) (N := 20) hx hb hts inX1 hown hK hP 0 rfl rfl 11 (by decide) (hts _ fl_X1_21) (fun _ h9 => h9) rfl dX1_next_317 ?_
                        refine lv_iload_n hx hb dX1_next_320 rfl (lv_at hl 5 rfl) ?_
                        refine va_iald hx hb hK hP 4 1 rfl rfl (vp_in_nI (by omega) (by decide)) dX1_next_321 ?_
                        refine lv_topi (fun x_347 e_348 => ?_)
                        obtain rfl : x_347 = nI (x4 g) := e_348.trans (by rw [nI_clamp (by omega)])
                        refine lv_goto (tgt := 326) hx hb dX1_next_322 (by decide) ?_
                        refine lv_istore_n (lv' := [(3, .int (nI (x4 g))), (5, .int (nI first)), (9, .int (nI (ts1 x2 (Y 8) g))), (8, .int (bI (rb x2 (Y 8) (g + 1)))), (7, .int (nI (x2 g))), (0, .ref (ad 0)), (1, .int (nI g)), (2, .int (nI many)), (4, .int (nI bf)), (6, .int (nI en))]) hx hb dX1_next_326 rfl hl (by decide) rfl (fun ls hl => ?_)
                        refine lv_iload_n hx hb dX1_next_327 rfl (lv_at hl 7 rfl) ?_
                        refine lv_sipush (v := nI 8000) hx hb dX1_next_328 (by decide) ?_
                        refine lv_icmp_ge (tgt := 343) hx hb dX1_next_331 (by decide) (fun c_349 => ?_) (fun c_349 => ?_)
                        · have c_349 := (nI_leI (a := 8000) (b := many) (by omega) (by omega)).mp c_349
                          refine lv_iinc (v := nI (many + 1)) (lv' := [(2, .int (nI (many + 1))), (3, .int (nI (x4 g))), (5, .int (nI first)), (9, .int (nI (ts1 x2 (Y 8) g))), (8, .int (bI (rb x2 (Y 8) (g + 1)))), (7, .int (nI (x2 g))), (0, .ref (ad 0)), (1, .int (nI g)), (4, .int (nI bf)), (6, .int (nI en))]) hx hb dX1_next_343 hl (k := 7) rfl (by exact nI_add many 1) (by decide) rfl (fun ls hl => ?_)
                          refine lv_iconst (v := nI 0) hx hb dX1_next_346 (by decide) ?_
                          refine lv_istore (lv' := [(4, .int (nI 0)), (2, .int (nI (many + 1))), (3, .int (nI (x4 g))), (5, .int (nI first)), (9, .int (nI (ts1 x2 (Y 8) g))), (8, .int (bI (rb x2 (Y 8) (g + 1)))), (7, .int (nI (x2 g))), (0, .ref (ad 0)), (1, .int (nI g)), (6, .int (nI en))]) hx hb dX1_next_347 hl (by decide) rfl (fun ls hl => ?_)
                          refine lv_iload_n hx hb dX1_next_349 rfl (lv_at hl 8 rfl) ?_
                          refine lv_iload hx hb dX1_next_350 (lv_at hl 4 rfl) ?_
                          refine lv_iadd hx hb dX1_next_352 ?_
                          refine lv_topi (fun x_350 e_351 => ?_)
                          obtain rfl : x_350 = nI (g + (ts1 x2 (Y 8) g)) := e_351.trans (nI_add g (ts1 x2 (Y 8) g))
                          refine lv_istore_n (lv' := [(1, .int (nI (g + (ts1 x2 (Y 8) g)))), (4, .int (nI 0)), (2, .int (nI (many + 1))), (3, .int (nI (x4 g))), (5, .int (nI first)), (9, .int (nI (ts1 x2 (Y 8) g))), (8, .int (bI (rb x2 (Y 8) (g + 1)))), (7, .int (nI (x2 g))), (0, .ref (ad 0)), (6, .int (nI en))]) hx hb dX1_next_353 rfl hl (by decide) rfl (fun ls hl => ?_)
                          refine lv_goto (tgt := 65) hx hb dX1_next_354 (by decide) ?_
                          rw [rL, if_neg (by omega), if_neg (by omega), if_neg (by rw [c_94]; decide), if_neg (by omega), if_neg (by omega), if_neg (by omega), rQ, if_neg (by omega), rKY, if_neg (by omega), rK5, if_neg (by omega), rK6, if_neg (by omega), rK6, if_neg (by omega), rK6, if_neg (by omega), rK9, if_neg (by omega), if_pos (by omega), if_neg (by omega)] at hQ
                          exact ih Y x5 x6 x7 x8 x9 (g + (ts1 x2 (Y 8) g)) (many + 1) (x4 g) 0 first en (by show Y 8 - (g + (ts1 x2 (Y 8) g)) + 1 - en < k; omega) (show (Y 8) ≤ 32768 by omega) (show (g + (ts1 x2 (Y 8) g)) ≤ (Y 8) by omega) (show (Y 18) ≤ (g + (ts1 x2 (Y 8) g)) by omega) (show (many + 1) ≤ (g + (ts1 x2 (Y 8) g)) by omega) (show (many + 1) ≤ 8000 → (Y 13) = (many + 1) by omega) (show 0 ≤ 1 by omega) (show en ≤ 1 by omega) (show (Y 7) ≤ 1000 by omega) (show (Y 6) ≤ 20000 by omega) (show en = 1 → (g + (ts1 x2 (Y 8) g)) < (Y 8) by omega) hQ _ _ hP hD hS _ (lv_sub hl [8, 0, 2, 3, 1, 4, 9] rfl)
                        · have c_349 := mt (nI_leI (a := 8000) (b := many) (by omega) (by omega)).mpr c_349
                          omega
                    · have c_337 := (nI_eq (a := many) (b := 0) (by omega) (by omega)).mp c_337
                      refine lv_aload_n hx hb dX1_next_296 rfl (lv_at hl 3 rfl) ?_
                      refine va_get (D := (dC, dI)) (ci := 1) (v := .ref (ad 4)) (C := RX1) (T := TX1) (N := 20) hx hb hts inX1 hown hK hP 0 rfl rfl 11 (by decide) (hts _ fl_X1_21) (fun _ h9 => h9) rfl dX1_next_297 ?_
                      refine lv_iload_n hx hb dX1_next_300 rfl (lv_at hl 4 rfl) ?_
                      refine va_iald hx hb hK hP 4 1 rfl rfl (vp_in_nI (by omega) (by decide)) dX1_next_301 ?_
                      refine lv_topi (fun x_352 e_353 => ?_)
                      obtain rfl : x_352 = nI (x4 g) := e_353.trans (by rw [nI_clamp (by omega)])
                      refine lv_goto (tgt := 307) hx hb dX1_next_302 (by decide) ?_
                      refine lv_istore (lv' := [(5, .int (nI (x4 g))), (9, .int (nI (ts1 x2 (Y 8) g))), (8, .int (bI (rb x2 (Y 8) (g + 1)))), (7, .int (nI (x2 g))), (0, .ref (ad 0)), (1, .int (nI g)), (2, .int (nI many)), (3, .int (nI much)), (4, .int (nI bf)), (6, .int (nI en))]) hx hb dX1_next_307 hl (by decide) rfl (fun ls hl => ?_)
                      refine lv_iload_n hx hb dX1_next_309 rfl (lv_at hl 6 rfl) ?_
                      refine lv_sipush (v := nI 8000) hx hb dX1_next_310 (by decide) ?_
                      refine lv_icmp_ne (tgt := 325) hx hb dX1_next_313 (by decide) (fun c_354 => ?_) (fun c_354 => ?_)
                      · have c_354 := mt (nI_eq (a := many) (b := 8000) (by omega) (by omega)).mpr c_354
                        refine lv_iload_n hx hb dX1_next_325 rfl (lv_at hl 7 rfl) ?_
                        refine lv_istore_n (lv' := [(3, .int (nI much)), (5, .int (nI (x4 g))), (9, .int (nI (ts1 x2 (Y 8) g))), (8, .int (bI (rb x2 (Y 8) (g + 1)))), (7, .int (nI (x2 g))), (0, .ref (ad 0)), (1, .int (nI g)), (2, .int (nI many)), (4, .int (nI bf)), (6, .int (nI en))]) hx hb dX1_next_326 rfl hl (by decide) rfl (fun ls hl => ?_)
                        refine lv_iload_n hx hb dX1_next_327 rfl (lv_at hl 7 rfl) ?_
                        refine lv_sipush (v := nI 8000) hx hb dX1_next_328 (by decide) ?_
                        refine lv_icmp_ge (tgt := 343) hx hb dX1_next_331 (by decide) (fun c_355 => ?_) (fun c_355 => ?_)
                        · have c_355 := (nI_leI (a := 8000) (b := many) (by omega) (by omega)).mp c_355
                          omega
                        · have c_355 := mt (nI_leI (a := 8000) (b := many) (by omega) (by omega)).mpr c_355
                          refine lv_aload_n hx hb dX1_next_334 rfl (lv_at hl 5 rfl) ?_
                          refine lv_iload_n hx hb dX1_next_335 rfl (lv_at hl 6 rfl) ?_
                          refine lv_iload hx hb dX1_next_336 (lv_at hl 2 rfl) ?_
                          refine lv_iload hx hb dX1_next_338 (lv_at hl 8 rfl) ?_
                          refine rm_callv (va_runV (As := [.int (nI g), .int (nI (ts1 x2 (Y 8) g)), .int (nI bf)]) (rest := []) ⟨hx, hb, hml, hown, hts⟩ (r_keep l dC dI ct ad H.size Y x1 x2 x3 x4 x5 x6 x7 x8 x9 g (ts1 x2 (Y 8) g) bf (show g < 32768 by omega) (show Y 18 + ts1 x2 (Y 8) g ≤ 32768 by omega) (show g + ts1 x2 (Y 8) g ≤ 32768 by omega) h2 (show Y 13 < 8000 by omega) (show bf ≤ 1 by omega)) (cwV 3 hts (gV (fun _ h => h) ml_X1_132 im_X1_keep se_X1_keep ini_X1 co_X1_keep) rfl rfl rfl pd_X1_keep ⟨Nat.le_of_ble_eq_true rfl, Nat.le_of_ble_eq_true rfl⟩) (rm_preS hK hP hD) rfl rfl hl.1 rfl (lv_room (Nat.le_of_ble_eq_true rfl)) dX1_next_340 ⟨Nat.zero_le _, Nat.zero_le _⟩) hD hS hA (fun u_357 H locs q_356 hP hD hS => ?_)
                          subst q_356
                          have hP : va_P (dC, dI) vwCl (rmW ct ad ((zu (zu Y 13 (Y 13 + 1)) 18 (Y 18 + (ts1 x2 (Y 8) g))), x1, x2, x3, x4, (nu x5 (Y 13) (Y 18)), (nu x6 (Y 13) (ts1 x2 (Y 8) g)), (nu x7 (Y 13) (x4 g)), (nu x8 (Y 13) bf), (cpG (fun i => x2 (g + i)) (Y 18) (ts1 x2 (Y 8) g) x9))) H := hP
                          have hD : va_D A (rmW ct ad ((zu (zu Y 13 (Y 13 + 1)) 18 (Y 18 + (ts1 x2 (Y 8) g))), x1, x2, x3, x4, (nu x5 (Y 13) (Y 18)), (nu x6 (Y 13) (ts1 x2 (Y 8) g)), (nu x7 (Y 13) (x4 g)), (nu x8 (Y 13) bf), (cpG (fun i => x2 (g + i)) (Y 18) (ts1 x2 (Y 8) g) x9))) := hD
                          refine lv_iinc (v := nI (many + 1)) (lv' := [(2, .int (nI (many + 1))), (3, .int (nI much)), (5, .int (nI (x4 g))), (9, .int (nI (ts1 x2 (Y 8) g))), (8, .int (bI (rb x2 (Y 8) (g + 1)))), (7, .int (nI (x2 g))), (0, .ref (ad 0)), (1, .int (nI g)), (4, .int (nI bf)), (6, .int (nI en))]) hx hb dX1_next_343 hl (k := 7) rfl (by exact nI_add many 1) (by decide) rfl (fun ls hl => ?_)
                          refine lv_iconst (v := nI 0) hx hb dX1_next_346 (by decide) ?_
                          refine lv_istore (lv' := [(4, .int (nI 0)), (2, .int (nI (many + 1))), (3, .int (nI much)), (5, .int (nI (x4 g))), (9, .int (nI (ts1 x2 (Y 8) g))), (8, .int (bI (rb x2 (Y 8) (g + 1)))), (7, .int (nI (x2 g))), (0, .ref (ad 0)), (1, .int (nI g)), (6, .int (nI en))]) hx hb dX1_next_347 hl (by decide) rfl (fun ls hl => ?_)
                          refine lv_iload_n hx hb dX1_next_349 rfl (lv_at hl 8 rfl) ?_
                          refine lv_iload hx hb dX1_next_350 (lv_at hl 4 rfl) ?_
                          refine lv_iadd hx hb dX1_next_352 ?_
                          refine lv_topi (fun x_359 e_360 => ?_)
                          obtain rfl : x_359 = nI (g + (ts1 x2 (Y 8) g)) := e_360.trans (nI_add g (ts1 x2 (Y 8) g))
                          refine lv_istore_n (lv' := [(1, .int (nI (g + (ts1 x2 (Y 8) g)))), (4, .int (nI 0)), (2, .int (nI (many + 1))), (3, .int (nI much)), (5, .int (nI (x4 g))), (9, .int (nI (ts1 x2 (Y 8) g))), (8, .int (bI (rb x2 (Y 8) (g + 1)))), (7, .int (nI (x2 g))), (0, .ref (ad 0)), (6, .int (nI en))]) hx hb dX1_next_353 rfl hl (by decide) rfl (fun ls hl => ?_)
                          refine lv_goto (tgt := 65) hx hb dX1_next_354 (by decide) ?_
                          rw [rL, if_neg (by omega), if_neg (by omega), if_neg (by rw [c_94]; decide), if_neg (by omega), if_neg (by omega), if_neg (by omega), rQ, if_neg (by omega), rKY, if_pos (by omega), rK5, if_pos (by omega), rK6, if_pos (by omega), rK6, if_pos (by omega), rK6, if_pos (by omega), rK9, if_pos (by omega), if_neg (by omega), if_pos (by omega)] at hQ
                          exact ih (zu (zu Y 13 (Y 13 + 1)) 18 (Y 18 + (ts1 x2 (Y 8) g))) ((nu x5 (Y 13) (Y 18))) ((nu x6 (Y 13) (ts1 x2 (Y 8) g))) ((nu x7 (Y 13) (x4 g))) ((nu x8 (Y 13) bf)) ((cpG (fun i => x2 (g + i)) (Y 18) (ts1 x2 (Y 8) g) x9)) (g + (ts1 x2 (Y 8) g)) (many + 1) much 0 (x4 g) en (by show Y 8 - (g + (ts1 x2 (Y 8) g)) + 1 - en < k; omega) (show (Y 8) ≤ 32768 by omega) (show (g + (ts1 x2 (Y 8) g)) ≤ (Y 8) by omega) (show (Y 18 + (ts1 x2 (Y 8) g)) ≤ (g + (ts1 x2 (Y 8) g)) by omega) (show (many + 1) ≤ (g + (ts1 x2 (Y 8) g)) by omega) (show (many + 1) ≤ 8000 → (Y 13 + 1) = (many + 1) by omega) (show 0 ≤ 1 by omega) (show en ≤ 1 by omega) (show (Y 7) ≤ 1000 by omega) (show (Y 6) ≤ 20000 by omega) (show en = 1 → (g + (ts1 x2 (Y 8) g)) < (Y 8) by omega) hQ _ _ hP hD hS _ (lv_sub hl [8, 0, 2, 3, 1, 4, 9] rfl)
                      · have c_354 := (nI_eq (a := many) (b := 8000) (by omega) (by omega)).mp c_354
                        omega
                  · have c_336 := (nI_eq (a := ts1 x2 (Y 8) g) (b := 1) (by omega) (by omega)).mp c_336
                    refine lv_iload hx hb dX1_next_245 (lv_at hl 2 rfl) ?_
                    refine lv_bipush (v := nI 34) hx hb dX1_next_247 (by decide) ?_
                    refine lv_icmp_eq (tgt := 259) hx hb dX1_next_249 (by decide) (fun c_361 => ?_) (fun c_361 => ?_)
                    · have c_361 := (nI_eq (a := x2 g) (b := 34) (by omega) (by omega)).mp c_361
                      refine lv_aload_n hx hb dX1_next_259 rfl (lv_at hl 3 rfl) ?_
                      refine lv_dup hx hb dX1_next_260 rfl ?_
                      refine va_get (D := (dC, dI)) (ci := 1) (v := .int (nI (Y 7))) (C := RX1) (T := TX1) (N := 20) hx hb hts inX1 hown hK hP 0 rfl rfl 7 (by decide) (hts _ fl_X1_63) (fun _ h9 => h9) rfl dX1_next_261 ?_
                      refine lv_iconst (v := nI 1) hx hb dX1_next_264 (by decide) ?_
                      refine lv_iadd hx hb dX1_next_265 ?_
                      refine lv_topi (fun x_362 e_363 => ?_)
                      obtain rfl : x_362 = nI (Y 7 + 1) := e_363.trans (nI_add (Y 7) 1)
                      refine va_put (D := (dC, dI)) (ci := 1) (v := .int (nI (Y 7 + 1))) (ty := .int) (C := RX1) (T := TX1) (N := 20) hx hb hts inX1 tyX1 okX1 nmX1 hown hK hP hD hS 0 rfl rfl 7 (by decide) (hts _ fl_X1_63) (fun _ h9 => h9) rfl (by decide +kernel) rfl rfl (Nat.le_of_ble_eq_true rfl) dX1_next_266 (fun H locs hP hD hS => ?_)
                      have hP : va_P (dC, dI) vwCl (rmW ct ad ((zu Y 7 (Y 7 + 1)), x1, x2, x3, x4, x5, x6, x7, x8, x9)) H := hP
                      have hD : va_D A (rmW ct ad ((zu Y 7 (Y 7 + 1)), x1, x2, x3, x4, x5, x6, x7, x8, x9)) := hD
                      refine lv_aload_n hx hb dX1_next_269 rfl (lv_at hl 3 rfl) ?_
                      refine va_get (D := (dC, dI)) (ci := 1) (v := .int (nI (Y 7 + 1))) (C := RX1) (T := TX1) (N := 20) hx hb hts inX1 hown hK hP 0 rfl rfl 7 (by decide) (hts _ fl_X1_63) (fun _ h9 => h9) rfl dX1_next_270 ?_
                      refine lv_sipush (v := nI 1000) hx hb dX1_next_273 (by decide) ?_
                      refine lv_icmp_le (tgt := 292) hx hb dX1_next_276 (by decide) (fun c_364 => ?_) (fun c_364 => ?_)
                      · have c_364 := (nI_leI (a := Y 7 + 1) (b := 1000) (by omega) (by omega)).mp c_364
                        refine lv_iload_n hx hb dX1_next_292 rfl (lv_at hl 5 rfl) ?_
                        refine lv_if_ne (tgt := 305) hx hb dX1_next_293 (by decide) (fun c_365 => ?_) (fun c_365 => ?_)
                        · have c_365 := mt (nI_eq (a := many) (b := 0) (by omega) (by omega)).mpr c_365
                          refine lv_iload hx hb dX1_next_305 (lv_at hl 8 rfl) ?_
                          refine lv_istore (lv' := [(5, .int (nI first)), (9, .int (nI (ts1 x2 (Y 8) g))), (8, .int (bI (rb x2 (Y 8) (g + 1)))), (7, .int (nI (x2 g))), (0, .ref (ad 0)), (1, .int (nI g)), (2, .int (nI many)), (3, .int (nI much)), (4, .int (nI bf)), (6, .int (nI en))]) hx hb dX1_next_307 hl (by decide) rfl (fun ls hl => ?_)
                          refine lv_iload_n hx hb dX1_next_309 rfl (lv_at hl 6 rfl) ?_
                          refine lv_sipush (v := nI 8000) hx hb dX1_next_310 (by decide) ?_
                          refine lv_icmp_ne (tgt := 325) hx hb dX1_next_313 (by decide) (fun c_366 => ?_) (fun c_366 => ?_)
                          · have c_366 := mt (nI_eq (a := many) (b := 8000) (by omega) (by omega)).mpr c_366
                            refine lv_iload_n hx hb dX1_next_325 rfl (lv_at hl 7 rfl) ?_
                            refine lv_istore_n (lv' := [(3, .int (nI much)), (5, .int (nI first)), (9, .int (nI (ts1 x2 (Y 8) g))), (8, .int (bI (rb x2 (Y 8) (g + 1)))), (7, .int (nI (x2 g))), (0, .ref (ad 0)), (1, .int (nI g)), (2, .int (nI many)), (4, .int (nI bf)), (6, .int (nI en))]) hx hb dX1_next_326 rfl hl (by decide) rfl (fun ls hl => ?_)
                            refine lv_iload_n hx hb dX1_next_327 rfl (lv_at hl 7 rfl) ?_
                            refine lv_sipush (v := nI 8000) hx hb dX1_next_328 (by decide) ?_
                            refine lv_icmp_ge (tgt := 343) hx hb dX1_next_331 (by decide) (fun c_367 => ?_) (fun c_367 => ?_)
                            · have c_367 := (nI_leI (a := 8000) (b := many) (by omega) (by omega)).mp c_367
                              refine lv_iinc (v := nI (many + 1)) (lv' := [(2, .int (nI (many + 1))), (3, .int (nI much)), (5, .int (nI first)), (9, .int (nI (ts1 x2 (Y 8) g))), (8, .int (bI (rb x2 (Y 8) (g + 1)))), (7, .int (nI (x2 g))), (0, .ref (ad 0)), (1, .int (nI g)), (4, .int (nI bf)), (6, .int (nI en))]) hx hb dX1_next_343 hl (k := 7) rfl (by exact nI_add many 1) (by decide) rfl (fun ls hl => ?_)
                              refine lv_iconst (v := nI 0) hx hb dX1_next_346 (by decide) ?_
                              refine lv_istore (lv' := [(4, .int (nI 0)), (2, .int (nI (many + 1))), (3, .int (nI much)), (5, .int (nI first)), (9, .int (nI (ts1 x2 (Y 8) g))), (8, .int (bI (rb x2 (Y 8) (g + 1)))), (7, .int (nI (x2 g))), (0, .ref (ad 0)), (1, .int (nI g)), (6, .int (nI en))]) hx hb dX1_next_347 hl (by decide) rfl (fun ls hl => ?_)
                              refine lv_iload_n hx hb dX1_next_349 rfl (lv_at hl 8 rfl) ?_
                              refine lv_iload hx hb dX1_next_350 (lv_at hl 4 rfl) ?_
                              refine lv_iadd hx hb dX1_next_352 ?_
                              refine lv_topi (fun x_368 e_369 => ?_)
                              obtain rfl : x_368 = nI (g + (ts1 x2 (Y 8) g)) := e_369.trans (nI_add g (ts1 x2 (Y 8) g))
                              refine lv_istore_n (lv' := [(1, .int (nI (g + (ts1 x2 (Y 8) g)))), (4, .int (nI 0)), (2, .int (nI (many + 1))), (3, .int (nI much)), (5, .int (nI first)), (9, .int (nI (ts1 x2 (Y 8) g))), (8, .int (bI (rb x2 (Y 8) (g + 1)))), (7, .int (nI (x2 g))), (0, .ref (ad 0)), (6, .int (nI en))]) hx hb dX1_next_353 rfl hl (by decide) rfl (fun ls hl => ?_)
                              refine lv_goto (tgt := 65) hx hb dX1_next_354 (by decide) ?_
                              rw [rL, if_neg (by omega), if_neg (by omega), if_neg (by rw [c_94]; decide), if_neg (by omega), if_neg (by omega), if_neg (by omega), rQ, if_pos (by omega), rKY, if_neg (by omega), rK5, if_neg (by omega), rK6, if_neg (by omega), rK6, if_neg (by omega), rK6, if_neg (by omega), rK9, if_neg (by omega), if_neg (by omega), if_neg (by omega)] at hQ
                              exact ih (zu Y 7 (Y 7 + 1)) x5 x6 x7 x8 x9 (g + (ts1 x2 (Y 8) g)) (many + 1) much 0 first en (by show Y 8 - (g + (ts1 x2 (Y 8) g)) + 1 - en < k; omega) (show (Y 8) ≤ 32768 by omega) (show (g + (ts1 x2 (Y 8) g)) ≤ (Y 8) by omega) (show (Y 18) ≤ (g + (ts1 x2 (Y 8) g)) by omega) (show (many + 1) ≤ (g + (ts1 x2 (Y 8) g)) by omega) (show (many + 1) ≤ 8000 → (Y 13) = (many + 1) by omega) (show 0 ≤ 1 by omega) (show en ≤ 1 by omega) (show (Y 7 + 1) ≤ 1000 by omega) (show (Y 6) ≤ 20000 by omega) (show en = 1 → (g + (ts1 x2 (Y 8) g)) < (Y 8) by omega) hQ _ _ hP hD hS _ (lv_sub hl [8, 0, 2, 3, 1, 4, 9] rfl)
                            · have c_367 := mt (nI_leI (a := 8000) (b := many) (by omega) (by omega)).mpr c_367
                              refine lv_aload_n hx hb dX1_next_334 rfl (lv_at hl 5 rfl) ?_
                              refine lv_iload_n hx hb dX1_next_335 rfl (lv_at hl 6 rfl) ?_
                              refine lv_iload hx hb dX1_next_336 (lv_at hl 2 rfl) ?_
                              refine lv_iload hx hb dX1_next_338 (lv_at hl 8 rfl) ?_
                              refine rm_callv (va_runV (As := [.int (nI g), .int (nI (ts1 x2 (Y 8) g)), .int (nI bf)]) (rest := []) ⟨hx, hb, hml, hown, hts⟩ (r_keep l dC dI ct ad H.size (zu Y 7 (Y 7 + 1)) x1 x2 x3 x4 x5 x6 x7 x8 x9 g (ts1 x2 (Y 8) g) bf (show g < 32768 by omega) (show Y 18 + ts1 x2 (Y 8) g ≤ 32768 by omega) (show g + ts1 x2 (Y 8) g ≤ 32768 by omega) h2 (show Y 13 < 8000 by omega) (show bf ≤ 1 by omega)) (cwV 3 hts (gV (fun _ h => h) ml_X1_132 im_X1_keep se_X1_keep ini_X1 co_X1_keep) rfl rfl rfl pd_X1_keep ⟨Nat.le_of_ble_eq_true rfl, Nat.le_of_ble_eq_true rfl⟩) (rm_preS hK hP hD) rfl rfl hl.1 rfl (lv_room (Nat.le_of_ble_eq_true rfl)) dX1_next_340 ⟨Nat.zero_le _, Nat.zero_le _⟩) hD hS hA (fun u_371 H locs q_370 hP hD hS => ?_)
                              subst q_370
                              have hP : va_P (dC, dI) vwCl (rmW ct ad ((zu (zu (zu Y 7 (Y 7 + 1)) 13 (Y 13 + 1)) 18 (Y 18 + (ts1 x2 (Y 8) g))), x1, x2, x3, x4, (nu x5 (Y 13) (Y 18)), (nu x6 (Y 13) (ts1 x2 (Y 8) g)), (nu x7 (Y 13) (x4 g)), (nu x8 (Y 13) bf), (cpG (fun i => x2 (g + i)) (Y 18) (ts1 x2 (Y 8) g) x9))) H := hP
                              have hD : va_D A (rmW ct ad ((zu (zu (zu Y 7 (Y 7 + 1)) 13 (Y 13 + 1)) 18 (Y 18 + (ts1 x2 (Y 8) g))), x1, x2, x3, x4, (nu x5 (Y 13) (Y 18)), (nu x6 (Y 13) (ts1 x2 (Y 8) g)), (nu x7 (Y 13) (x4 g)), (nu x8 (Y 13) bf), (cpG (fun i => x2 (g + i)) (Y 18) (ts1 x2 (Y 8) g) x9))) := hD
                              refine lv_iinc (v := nI (many + 1)) (lv' := [(2, .int (nI (many + 1))), (3, .int (nI much)), (5, .int (nI first)), (9, .int (nI (ts1 x2 (Y 8) g))), (8, .int (bI (rb x2 (Y 8) (g + 1)))), (7, .int (nI (x2 g))), (0, .ref (ad 0)), (1, .int (nI g)), (4, .int (nI bf)), (6, .int (nI en))]) hx hb dX1_next_343 hl (k := 7) rfl (by exact nI_add many 1) (by decide) rfl (fun ls hl => ?_)
                              refine lv_iconst (v := nI 0) hx hb dX1_next_346 (by decide) ?_
                              refine lv_istore (lv' := [(4, .int (nI 0)), (2, .int (nI (many + 1))), (3, .int (nI much)), (5, .int (nI first)), (9, .int (nI (ts1 x2 (Y 8) g))), (8, .int (bI (rb x2 (Y 8) (g + 1)))), (7, .int (nI (x2 g))), (0, .ref (ad 0)), (1, .int (nI g)), (6, .int (nI en))]) hx hb dX1_next_347 hl (by decide) rfl (fun ls hl => ?_)
                              refine lv_iload_n hx hb dX1_next_349 rfl (lv_at hl 8 rfl) ?_
                              refine lv_iload hx hb dX1_next_350 (lv_at hl 4 rfl) ?_
                              refine lv_iadd hx hb dX1_next_352 ?_
                              refine lv_topi (fun x_373 e_374 => ?_)
                              obtain rfl : x_373 = nI (g + (ts1 x2 (Y 8) g)) := e_374.trans (nI_add g (ts1 x2 (Y 8) g))
                              refine lv_istore_n (lv' := [(1, .int (nI (g + (ts1 x2 (Y 8) g)))), (4, .int (nI 0)), (2, .int (nI (many + 1))), (3, .int (nI much)), (5, .int (nI first)), (9, .int (nI (ts1 x2 (Y 8) g))), (8, .int (bI (rb x2 (Y 8) (g + 1)))), (7, .int (nI (x2 g))), (0, .ref (ad 0)), (6, .int (nI en))]) hx hb dX1_next_353 rfl hl (by decide) rfl (fun ls hl => ?_)
                              refine lv_goto (tgt := 65) hx hb dX1_next_354 (by decide) ?_
                              rw [rL, if_neg (by omega), if_neg (by omega), if_neg (by rw [c_94]; decide), if_neg (by omega), if_neg (by omega), if_neg (by omega), rQ, if_pos (by omega), rKY, if_pos (by omega), rK5, if_pos (by omega), rK6, if_pos (by omega), rK6, if_pos (by omega), rK6, if_pos (by omega), rK9, if_pos (by omega), if_neg (by omega), if_neg (by omega)] at hQ
                              exact ih (zu (zu (zu Y 7 (Y 7 + 1)) 13 (Y 13 + 1)) 18 (Y 18 + (ts1 x2 (Y 8) g))) ((nu x5 (Y 13) (Y 18))) ((nu x6 (Y 13) (ts1 x2 (Y 8) g))) ((nu x7 (Y 13) (x4 g))) ((nu x8 (Y 13) bf)) ((cpG (fun i => x2 (g + i)) (Y 18) (ts1 x2 (Y 8) g) x9)) (g + (ts1 x2 (Y 8) g)) (many + 1) much 0 first en (by show Y 8 - (g + (ts1 x2 (Y 8) g)) + 1 - en < k; omega) (show (Y 8) ≤ 32768 by omega) (show (g + (ts1 x2 (Y 8) g)) ≤ (Y 8) by omega) (show (Y 18 + (ts1 x2 (Y 8) g)) ≤ (g + (ts1 x2 (Y 8) g)) by omega) (show (many + 1) ≤ (g + (ts1 x2 (Y 8) g)) by omega) (show (many + 1) ≤ 8000 → (Y 13 + 1) = (many + 1) by omega) (show 0 ≤ 1 by omega) (show en ≤ 1 by omega) (show (Y 7 + 1) ≤ 1000 by omega) (show (Y 6) ≤ 20000 by omega) (show en = 1 → (g + (ts1 x2 (Y 8) g)) < (Y 8) by omega) hQ _ _ hP hD hS _ (lv_sub hl [8, 0, 2, 3, 1, 4, 9] rfl)
                          · have c_366 := (nI_eq (a := many) (b := 8000) (by omega) (by omega)).mp c_366
                            refine lv_aload_n hx hb dX1_next_316 rfl (lv_at hl 4 rfl) ?_
                            refine va_get (D := (dC, dI)) (ci := 1) (v := .ref (ad 4)) (C := RX1) (T := TX1) (N := 20) hx hb hts inX1 hown hK hP 0 rfl rfl 11 (by decide) (hts _ fl_X1_21) (fun _ h9 => h9) rfl dX1_next_317 ?_
                            refine lv_iload_n hx hb dX1_next_320 rfl (lv_at hl 5 rfl) ?_
                            refine va_iald hx hb hK hP 4 1 rfl rfl (vp_in_nI (by omega) (by decide)) dX1_next_321 ?_
                            refine lv_topi (fun x_375 e_376 => ?_)
                            obtain rfl : x_375 = nI (x4 g) := e_376.trans (by rw [nI_clamp (by omega)])
                            refine lv_goto (tgt := 326) hx hb dX1_next_322 (by decide) ?_
                            refine lv_istore_n (lv' := [(3, .int (nI (x4 g))), (5, .int (nI first)), (9, .int (nI (ts1 x2 (Y 8) g))), (8, .int (bI (rb x2 (Y 8) (g + 1)))), (7, .int (nI (x2 g))), (0, .ref (ad 0)), (1, .int (nI g)), (2, .int (nI many)), (4, .int (nI bf)), (6, .int (nI en))]) hx hb dX1_next_326 rfl hl (by decide) rfl (fun ls hl => ?_)
                            refine lv_iload_n hx hb dX1_next_327 rfl (lv_at hl 7 rfl) ?_
                            refine lv_sipush (v := nI 8000) hx hb dX1_next_328 (by decide) ?_
                            refine lv_icmp_ge (tgt := 343) hx hb dX1_next_331 (by decide) (fun c_377 => ?_) (fun c_377 => ?_)
                            · have c_377 := (nI_leI (a := 8000) (b := many) (by omega) (by omega)).mp c_377
                              refine lv_iinc (v := nI (many + 1)) (lv' := [(2, .int (nI (many + 1))), (3, .int (nI (x4 g))), (5, .int (nI first)), (9, .int (nI (ts1 x2 (Y 8) g))), (8, .int (bI (rb x2 (Y 8) (g + 1)))), (7, .int (nI (x2 g))), (0, .ref (ad 0)), (1, .int (nI g)), (4, .int (nI bf)), (6, .int (nI en))]) hx hb dX1_next_343 hl (k := 7) rfl (by exact nI_add many 1) (by decide) rfl (fun ls hl => ?_)
                              refine lv_iconst (v := nI 0) hx hb dX1_next_346 (by decide) ?_
                              refine lv_istore (lv' := [(4, .int (nI 0)), (2, .int (nI (many + 1))), (3, .int (nI (x4 g))), (5, .int (nI first)), (9, .int (nI (ts1 x2 (Y 8) g))), (8, .int (bI (rb x2 (Y 8) (g + 1)))), (7, .int (nI (x2 g))), (0, .ref (ad 0)), (1, .int (nI g)), (6, .int (nI en))]) hx hb dX1_next_347 hl (by decide) rfl (fun ls hl => ?_)
                              refine lv_iload_n hx hb dX1_next_349 rfl (lv_at hl 8 rfl) ?_
                              refine lv_iload hx hb dX1_next_350 (lv_at hl 4 rfl) ?_
                              refine lv_iadd hx hb dX1_next_352 ?_
                              refine lv_topi (fun x_378 e_379 => ?_)
                              obtain rfl : x_378 = nI (g + (ts1 x2 (Y 8) g)) := e_379.trans (nI_add g (ts1 x2 (Y 8) g))
                              refine lv_istore_n (lv' := [(1, .int (nI (g + (ts1 x2 (Y 8) g)))), (4, .int (nI 0)), (2, .int (nI (many + 1))), (3, .int (nI (x4 g))), (5, .int (nI first)), (9, .int (nI (ts1 x2 (Y 8) g))), (8, .int (bI (rb x2 (Y 8) (g + 1)))), (7, .int (nI (x2 g))), (0, .ref (ad 0)), (6, .int (nI en))]) hx hb dX1_next_353 rfl hl (by decide) rfl (fun ls hl => ?_)
                              refine lv_goto (tgt := 65) hx hb dX1_next_354 (by decide) ?_
                              rw [rL, if_neg (by omega), if_neg (by omega), if_neg (by rw [c_94]; decide), if_neg (by omega), if_neg (by omega), if_neg (by omega), rQ, if_pos (by omega), rKY, if_neg (by omega), rK5, if_neg (by omega), rK6, if_neg (by omega), rK6, if_neg (by omega), rK6, if_neg (by omega), rK9, if_neg (by omega), if_pos (by omega), if_neg (by omega)] at hQ
                              exact ih (zu Y 7 (Y 7 + 1)) x5 x6 x7 x8 x9 (g + (ts1 x2 (Y 8) g)) (many + 1) (x4 g) 0 first en (by show Y 8 - (g + (ts1 x2 (Y 8) g)) + 1 - en < k; omega) (show (Y 8) ≤ 32768 by omega) (show (g + (ts1 x2 (Y 8) g)) ≤ (Y 8) by omega) (show (Y 18) ≤ (g + (ts1 x2 (Y 8) g)) by omega) (show (many + 1) ≤ (g + (ts1 x2 (Y 8) g)) by omega) (show (many + 1) ≤ 8000 → (Y 13) = (many + 1) by omega) (show 0 ≤ 1 by omega) (show en ≤ 1 by omega) (show (Y 7 + 1) ≤ 1000 by omega) (show (Y 6) ≤ 20000 by omega) (show en = 1 → (g + (ts1 x2 (Y 8) g)) < (Y 8) by omega) hQ _ _ hP hD hS _ (lv_sub hl [8, 0, 2, 3, 1, 4, 9] rfl)
                            · have c_377 := mt (nI_leI (a := 8000) (b := many) (by omega) (by omega)).mpr c_377
                              omega
                        · have c_365 := (nI_eq (a := many) (b := 0) (by omega) (by omega)).mp c_365
                          refine lv_aload_n hx hb dX1_next_296 rfl (lv_at hl 3 rfl) ?_
                          refine va_get (D := (dC, dI)) (ci := 1) (v := .ref (ad 4)) (C := RX1) (T := TX1) (N := 20) hx hb hts inX1 hown hK hP 0 rfl rfl 11 (by decide) (hts _ fl_X1_21) (fun _ h9 => h9) rfl dX1_next_297 ?_
                          refine lv_iload_n hx hb dX1_next_300 rfl (lv_at hl 4 rfl) ?_
                          refine va_iald hx hb hK hP 4 1 rfl rfl (vp_in_nI (by omega) (by decide)) dX1_next_301 ?_
                          refine lv_topi (fun x_380 e_381 => ?_)
                          obtain rfl : x_380 = nI (x4 g) := e_381.trans (by rw [nI_clamp (by omega)])
                          refine lv_goto (tgt := 307) hx hb dX1_next_302 (by decide) ?_
                          refine lv_istore (lv' := [(5, .int (nI (x4 g))), (9, .int (nI (ts1 x2 (Y 8) g))), (8, .int (bI (rb x2 (Y 8) (g + 1)))), (7, .int (nI (x2 g))), (0, .ref (ad 0)), (1, .int (nI g)), (2, .int (nI many)), (3, .int (nI much)), (4, .int (nI bf)), (6, .int (nI en))]) hx hb dX1_next_307 hl (by decide) rfl (fun ls hl => ?_)
                          refine lv_iload_n hx hb dX1_next_309 rfl (lv_at hl 6 rfl) ?_
                          refine lv_sipush (v := nI 8000) hx hb dX1_next_310 (by decide) ?_
                          refine lv_icmp_ne (tgt := 325) hx hb dX1_next_313 (by decide) (fun c_382 => ?_) (fun c_382 => ?_)
                          · have c_382 := mt (nI_eq (a := many) (b := 8000) (by omega) (by omega)).mpr c_382
                            refine lv_iload_n hx hb dX1_next_325 rfl (lv_at hl 7 rfl) ?_
                            refine lv_istore_n (lv' := [(3, .int (nI much)), (5, .int (nI (x4 g))), (9, .int (nI (ts1 x2 (Y 8) g))), (8, .int (bI (rb x2 (Y 8) (g + 1)))), (7, .int (nI (x2 g))), (0, .ref (ad 0)), (1, .int (nI g)), (2, .int (nI many)), (4, .int (nI bf)), (6, .int (nI en))]) hx hb dX1_next_326 rfl hl (by decide) rfl (fun ls hl => ?_)
                            refine lv_iload_n hx hb dX1_next_327 rfl (lv_at hl 7 rfl) ?_
                            refine lv_sipush (v := nI 8000) hx hb dX1_next_328 (by decide) ?_
                            refine lv_icmp_ge (tgt := 343) hx hb dX1_next_331 (by decide) (fun c_383 => ?_) (fun c_383 => ?_)
                            · have c_383 := (nI_leI (a := 8000) (b := many) (by omega) (by omega)).mp c_383
                              omega
                            · have c_383 := mt (nI_leI (a := 8000) (b := many) (by omega) (by omega)).mpr c_383
                              refine lv_aload_n hx hb dX1_next_334 rfl (lv_at hl 5 rfl) ?_
                              refine lv_iload_n hx hb dX1_next_335 rfl (lv_at hl 6 rfl) ?_
                              refine lv_iload hx hb dX1_next_336 (lv_at hl 2 rfl) ?_
                              refine lv_iload hx hb dX1_next_338 (lv_at hl 8 rfl) ?_
                              refine rm_callv (va_runV (As := [.int (nI g), .int (nI (ts1 x2 (Y 8) g)), .int (nI bf)]) (rest := []) ⟨hx, hb, hml, hown, hts⟩ (r_keep l dC dI ct ad H.size (zu Y 7 (Y 7 + 1)) x1 x2 x3 x4 x5 x6 x7 x8 x9 g (ts1 x2 (Y 8) g) bf (show g < 32768 by omega) (show Y 18 + ts1 x2 (Y 8) g ≤ 32768 by omega) (show g + ts1 x2 (Y 8) g ≤ 32768 by omega) h2 (show Y 13 < 8000 by omega) (show bf ≤ 1 by omega)) (cwV 3 hts (gV (fun _ h => h) ml_X1_132 im_X1_keep se_X1_keep ini_X1 co_X1_keep) rfl rfl rfl pd_X1_keep ⟨Nat.le_of_ble_eq_true rfl, Nat.le_of_ble_eq_true rfl⟩) (rm_preS hK hP hD) rfl rfl hl.1 rfl (lv_room (Nat.le_of_ble_eq_true rfl)) dX1_next_340 ⟨Nat.zero_le _, Nat.zero_le _⟩) hD hS hA (fun u_385 H locs q_384 hP hD hS => ?_)
                              subst q_384
                              have hP : va_P (dC, dI) vwCl (rmW ct ad ((zu (zu (zu Y 7 (Y 7 + 1)) 13 (Y 13 + 1)) 18 (Y 18 + (ts1 x2 (Y 8) g))), x1, x2, x3, x4, (nu x5 (Y 13) (Y 18)), (nu x6 (Y 13) (ts1 x2 (Y 8) g)), (nu x7 (Y 13) (x4 g)), (nu x8 (Y 13) bf), (cpG (fun i => x2 (g + i)) (Y 18) (ts1 x2 (Y 8) g) x9))) H := hP
                              have hD : va_D A (rmW ct ad ((zu (zu (zu Y 7 (Y 7 + 1)) 13 (Y 13 + 1)) 18 (Y 18 + (ts1 x2 (Y 8) g))), x1, x2, x3, x4, (nu x5 (Y 13) (Y 18)), (nu x6 (Y 13) (ts1 x2 (Y 8) g)), (nu x7 (Y 13) (x4 g)), (nu x8 (Y 13) bf), (cpG (fun i => x2 (g + i)) (Y 18) (ts1 x2 (Y 8) g) x9))) := hD
                              refine lv_iinc (v := nI (many + 1)) (lv' := [(2, .int (nI (many + 1))), (3, .int (nI much)), (5, .int (nI (x4 g))), (9, .int (nI (ts1 x2 (Y 8) g))), (8, .int (bI (rb x2 (Y 8) (g + 1)))), (7, .int (nI (x2 g))), (0, .ref (ad 0)), (1, .int (nI g)), (4, .int (nI bf)), (6, .int (nI en))]) hx hb dX1_next_343 hl (k := 7) rfl (by exact nI_add many 1) (by decide) rfl (fun ls hl => ?_)
                              refine lv_iconst (v := nI 0) hx hb dX1_next_346 (by decide) ?_
                              refine lv_istore (lv' := [(4, .int (nI 0)), (2, .int (nI (many + 1))), (3, .int (nI much)), (5, .int (nI (x4 g))), (9, .int (nI (ts1 x2 (Y 8) g))), (8, .int (bI (rb x2 (Y 8) (g + 1)))), (7, .int (nI (x2 g))), (0, .ref (ad 0)), (1, .int (nI g)), (6, .int (nI en))]) hx hb dX1_next_347 hl (by decide) rfl (fun ls hl => ?_)
                              refine lv_iload_n hx hb dX1_next_349 rfl (lv_at hl 8 rfl) ?_
                              refine lv_iload hx hb dX1_next_350 (lv_at hl 4 rfl) ?_
                              refine lv_iadd hx hb dX1_next_352 ?_
                              refine lv_topi (fun x_387 e_388 => ?_)
                              obtain rfl : x_387 = nI (g + (ts1 x2 (Y 8) g)) := e_388.trans (nI_add g (ts1 x2 (Y 8) g))
                              refine lv_istore_n (lv' := [(1, .int (nI (g + (ts1 x2 (Y 8) g)))), (4, .int (nI 0)), (2, .int (nI (many + 1))), (3, .int (nI much)), (5, .int (nI (x4 g))), (9, .int (nI (ts1 x2 (Y 8) g))), (8, .int (bI (rb x2 (Y 8) (g + 1)))), (7, .int (nI (x2 g))), (0, .ref (ad 0)), (6, .int (nI en))]) hx hb dX1_next_353 rfl hl (by decide) rfl (fun ls hl => ?_)
                              refine lv_goto (tgt := 65) hx hb dX1_next_354 (by decide) ?_
                              rw [rL, if_neg (by omega), if_neg (by omega), if_neg (by rw [c_94]; decide), if_neg (by omega), if_neg (by omega), if_neg (by omega), rQ, if_pos (by omega), rKY, if_pos (by omega), rK5, if_pos (by omega), rK6, if_pos (by omega), rK6, if_pos (by omega), rK6, if_pos (by omega), rK9, if_pos (by omega), if_neg (by omega), if_pos (by omega)] at hQ
                              exact ih (zu (zu (zu Y 7 (Y 7 + 1)) 13 (Y 13 + 1)) 18 (Y 18 + (ts1 x2 (Y 8) g))) ((nu x5 (Y 13) (Y 18))) ((nu x6 (Y 13) (ts1 x2 (Y 8) g))) ((nu x7 (Y 13) (x4 g))) ((nu x8 (Y 13) bf)) ((cpG (fun i => x2 (g + i)) (Y 18) (ts1 x2 (Y 8) g) x9)) (g + (ts1 x2 (Y 8) g)) (many + 1) much 0 (x4 g) en (by show Y 8 - (g + (ts1 x2 (Y 8) g)) + 1 - en < k; omega) (show (Y 8) ≤ 32768 by omega) (show (g + (ts1 x2 (Y 8) g)) ≤ (Y 8) by omega) (show (Y 18 + (ts1 x2 (Y 8) g)) ≤ (g + (ts1 x2 (Y 8) g)) by omega) (show (many + 1) ≤ (g + (ts1 x2 (Y 8) g)) by omega) (show (many + 1) ≤ 8000 → (Y 13 + 1) = (many + 1) by omega) (show 0 ≤ 1 by omega) (show en ≤ 1 by omega) (show (Y 7 + 1) ≤ 1000 by omega) (show (Y 6) ≤ 20000 by omega) (show en = 1 → (g + (ts1 x2 (Y 8) g)) < (Y 8) by omega) hQ _ _ hP hD hS _ (lv_sub hl [8, 0, 2, 3, 1, 4, 9] rfl)
                          · have c_382 := (nI_eq (a := many) (b := 8000) (by omega) (by omega)).mp c_382
                            omega
                      · have c_364 := mt (nI_leI (a := Y 7 + 1) (b := 1000) (by omega) (by omega)).mpr c_364
                        refine lv_aload_n hx hb dX1_next_279 rfl (lv_at hl 3 rfl) ?_
                        refine lv_bipush (v := nI 21) hx hb dX1_next_280 (by decide) ?_
                        refine lv_aload_n hx hb dX1_next_282 rfl (lv_at hl 3 rfl) ?_
                        refine va_get (D := (dC, dI)) (ci := 1) (v := .ref (ad 4)) (C := RX1) (T := TX1) (N := 20) hx hb hts inX1 hown hK hP 0 rfl rfl 11 (by decide) (hts _ fl_X1_21) (fun _ h9 => h9) rfl dX1_next_283 ?_
                        refine lv_iload_n hx hb dX1_next_286 rfl (lv_at hl 4 rfl) ?_
                        refine va_iald hx hb hK hP 4 1 rfl rfl (vp_in_nI (by omega) (by decide)) dX1_next_287 ?_
                        refine lv_topi (fun x_389 e_390 => ?_)
                        obtain rfl : x_389 = nI (x4 g) := e_390.trans (by rw [nI_clamp (by omega)])
                        refine rm_calli (va_runV (As := [.int (nI 21), .int (nI (x4 g))]) (rest := []) ⟨hx, hb, hml, hown, hts⟩ (r_stop l dC dI ct ad H.size (zu Y 7 (Y 7 + 1)) x1 x2 x3 x4 x5 x6 x7 x8 x9 21 (x4 g)) (cwV 2 hts (gV (fun _ h => h) ml_X1_126 im_X1_stop se_X1_stop ini_X1 co_X1_stop) rfl rfl rfl pd_X1_stop ⟨Nat.le_of_ble_eq_true rfl, Nat.le_of_ble_eq_true rfl⟩) (rm_preS hK hP hD) rfl rfl hl.1 rfl (lv_room (Nat.le_of_ble_eq_true rfl)) dX1_next_288 ⟨Nat.zero_le _, Nat.zero_le _⟩) hD hS hA (fun r_393 u_392 H locs q_391 hP hD hS => ?_)
                        obtain ⟨rfl, rfl⟩ := q_391
                        have hP : va_P (dC, dI) vwCl (rmW ct ad ((zu (zu (zu (zu Y 4 1) 5 (x4 g)) 7 (Y 7 + 1)) 13 0), x1, x2, x3, x4, x5, x6, x7, x8, x9)) H := hP
                        have hD : va_D A (rmW ct ad ((zu (zu (zu (zu Y 4 1) 5 (x4 g)) 7 (Y 7 + 1)) 13 0), x1, x2, x3, x4, x5, x6, x7, x8, x9)) := hD
                        have hP : va_P (dC, dI) vwCl (rmW ct ad (rSt (zu Y 7 (Y 7 + 1)) (x4 g), x1, x2, x3, x4, x5, x6, x7, x8, x9)) H := by skip; exact hP
                        have hD : va_D A (rmW ct ad (rSt (zu Y 7 (Y 7 + 1)) (x4 g), x1, x2, x3, x4, x5, x6, x7, x8, x9)) := by skip; exact hD
                        exact W.iret (v := (-10) - nI 21) hx hb hr (fun t ht hW => ⟨⟨_, (rSt (zu Y 7 (Y 7 + 1)) (x4 g), x1, x2, x3, x4, x5, x6, x7, x8, x9), rfl, (by rw [rL, if_neg (by omega), if_neg (by omega), if_neg (by rw [c_94]; decide), if_neg (by omega), if_neg (by omega), if_pos (by omega), rQ, if_pos (by omega)] at hQ; exact hQ), by rw [ht]; exact hP, va_K.moved hW.alike hK, hD⟩, hS.F ht⟩) hS.2.2 dX1_next_291
                    · have c_361 := mt (nI_eq (a := x2 g) (b := 34) (by omega) (by omega)).mpr c_361
                      refine lv_iload hx hb dX1_next_252 (lv_at hl 2 rfl) ?_
                      refine lv_bipush (v := nI 39) hx hb dX1_next_254 (by decide) ?_
                      refine lv_icmp_ne (tgt := 292) hx hb dX1_next_256 (by decide) (fun c_394 => ?_) (fun c_394 => ?_)
                      · have c_394 := mt (nI_eq (a := x2 g) (b := 39) (by omega) (by omega)).mpr c_394
                        refine lv_iload_n hx hb dX1_next_292 rfl (lv_at hl 5 rfl) ?_
                        refine lv_if_ne (tgt := 305) hx hb dX1_next_293 (by decide) (fun c_395 => ?_) (fun c_395 => ?_)
                        · have c_395 := mt (nI_eq (a := many) (b := 0) (by omega) (by omega)).mpr c_395
                          refine lv_iload hx hb dX1_next_305 (lv_at hl 8 rfl) ?_
                          refine lv_istore (lv' := [(5, .int (nI first)), (9, .int (nI (ts1 x2 (Y 8) g))), (8, .int (bI (rb x2 (Y 8) (g + 1)))), (7, .int (nI (x2 g))), (0, .ref (ad 0)), (1, .int (nI g)), (2, .int (nI many)), (3, .int (nI much)), (4, .int (nI bf)), (6, .int (nI en))]) hx hb dX1_next_307 hl (by decide) rfl (fun ls hl => ?_)
                          refine lv_iload_n hx hb dX1_next_309 rfl (lv_at hl 6 rfl) ?_
                          refine lv_sipush (v := nI 8000) hx hb dX1_next_310 (by decide) ?_
                          refine lv_icmp_ne (tgt := 325) hx hb dX1_next_313 (by decide) (fun c_396 => ?_) (fun c_396 => ?_)
                          · have c_396 := mt (nI_eq (a := many) (b := 8000) (by omega) (by omega)).mpr c_396
                            refine lv_iload_n hx hb dX1_next_325 rfl (lv_at hl 7 rfl) ?_
                            refine lv_istore_n (lv' := [(3, .int (nI much)), (5, .int (nI first)), (9, .int (nI (ts1 x2 (Y 8) g))), (8, .int (bI (rb x2 (Y 8) (g + 1)))), (7, .int (nI (x2 g))), (0, .ref (ad 0)), (1, .int (nI g)), (2, .int (nI many)), (4, .int (nI bf)), (6, .int (nI en))]) hx hb dX1_next_326 rfl hl (by decide) rfl (fun ls hl => ?_)
                            refine lv_iload_n hx hb dX1_next_327 rfl (lv_at hl 7 rfl) ?_
                            refine lv_sipush (v := nI 8000) hx hb dX1_next_328 (by decide) ?_
                            refine lv_icmp_ge (tgt := 343) hx hb dX1_next_331 (by decide) (fun c_397 => ?_) (fun c_397 => ?_)
                            · have c_397 := (nI_leI (a := 8000) (b := many) (by omega) (by omega)).mp c_397
                              refine lv_iinc (v := nI (many + 1)) (lv' := [(2, .int (nI (many + 1))), (3, .int (nI much)), (5, .int (nI first)), (9, .int (nI (ts1 x2 (Y 8) g))), (8, .int (bI (rb x2 (Y 8) (g + 1)))), (7, .int (nI (x2 g))), (0, .ref (ad 0)), (1, .int (nI g)), (4, .int (nI bf)), (6, .int (nI en))]) hx hb dX1_next_343 hl (k := 7) rfl (by exact nI_add many 1) (by decide) rfl (fun ls hl => ?_)
                              refine lv_iconst (v := nI 0) hx hb dX1_next_346 (by decide) ?_
                              refine lv_istore (lv' := [(4, .int (nI 0)), (2, .int (nI (many + 1))), (3, .int (nI much)), (5, .int (nI first)), (9, .int (nI (ts1 x2 (Y 8) g))), (8, .int (bI (rb x2 (Y 8) (g + 1)))), (7, .int (nI (x2 g))), (0, .ref (ad 0)), (1, .int (nI g)), (6, .int (nI en))]) hx hb dX1_next_347 hl (by decide) rfl (fun ls hl => ?_)
                              refine lv_iload_n hx hb dX1_next_349 rfl (lv_at hl 8 rfl) ?_
                              refine lv_iload hx hb dX1_next_350 (lv_at hl 4 rfl) ?_
                              refine lv_iadd hx hb dX1_next_352 ?_
                              refine lv_topi (fun x_398 e_399 => ?_)
                              obtain rfl : x_398 = nI (g + (ts1 x2 (Y 8) g)) := e_399.trans (nI_add g (ts1 x2 (Y 8) g))
                              refine lv_istore_n (lv' := [(1, .int (nI (g + (ts1 x2 (Y 8) g)))), (4, .int (nI 0)), (2, .int (nI (many + 1))), (3, .int (nI much)), (5, .int (nI first)), (9, .int (nI (ts1 x2 (Y 8) g))), (8, .int (bI (rb x2 (Y 8) (g + 1)))), (7, .int (nI (x2 g))), (0, .ref (ad 0)), (6, .int (nI en))]) hx hb dX1_next_353 rfl hl (by decide) rfl (fun ls hl => ?_)
                              refine lv_goto (tgt := 65) hx hb dX1_next_354 (by decide) ?_
                              rw [rL, if_neg (by omega), if_neg (by omega), if_neg (by rw [c_94]; decide), if_neg (by omega), if_neg (by omega), if_neg (by omega), rQ, if_neg (by omega), rKY, if_neg (by omega), rK5, if_neg (by omega), rK6, if_neg (by omega), rK6, if_neg (by omega), rK6, if_neg (by omega), rK9, if_neg (by omega), if_neg (by omega), if_neg (by omega)] at hQ
                              exact ih Y x5 x6 x7 x8 x9 (g + (ts1 x2 (Y 8) g)) (many + 1) much 0 first en (by show Y 8 - (g + (ts1 x2 (Y 8) g)) + 1 - en < k; omega) (show (Y 8) ≤ 32768 by omega) (show (g + (ts1 x2 (Y 8) g)) ≤ (Y 8) by omega) (show (Y 18) ≤ (g + (ts1 x2 (Y 8) g)) by omega) (show (many + 1) ≤ (g + (ts1 x2 (Y 8) g)) by omega) (show (many + 1) ≤ 8000 → (Y 13) = (many + 1) by omega) (show 0 ≤ 1 by omega) (show en ≤ 1 by omega) (show (Y 7) ≤ 1000 by omega) (show (Y 6) ≤ 20000 by omega) (show en = 1 → (g + (ts1 x2 (Y 8) g)) < (Y 8) by omega) hQ _ _ hP hD hS _ (lv_sub hl [8, 0, 2, 3, 1, 4, 9] rfl)
                            · have c_397 := mt (nI_leI (a := 8000) (b := many) (by omega) (by omega)).mpr c_397
                              refine lv_aload_n hx hb dX1_next_334 rfl (lv_at hl 5 rfl) ?_
                              refine lv_iload_n hx hb dX1_next_335 rfl (lv_at hl 6 rfl) ?_
                              refine lv_iload hx hb dX1_next_336 (lv_at hl 2 rfl) ?_
                              refine lv_iload hx hb dX1_next_338 (lv_at hl 8 rfl) ?_
                              refine rm_callv (va_runV (As := [.int (nI g), .int (nI (ts1 x2 (Y 8) g)), .int (nI bf)]) (rest := []) ⟨hx, hb, hml, hown, hts⟩ (r_keep l dC dI ct ad H.size Y x1 x2 x3 x4 x5 x6 x7 x8 x9 g (ts1 x2 (Y 8) g) bf (show g < 32768 by omega) (show Y 18 + ts1 x2 (Y 8) g ≤ 32768 by omega) (show g + ts1 x2 (Y 8) g ≤ 32768 by omega) h2 (show Y 13 < 8000 by omega) (show bf ≤ 1 by omega)) (cwV 3 hts (gV (fun _ h => h) ml_X1_132 im_X1_keep se_X1_keep ini_X1 co_X1_keep) rfl rfl rfl pd_X1_keep ⟨Nat.le_of_ble_eq_true rfl, Nat.le_of_ble_eq_true rfl⟩) (rm_preS hK hP hD) rfl rfl hl.1 rfl (lv_room (Nat.le_of_ble_eq_true rfl)) dX1_next_340 ⟨Nat.zero_le _, Nat.zero_le _⟩) hD hS hA (fun u_401 H locs q_400 hP hD hS => ?_)
                              subst q_400
                              have hP : va_P (dC, dI) vwCl (rmW ct ad ((zu (zu Y 13 (Y 13 + 1)) 18 (Y 18 + (ts1 x2 (Y 8) g))), x1, x2, x3, x4, (nu x5 (Y 13) (Y 18)), (nu x6 (Y 13) (ts1 x2 (Y 8) g)), (nu x7 (Y 13) (x4 g)), (nu x8 (Y 13) bf), (cpG (fun i => x2 (g + i)) (Y 18) (ts1 x2 (Y 8) g) x9))) H := hP
                              have hD : va_D A (rmW ct ad ((zu (zu Y 13 (Y 13 + 1)) 18 (Y 18 + (ts1 x2 (Y 8) g))), x1, x2, x3, x4, (nu x5 (Y 13) (Y 18)), (nu x6 (Y 13) (ts1 x2 (Y 8) g)), (nu x7 (Y 13) (x4 g)), (nu x8 (Y 13) bf), (cpG (fun i => x2 (g + i)) (Y 18) (ts1 x2 (Y 8) g) x9))) := hD
                              refine lv_iinc (v := nI (many + 1)) (lv' := [(2, .int (nI (many + 1))), (3, .int (nI much)), (5, .int (nI first)), (9, .int (nI (ts1 x2 (Y 8) g))), (8, .int (bI (rb x2 (Y 8) (g + 1)))), (7, .int (nI (x2 g))), (0, .ref (ad 0)), (1, .int (nI g)), (4, .int (nI bf)), (6, .int (nI en))]) hx hb dX1_next_343 hl (k := 7) rfl (by exact nI_add many 1) (by decide) rfl (fun ls hl => ?_)
                              refine lv_iconst (v := nI 0) hx hb dX1_next_346 (by decide) ?_
                              refine lv_istore (lv' := [(4, .int (nI 0)), (2, .int (nI (many + 1))), (3, .int (nI much)), (5, .int (nI first)), (9, .int (nI (ts1 x2 (Y 8) g))), (8, .int (bI (rb x2 (Y 8) (g + 1)))), (7, .int (nI (x2 g))), (0, .ref (ad 0)), (1, .int (nI g)), (6, .int (nI en))]) hx hb dX1_next_347 hl (by decide) rfl (fun ls hl => ?_)
                              refine lv_iload_n hx hb dX1_next_349 rfl (lv_at hl 8 rfl) ?_
                              refine lv_iload hx hb dX1_next_350 (lv_at hl 4 rfl) ?_
                              refine lv_iadd hx hb dX1_next_352 ?_
                              refine lv_topi (fun x_403 e_404 => ?_)
                              obtain rfl : x_403 = nI (g + (ts1 x2 (Y 8) g)) := e_404.trans (nI_add g (ts1 x2 (Y 8) g))
                              refine lv_istore_n (lv' := [(1, .int (nI (g + (ts1 x2 (Y 8) g)))), (4, .int (nI 0)), (2, .int (nI (many + 1))), (3, .int (nI much)), (5, .int (nI first)), (9, .int (nI (ts1 x2 (Y 8) g))), (8, .int (bI (rb x2 (Y 8) (g + 1)))), (7, .int (nI (x2 g))), (0, .ref (ad 0)), (6, .int (nI en))]) hx hb dX1_next_353 rfl hl (by decide) rfl (fun ls hl => ?_)
                              refine lv_goto (tgt := 65) hx hb dX1_next_354 (by decide) ?_
                              rw [rL, if_neg (by omega), if_neg (by omega), if_neg (by rw [c_94]; decide), if_neg (by omega), if_neg (by omega), if_neg (by omega), rQ, if_neg (by omega), rKY, if_pos (by omega), rK5, if_pos (by omega), rK6, if_pos (by omega), rK6, if_pos (by omega), rK6, if_pos (by omega), rK9, if_pos (by omega), if_neg (by omega), if_neg (by omega)] at hQ
                              exact ih (zu (zu Y 13 (Y 13 + 1)) 18 (Y 18 + (ts1 x2 (Y 8) g))) ((nu x5 (Y 13) (Y 18))) ((nu x6 (Y 13) (ts1 x2 (Y 8) g))) ((nu x7 (Y 13) (x4 g))) ((nu x8 (Y 13) bf)) ((cpG (fun i => x2 (g + i)) (Y 18) (ts1 x2 (Y 8) g) x9)) (g + (ts1 x2 (Y 8) g)) (many + 1) much 0 first en (by show Y 8 - (g + (ts1 x2 (Y 8) g)) + 1 - en < k; omega) (show (Y 8) ≤ 32768 by omega) (show (g + (ts1 x2 (Y 8) g)) ≤ (Y 8) by omega) (show (Y 18 + (ts1 x2 (Y 8) g)) ≤ (g + (ts1 x2 (Y 8) g)) by omega) (show (many + 1) ≤ (g + (ts1 x2 (Y 8) g)) by omega) (show (many + 1) ≤ 8000 → (Y 13 + 1) = (many + 1) by omega) (show 0 ≤ 1 by omega) (show en ≤ 1 by omega) (show (Y 7) ≤ 1000 by omega) (show (Y 6) ≤ 20000 by omega) (show en = 1 → (g + (ts1 x2 (Y 8) g)) < (Y 8) by omega) hQ _ _ hP hD hS _ (lv_sub hl [8, 0, 2, 3, 1, 4, 9] rfl)
                          · have c_396 := (nI_eq (a := many) (b := 8000) (by omega) (by omega)).mp c_396
                            refine lv_aload_n hx hb dX1_next_316 rfl (lv_at hl 4 rfl) ?_
                            refine va_get (D := (dC, dI)) (ci := 1) (v := .ref (ad 4)) (C := RX1) (T := TX1) (N := 20) hx hb hts inX1 hown hK hP 0 rfl rfl 11 (by decide) (hts _ fl_X1_21) (fun _ h9 => h9) rfl dX1_next_317 ?_
                            refine lv_iload_n hx hb dX1_next_320 rfl (lv_at hl 5 rfl) ?_
                            refine va_iald hx hb hK hP 4 1 rfl rfl (vp_in_nI (by omega) (by decide)) dX1_next_321 ?_
                            refine lv_topi (fun x_405 e_406 => ?_)
                            obtain rfl : x_405 = nI (x4 g) := e_406.trans (by rw [nI_clamp (by omega)])
                            refine lv_goto (tgt := 326) hx hb dX1_next_322 (by decide) ?_
                            refine lv_istore_n (lv' := [(3, .int (nI (x4 g))), (5, .int (nI first)), (9, .int (nI (ts1 x2 (Y 8) g))), (8, .int (bI (rb x2 (Y 8) (g + 1)))), (7, .int (nI (x2 g))), (0, .ref (ad 0)), (1, .int (nI g)), (2, .int (nI many)), (4, .int (nI bf)), (6, .int (nI en))]) hx hb dX1_next_326 rfl hl (by decide) rfl (fun ls hl => ?_)
                            refine lv_iload_n hx hb dX1_next_327 rfl (lv_at hl 7 rfl) ?_
                            refine lv_sipush (v := nI 8000) hx hb dX1_next_328 (by decide) ?_
                            refine lv_icmp_ge (tgt := 343) hx hb dX1_next_331 (by decide) (fun c_407 => ?_) (fun c_407 => ?_)
                            · have c_407 := (nI_leI (a := 8000) (b := many) (by omega) (by omega)).mp c_407
                              refine lv_iinc (v := nI (many + 1)) (lv' := [(2, .int (nI (many + 1))), (3, .int (nI (x4 g))), (5, .int (nI first)), (9, .int (nI (ts1 x2 (Y 8) g))), (8, .int (bI (rb x2 (Y 8) (g + 1)))), (7, .int (nI (x2 g))), (0, .ref (ad 0)), (1, .int (nI g)), (4, .int (nI bf)), (6, .int (nI en))]) hx hb dX1_next_343 hl (k := 7) rfl (by exact nI_add many 1) (by decide) rfl (fun ls hl => ?_)
                              refine lv_iconst (v := nI 0) hx hb dX1_next_346 (by decide) ?_
                              refine lv_istore (lv' := [(4, .int (nI 0)), (2, .int (nI (many + 1))), (3, .int (nI (x4 g))), (5, .int (nI first)), (9, .int (nI (ts1 x2 (Y 8) g))), (8, .int (bI (rb x2 (Y 8) (g + 1)))), (7, .int (nI (x2 g))), (0, .ref (ad 0)), (1, .int (nI g)), (6, .int (nI en))]) hx hb dX1_next_347 hl (by decide) rfl (fun ls hl => ?_)
                              refine lv_iload_n hx hb dX1_next_349 rfl (lv_at hl 8 rfl) ?_
                              refine lv_iload hx hb dX1_next_350 (lv_at hl 4 rfl) ?_
                              refine lv_iadd hx hb dX1_next_352 ?_
                              refine lv_topi (fun x_408 e_409 => ?_)
                              obtain rfl : x_408 = nI (g + (ts1 x2 (Y 8) g)) := e_409.trans (nI_add g (ts1 x2 (Y 8) g))
                              refine lv_istore_n (lv' := [(1, .int (nI (g + (ts1 x2 (Y 8) g)))), (4, .int (nI 0)), (2, .int (nI (many + 1))), (3, .int (nI (x4 g))), (5, .int (nI first)), (9, .int (nI (ts1 x2 (Y 8) g))), (8, .int (bI (rb x2 (Y 8) (g + 1)))), (7, .int (nI (x2 g))), (0, .ref (ad 0)), (6, .int (nI en))]) hx hb dX1_next_353 rfl hl (by decide) rfl (fun ls hl => ?_)
                              refine lv_goto (tgt := 65) hx hb dX1_next_354 (by decide) ?_
                              rw [rL, if_neg (by omega), if_neg (by omega), if_neg (by rw [c_94]; decide), if_neg (by omega), if_neg (by omega), if_neg (by omega), rQ, if_neg (by omega), rKY, if_neg (by omega), rK5, if_neg (by omega), rK6, if_neg (by omega), rK6, if_neg (by omega), rK6, if_neg (by omega), rK9, if_neg (by omega), if_pos (by omega), if_neg (by omega)] at hQ
                              exact ih Y x5 x6 x7 x8 x9 (g + (ts1 x2 (Y 8) g)) (many + 1) (x4 g) 0 first en (by show Y 8 - (g + (ts1 x2 (Y 8) g)) + 1 - en < k; omega) (show (Y 8) ≤ 32768 by omega) (show (g + (ts1 x2 (Y 8) g)) ≤ (Y 8) by omega) (show (Y 18) ≤ (g + (ts1 x2 (Y 8) g)) by omega) (show (many + 1) ≤ (g + (ts1 x2 (Y 8) g)) by omega) (show (many + 1) ≤ 8000 → (Y 13) = (many + 1) by omega) (show 0 ≤ 1 by omega) (show en ≤ 1 by omega) (show (Y 7) ≤ 1000 by omega) (show (Y 6) ≤ 20000 by omega) (show en = 1 → (g + (ts1 x2 (Y 8) g)) < (Y 8) by omega) hQ _ _ hP hD hS _ (lv_sub hl [8, 0, 2, 3, 1, 4, 9] rfl)
                            · have c_407 := mt (nI_leI (a := 8000) (b := many) (by omega) (by omega)).mpr c_407
                              omega
                        · have c_395 := (nI_eq (a := many) (b := 0) (by omega) (by omega)).mp c_395
                          refine lv_aload_n hx hb dX1_next_296 rfl (lv_at hl 3 rfl) ?_
                          refine va_get (D := (dC, dI)) (ci := 1) (v := .ref (ad 4)) (C := RX1) (T := TX1) (N := 20) hx hb hts inX1 hown hK hP 0 rfl rfl 11 (by decide) (hts _ fl_X1_21) (fun _ h9 => h9) rfl dX1_next_297 ?_
                          refine lv_iload_n hx hb dX1_next_300 rfl (lv_at hl 4 rfl) ?_
                          refine va_iald hx hb hK hP 4 1 rfl rfl (vp_in_nI (by omega) (by decide)) dX1_next_301 ?_
                          refine lv_topi (fun x_410 e_411 => ?_)
                          obtain rfl : x_410 = nI (x4 g) := e_411.trans (by rw [nI_clamp (by omega)])
                          refine lv_goto (tgt := 307) hx hb dX1_next_302 (by decide) ?_
                          refine lv_istore (lv' := [(5, .int (nI (x4 g))), (9, .int (nI (ts1 x2 (Y 8) g))), (8, .int (bI (rb x2 (Y 8) (g + 1)))), (7, .int (nI (x2 g))), (0, .ref (ad 0)), (1, .int (nI g)), (2, .int (nI many)), (3, .int (nI much)), (4, .int (nI bf)), (6, .int (nI en))]) hx hb dX1_next_307 hl (by decide) rfl (fun ls hl => ?_)
                          refine lv_iload_n hx hb dX1_next_309 rfl (lv_at hl 6 rfl) ?_
                          refine lv_sipush (v := nI 8000) hx hb dX1_next_310 (by decide) ?_
                          refine lv_icmp_ne (tgt := 325) hx hb dX1_next_313 (by decide) (fun c_412 => ?_) (fun c_412 => ?_)
                          · have c_412 := mt (nI_eq (a := many) (b := 8000) (by omega) (by omega)).mpr c_412
                            refine lv_iload_n hx hb dX1_next_325 rfl (lv_at hl 7 rfl) ?_
                            refine lv_istore_n (lv' := [(3, .int (nI much)), (5, .int (nI (x4 g))), (9, .int (nI (ts1 x2 (Y 8) g))), (8, .int (bI (rb x2 (Y 8) (g + 1)))), (7, .int (nI (x2 g))), (0, .ref (ad 0)), (1, .int (nI g)), (2, .int (nI many)), (4, .int (nI bf)), (6, .int (nI en))]) hx hb dX1_next_326 rfl hl (by decide) rfl (fun ls hl => ?_)
                            refine lv_iload_n hx hb dX1_next_327 rfl (lv_at hl 7 rfl) ?_
                            refine lv_sipush (v := nI 8000) hx hb dX1_next_328 (by decide) ?_
                            refine lv_icmp_ge (tgt := 343) hx hb dX1_next_331 (by decide) (fun c_413 => ?_) (fun c_413 => ?_)
                            · have c_413 := (nI_leI (a := 8000) (b := many) (by omega) (by omega)).mp c_413
                              omega
                            · have c_413 := mt (nI_leI (a := 8000) (b := many) (by omega) (by omega)).mpr c_413
                              refine lv_aload_n hx hb dX1_next_334 rfl (lv_at hl 5 rfl) ?_
                              refine lv_iload_n hx hb dX1_next_335 rfl (lv_at hl 6 rfl) ?_
                              refine lv_iload hx hb dX1_next_336 (lv_at hl 2 rfl) ?_
                              refine lv_iload hx hb dX1_next_338 (lv_at hl 8 rfl) ?_
                              refine rm_callv (va_runV (As := [.int (nI g), .int (nI (ts1 x2 (Y 8) g)), .int (nI bf)]) (rest := []) ⟨hx, hb, hml, hown, hts⟩ (r_keep l dC dI ct ad H.size Y x1 x2 x3 x4 x5 x6 x7 x8 x9 g (ts1 x2 (Y 8) g) bf (show g < 32768 by omega) (show Y 18 + ts1 x2 (Y 8) g ≤ 32768 by omega) (show g + ts1 x2 (Y 8) g ≤ 32768 by omega) h2 (show Y 13 < 8000 by omega) (show bf ≤ 1 by omega)) (cwV 3 hts (gV (fun _ h => h) ml_X1_132 im_X1_keep se_X1_keep ini_X1 co_X1_keep) rfl rfl rfl pd_X1_keep ⟨Nat.le_of_ble_eq_true rfl, Nat.le_of_ble_eq_true rfl⟩) (rm_preS hK hP hD) rfl rfl hl.1 rfl (lv_room (Nat.le_of_ble_eq_true rfl)) dX1_next_340 ⟨Nat.zero_le _, Nat.zero_le _⟩) hD hS hA (fun u_415 H locs q_414 hP hD hS => ?_)
                              subst q_414
                              have hP : va_P (dC, dI) vwCl (rmW ct ad ((zu (zu Y 13 (Y 13 + 1)) 18 (Y 18 + (ts1 x2 (Y 8) g))), x1, x2, x3, x4, (nu x5 (Y 13) (Y 18)), (nu x6 (Y 13) (ts1 x2 (Y 8) g)), (nu x7 (Y 13) (x4 g)), (nu x8 (Y 13) bf), (cpG (fun i => x2 (g + i)) (Y 18) (ts1 x2 (Y 8) g) x9))) H := hP
                              have hD : va_D A (rmW ct ad ((zu (zu Y 13 (Y 13 + 1)) 18 (Y 18 + (ts1 x2 (Y 8) g))), x1, x2, x3, x4, (nu x5 (Y 13) (Y 18)), (nu x6 (Y 13) (ts1 x2 (Y 8) g)), (nu x7 (Y 13) (x4 g)), (nu x8 (Y 13) bf), (cpG (fun i => x2 (g + i)) (Y 18) (ts1 x2 (Y 8) g) x9))) := hD
                              refine lv_iinc (v := nI (many + 1)) (lv' := [(2, .int (nI (many + 1))), (3, .int (nI much)), (5, .int (nI (x4 g))), (9, .int (nI (ts1 x2 (Y 8) g))), (8, .int (bI (rb x2 (Y 8) (g + 1)))), (7, .int (nI (x2 g))), (0, .ref (ad 0)), (1, .int (nI g)), (4, .int (nI bf)), (6, .int (nI en))]) hx hb dX1_next_343 hl (k := 7) rfl (by exact nI_add many 1) (by decide) rfl (fun ls hl => ?_)
                              refine lv_iconst (v := nI 0) hx hb dX1_next_346 (by decide) ?_
                              refine lv_istore (lv' := [(4, .int (nI 0)), (2, .int (nI (many + 1))), (3, .int (nI much)), (5, .int (nI (x4 g))), (9, .int (nI (ts1 x2 (Y 8) g))), (8, .int (bI (rb x2 (Y 8) (g + 1)))), (7, .int (nI (x2 g))), (0, .ref (ad 0)), (1, .int (nI g)), (6, .int (nI en))]) hx hb dX1_next_347 hl (by decide) rfl (fun ls hl => ?_)
                              refine lv_iload_n hx hb dX1_next_349 rfl (lv_at hl 8 rfl) ?_
                              refine lv_iload hx hb dX1_next_350 (lv_at hl 4 rfl) ?_
                              refine lv_iadd hx hb dX1_next_352 ?_
                              refine lv_topi (fun x_417 e_418 => ?_)
                              obtain rfl : x_417 = nI (g + (ts1 x2 (Y 8) g)) := e_418.trans (nI_add g (ts1 x2 (Y 8) g))
                              refine lv_istore_n (lv' := [(1, .int (nI (g + (ts1 x2 (Y 8) g)))), (4, .int (nI 0)), (2, .int (nI (many + 1))), (3, .int (nI much)), (5, .int (nI (x4 g))), (9, .int (nI (ts1 x2 (Y 8) g))), (8, .int (bI (rb x2 (Y 8) (g + 1)))), (7, .int (nI (x2 g))), (0, .ref (ad 0)), (6, .int (nI en))]) hx hb dX1_next_353 rfl hl (by decide) rfl (fun ls hl => ?_)
                              refine lv_goto (tgt := 65) hx hb dX1_next_354 (by decide) ?_
                              rw [rL, if_neg (by omega), if_neg (by omega), if_neg (by rw [c_94]; decide), if_neg (by omega), if_neg (by omega), if_neg (by omega), rQ, if_neg (by omega), rKY, if_pos (by omega), rK5, if_pos (by omega), rK6, if_pos (by omega), rK6, if_pos (by omega), rK6, if_pos (by omega), rK9, if_pos (by omega), if_neg (by omega), if_pos (by omega)] at hQ
                              exact ih (zu (zu Y 13 (Y 13 + 1)) 18 (Y 18 + (ts1 x2 (Y 8) g))) ((nu x5 (Y 13) (Y 18))) ((nu x6 (Y 13) (ts1 x2 (Y 8) g))) ((nu x7 (Y 13) (x4 g))) ((nu x8 (Y 13) bf)) ((cpG (fun i => x2 (g + i)) (Y 18) (ts1 x2 (Y 8) g) x9)) (g + (ts1 x2 (Y 8) g)) (many + 1) much 0 (x4 g) en (by show Y 8 - (g + (ts1 x2 (Y 8) g)) + 1 - en < k; omega) (show (Y 8) ≤ 32768 by omega) (show (g + (ts1 x2 (Y 8) g)) ≤ (Y 8) by omega) (show (Y 18 + (ts1 x2 (Y 8) g)) ≤ (g + (ts1 x2 (Y 8) g)) by omega) (show (many + 1) ≤ (g + (ts1 x2 (Y 8) g)) by omega) (show (many + 1) ≤ 8000 → (Y 13 + 1) = (many + 1) by omega) (show 0 ≤ 1 by omega) (show en ≤ 1 by omega) (show (Y 7) ≤ 1000 by omega) (show (Y 6) ≤ 20000 by omega) (show en = 1 → (g + (ts1 x2 (Y 8) g)) < (Y 8) by omega) hQ _ _ hP hD hS _ (lv_sub hl [8, 0, 2, 3, 1, 4, 9] rfl)
                          · have c_412 := (nI_eq (a := many) (b := 8000) (by omega) (by omega)).mp c_412
                            omega
                      · have c_394 := (nI_eq (a := x2 g) (b := 39) (by omega) (by omega)).mp c_394
                        refine lv_aload_n hx hb dX1_next_259 rfl (lv_at hl 3 rfl) ?_
                        refine lv_dup hx hb dX1_next_260 rfl ?_
                        refine va_get (D := (dC, dI)) (ci := 1) (v := .int (nI (Y 7))) (C := RX1) (T := TX1) (N := 20) hx hb hts inX1 hown hK hP 0 rfl rfl 7 (by decide) (hts _ fl_X1_63) (fun _ h9 => h9) rfl dX1_next_261 ?_
                        refine lv_iconst (v := nI 1) hx hb dX1_next_264 (by decide) ?_
                        refine lv_iadd hx hb dX1_next_265 ?_
                        refine lv_topi (fun x_419 e_420 => ?_)
                        obtain rfl : x_419 = nI (Y 7 + 1) := e_420.trans (nI_add (Y 7) 1)
                        refine va_put (D := (dC, dI)) (ci := 1) (v := .int (nI (Y 7 + 1))) (ty := .int) (C := RX1) (T := TX1) (N := 20) hx hb hts inX1 tyX1 okX1 nmX1 hown hK hP hD hS 0 rfl rfl 7 (by decide) (hts _ fl_X1_63) (fun _ h9 => h9) rfl (by decide +kernel) rfl rfl (Nat.le_of_ble_eq_true rfl) dX1_next_266 (fun H locs hP hD hS => ?_)
                        have hP : va_P (dC, dI) vwCl (rmW ct ad ((zu Y 7 (Y 7 + 1)), x1, x2, x3, x4, x5, x6, x7, x8, x9)) H := hP
                        have hD : va_D A (rmW ct ad ((zu Y 7 (Y 7 + 1)), x1, x2, x3, x4, x5, x6, x7, x8, x9)) := hD
                        refine lv_aload_n hx hb dX1_next_269 rfl (lv_at hl 3 rfl) ?_
                        refine va_get (D := (dC, dI)) (ci := 1) (v := .int (nI (Y 7 + 1))) (C := RX1) (T := TX1) (N := 20) hx hb hts inX1 hown hK hP 0 rfl rfl 7 (by decide) (hts _ fl_X1_63) (fun _ h9 => h9) rfl dX1_next_270 ?_
                        refine lv_sipush (v := nI 1000) hx hb dX1_next_273 (by decide) ?_
                        refine lv_icmp_le (tgt := 292) hx hb dX1_next_276 (by decide) (fun c_421 => ?_) (fun c_421 => ?_)
                        · have c_421 := (nI_leI (a := Y 7 + 1) (b := 1000) (by omega) (by omega)).mp c_421
                          refine lv_iload_n hx hb dX1_next_292 rfl (lv_at hl 5 rfl) ?_
                          refine lv_if_ne (tgt := 305) hx hb dX1_next_293 (by decide) (fun c_422 => ?_) (fun c_422 => ?_)
                          · have c_422 := mt (nI_eq (a := many) (b := 0) (by omega) (by omega)).mpr c_422
                            refine lv_iload hx hb dX1_next_305 (lv_at hl 8 rfl) ?_
                            refine lv_istore (lv' := [(5, .int (nI first)), (9, .int (nI (ts1 x2 (Y 8) g))), (8, .int (bI (rb x2 (Y 8) (g + 1)))), (7, .int (nI (x2 g))), (0, .ref (ad 0)), (1, .int (nI g)), (2, .int (nI many)), (3, .int (nI much)), (4, .int (nI bf)), (6, .int (nI en))]) hx hb dX1_next_307 hl (by decide) rfl (fun ls hl => ?_)
                            refine lv_iload_n hx hb dX1_next_309 rfl (lv_at hl 6 rfl) ?_
                            refine lv_sipush (v := nI 8000) hx hb dX1_next_310 (by decide) ?_
                            refine lv_icmp_ne (tgt := 325) hx hb dX1_next_313 (by decide) (fun c_423 => ?_) (fun c_423 => ?_)
                            · have c_423 := mt (nI_eq (a := many) (b := 8000) (by omega) (by omega)).mpr c_423
                              refine lv_iload_n hx hb dX1_next_325 rfl (lv_at hl 7 rfl) ?_
                              refine lv_istore_n (lv' := [(3, .int (nI much)), (5, .int (nI first)), (9, .int (nI (ts1 x2 (Y 8) g))), (8, .int (bI (rb x2 (Y 8) (g + 1)))), (7, .int (nI (x2 g))), (0, .ref (ad 0)), (1, .int (nI g)), (2, .int (nI many)), (4, .int (nI bf)), (6, .int (nI en))]) hx hb dX1_next_326 rfl hl (by decide) rfl (fun ls hl => ?_)
                              refine lv_iload_n hx hb dX1_next_327 rfl (lv_at hl 7 rfl) ?_
                              refine lv_sipush (v := nI 8000) hx hb dX1_next_328 (by decide) ?_
                              refine lv_icmp_ge (tgt := 343) hx hb dX1_next_331 (by decide) (fun c_424 => ?_) (fun c_424 => ?_)
                              · have c_424 := (nI_leI (a := 8000) (b := many) (by omega) (by omega)).mp c_424
                                refine lv_iinc (v := nI (many + 1)) (lv' := [(2, .int (nI (many + 1))), (3, .int (nI much)), (5, .int (nI first)), (9, .int (nI (ts1 x2 (Y 8) g))), (8, .int (bI (rb x2 (Y 8) (g + 1)))), (7, .int (nI (x2 g))), (0, .ref (ad 0)), (1, .int (nI g)), (4, .int (nI bf)), (6, .int (nI en))]) hx hb dX1_next_343 hl (k := 7) rfl (by exact nI_add many 1) (by decide) rfl (fun ls hl => ?_)
                                refine lv_iconst (v := nI 0) hx hb dX1_next_346 (by decide) ?_
                                refine lv_istore (lv' := [(4, .int (nI 0)), (2, .int (nI (many + 1))), (3, .int (nI much)), (5, .int (nI first)), (9, .int (nI (ts1 x2 (Y 8) g))), (8, .int (bI (rb x2 (Y 8) (g + 1)))), (7, .int (nI (x2 g))), (0, .ref (ad 0)), (1, .int (nI g)), (6, .int (nI en))]) hx hb dX1_next_347 hl (by decide) rfl (fun ls hl => ?_)
                                refine lv_iload_n hx hb dX1_next_349 rfl (lv_at hl 8 rfl) ?_
                                refine lv_iload hx hb dX1_next_350 (lv_at hl 4 rfl) ?_
                                refine lv_iadd hx hb dX1_next_352 ?_
                                refine lv_topi (fun x_425 e_426 => ?_)
                                obtain rfl : x_425 = nI (g + (ts1 x2 (Y 8) g)) := e_426.trans (nI_add g (ts1 x2 (Y 8) g))
                                refine lv_istore_n (lv' := [(1, .int (nI (g + (ts1 x2 (Y 8) g)))), (4, .int (nI 0)), (2, .int (nI (many + 1))), (3, .int (nI much)), (5, .int (nI first)), (9, .int (nI (ts1 x2 (Y 8) g))), (8, .int (bI (rb x2 (Y 8) (g + 1)))), (7, .int (nI (x2 g))), (0, .ref (ad 0)), (6, .int (nI en))]) hx hb dX1_next_353 rfl hl (by decide) rfl (fun ls hl => ?_)
                                refine lv_goto (tgt := 65) hx hb dX1_next_354 (by decide) ?_
                                rw [rL, if_neg (by omega), if_neg (by omega), if_neg (by rw [c_94]; decide), if_neg (by omega), if_neg (by omega), if_neg (by omega), rQ, if_pos (by omega), rKY, if_neg (by omega), rK5, if_neg (by omega), rK6, if_neg (by omega), rK6, if_neg (by omega), rK6, if_neg (by omega), rK9, if_neg (by omega), if_neg (by omega), if_neg (by omega)] at hQ
                                exact ih (zu Y 7 (Y 7 + 1)) x5 x6 x7 x8 x9 (g + (ts1 x2 (Y 8) g)) (many + 1) much 0 first en (by show Y 8 - (g + (ts1 x2 (Y 8) g)) + 1 - en < k; omega) (show (Y 8) ≤ 32768 by omega) (show (g + (ts1 x2 (Y 8) g)) ≤ (Y 8) by omega) (show (Y 18) ≤ (g + (ts1 x2 (Y 8) g)) by omega) (show (many + 1) ≤ (g + (ts1 x2 (Y 8) g)) by omega) (show (many + 1) ≤ 8000 → (Y 13) = (many + 1) by omega) (show 0 ≤ 1 by omega) (show en ≤ 1 by omega) (show (Y 7 + 1) ≤ 1000 by omega) (show (Y 6) ≤ 20000 by omega) (show en = 1 → (g + (ts1 x2 (Y 8) g)) < (Y 8) by omega) hQ _ _ hP hD hS _ (lv_sub hl [8, 0, 2, 3, 1, 4, 9] rfl)
                              · have c_424 := mt (nI_leI (a := 8000) (b := many) (by omega) (by omega)).mpr c_424
                                refine lv_aload_n hx hb dX1_next_334 rfl (lv_at hl 5 rfl) ?_
                                refine lv_iload_n hx hb dX1_next_335 rfl (lv_at hl 6 rfl) ?_
                                refine lv_iload hx hb dX1_next_336 (lv_at hl 2 rfl) ?_
                                refine lv_iload hx hb dX1_next_338 (lv_at hl 8 rfl) ?_
                                refine rm_callv (va_runV (As := [.int (nI g), .int (nI (ts1 x2 (Y 8) g)), .int (nI bf)]) (rest := []) ⟨hx, hb, hml, hown, hts⟩ (r_keep l dC dI ct ad H.size (zu Y 7 (Y 7 + 1)) x1 x2 x3 x4 x5 x6 x7 x8 x9 g (ts1 x2 (Y 8) g) bf (show g < 32768 by omega) (show Y 18 + ts1 x2 (Y 8) g ≤ 32768 by omega) (show g + ts1 x2 (Y 8) g ≤ 32768 by omega) h2 (show Y 13 < 8000 by omega) (show bf ≤ 1 by omega)) (cwV 3 hts (gV (fun _ h => h) ml_X1_132 im_X1_keep se_X1_keep ini_X1 co_X1_keep) rfl rfl rfl pd_X1_keep ⟨Nat.le_of_ble_eq_true rfl, Nat.le_of_ble_eq_true rfl⟩) (rm_preS hK hP hD) rfl rfl hl.1 rfl (lv_room (Nat.le_of_ble_eq_true rfl)) dX1_next_340 ⟨Nat.zero_le _, Nat.zero_le _⟩) hD hS hA (fun u_428 H locs q_427 hP hD hS => ?_)
                                subst q_427
                                have hP : va_P (dC, dI) vwCl (rmW ct ad ((zu (zu (zu Y 7 (Y 7 + 1)) 13 (Y 13 + 1)) 18 (Y 18 + (ts1 x2 (Y 8) g))), x1, x2, x3, x4, (nu x5 (Y 13) (Y 18)), (nu x6 (Y 13) (ts1 x2 (Y 8) g)), (nu x7 (Y 13) (x4 g)), (nu x8 (Y 13) bf), (cpG (fun i => x2 (g + i)) (Y 18) (ts1 x2 (Y 8) g) x9))) H := hP
                                have hD : va_D A (rmW ct ad ((zu (zu (zu Y 7 (Y 7 + 1)) 13 (Y 13 + 1)) 18 (Y 18 + (ts1 x2 (Y 8) g))), x1, x2, x3, x4, (nu x5 (Y 13) (Y 18)), (nu x6 (Y 13) (ts1 x2 (Y 8) g)), (nu x7 (Y 13) (x4 g)), (nu x8 (Y 13) bf), (cpG (fun i => x2 (g + i)) (Y 18) (ts1 x2 (Y 8) g) x9))) := hD
                                refine lv_iinc (v := nI (many + 1)) (lv' := [(2, .int (nI (many + 1))), (3, .int (nI much)), (5, .int (nI first)), (9, .int (nI (ts1 x2 (Y 8) g))), (8, .int (bI (rb x2 (Y 8) (g + 1)))), (7, .int (nI (x2 g))), (0, .ref (ad 0)), (1, .int (nI g)), (4, .int (nI bf)), (6, .int (nI en))]) hx hb dX1_next_343 hl (k := 7) rfl (by exact nI_add many 1) (by decide) rfl (fun ls hl => ?_)
                                refine lv_iconst (v := nI 0) hx hb dX1_next_346 (by decide) ?_
                                refine lv_istore (lv' := [(4, .int (nI 0)), (2, .int (nI (many + 1))), (3, .int (nI much)), (5, .int (nI first)), (9, .int (nI (ts1 x2 (Y 8) g))), (8, .int (bI (rb x2 (Y 8) (g + 1)))), (7, .int (nI (x2 g))), (0, .ref (ad 0)), (1, .int (nI g)), (6, .int (nI en))]) hx hb dX1_next_347 hl (by decide) rfl (fun ls hl => ?_)
                                refine lv_iload_n hx hb dX1_next_349 rfl (lv_at hl 8 rfl) ?_
                                refine lv_iload hx hb dX1_next_350 (lv_at hl 4 rfl) ?_
                                refine lv_iadd hx hb dX1_next_352 ?_
                                refine lv_topi (fun x_430 e_431 => ?_)
                                obtain rfl : x_430 = nI (g + (ts1 x2 (Y 8) g)) := e_431.trans (nI_add g (ts1 x2 (Y 8) g))
                                refine lv_istore_n (lv' := [(1, .int (nI (g + (ts1 x2 (Y 8) g)))), (4, .int (nI 0)), (2, .int (nI (many + 1))), (3, .int (nI much)), (5, .int (nI first)), (9, .int (nI (ts1 x2 (Y 8) g))), (8, .int (bI (rb x2 (Y 8) (g + 1)))), (7, .int (nI (x2 g))), (0, .ref (ad 0)), (6, .int (nI en))]) hx hb dX1_next_353 rfl hl (by decide) rfl (fun ls hl => ?_)
                                refine lv_goto (tgt := 65) hx hb dX1_next_354 (by decide) ?_
                                rw [rL, if_neg (by omega), if_neg (by omega), if_neg (by rw [c_94]; decide), if_neg (by omega), if_neg (by omega), if_neg (by omega), rQ, if_pos (by omega), rKY, if_pos (by omega), rK5, if_pos (by omega), rK6, if_pos (by omega), rK6, if_pos (by omega), rK6, if_pos (by omega), rK9, if_pos (by omega), if_neg (by omega), if_neg (by omega)] at hQ
                                exact ih (zu (zu (zu Y 7 (Y 7 + 1)) 13 (Y 13 + 1)) 18 (Y 18 + (ts1 x2 (Y 8) g))) ((nu x5 (Y 13) (Y 18))) ((nu x6 (Y 13) (ts1 x2 (Y 8) g))) ((nu x7 (Y 13) (x4 g))) ((nu x8 (Y 13) bf)) ((cpG (fun i => x2 (g + i)) (Y 18) (ts1 x2 (Y 8) g) x9)) (g + (ts1 x2 (Y 8) g)) (many + 1) much 0 first en (by show Y 8 - (g + (ts1 x2 (Y 8) g)) + 1 - en < k; omega) (show (Y 8) ≤ 32768 by omega) (show (g + (ts1 x2 (Y 8) g)) ≤ (Y 8) by omega) (show (Y 18 + (ts1 x2 (Y 8) g)) ≤ (g + (ts1 x2 (Y 8) g)) by omega) (show (many + 1) ≤ (g + (ts1 x2 (Y 8) g)) by omega) (show (many + 1) ≤ 8000 → (Y 13 + 1) = (many + 1) by omega) (show 0 ≤ 1 by omega) (show en ≤ 1 by omega) (show (Y 7 + 1) ≤ 1000 by omega) (show (Y 6) ≤ 20000 by omega) (show en = 1 → (g + (ts1 x2 (Y 8) g)) < (Y 8) by omega) hQ _ _ hP hD hS _ (lv_sub hl [8, 0, 2, 3, 1, 4, 9] rfl)
                            · have c_423 := (nI_eq (a := many) (b := 8000) (by omega) (by omega)).mp c_423
                              refine lv_aload_n hx hb dX1_next_316 rfl (lv_at hl 4 rfl) ?_
                              refine va_get (D := (dC, dI)) (ci := 1) (v := .ref (ad 4)) (C := RX1) (T := TX1) (N := 20) hx hb hts inX1 hown hK hP 0 rfl rfl 11 (by decide) (hts _ fl_X1_21) (fun _ h9 => h9) rfl dX1_next_317 ?_
                              refine lv_iload_n hx hb dX1_next_320 rfl (lv_at hl 5 rfl) ?_
                              refine va_iald hx hb hK hP 4 1 rfl rfl (vp_in_nI (by omega) (by decide)) dX1_next_321 ?_
                              refine lv_topi (fun x_432 e_433 => ?_)
                              obtain rfl : x_432 = nI (x4 g) := e_433.trans (by rw [nI_clamp (by omega)])
                              refine lv_goto (tgt := 326) hx hb dX1_next_322 (by decide) ?_
                              refine lv_istore_n (lv' := [(3, .int (nI (x4 g))), (5, .int (nI first)), (9, .int (nI (ts1 x2 (Y 8) g))), (8, .int (bI (rb x2 (Y 8) (g + 1)))), (7, .int (nI (x2 g))), (0, .ref (ad 0)), (1, .int (nI g)), (2, .int (nI many)), (4, .int (nI bf)), (6, .int (nI en))]) hx hb dX1_next_326 rfl hl (by decide) rfl (fun ls hl => ?_)
                              refine lv_iload_n hx hb dX1_next_327 rfl (lv_at hl 7 rfl) ?_
                              refine lv_sipush (v := nI 8000) hx hb dX1_next_328 (by decide) ?_
                              refine lv_icmp_ge (tgt := 343) hx hb dX1_next_331 (by decide) (fun c_434 => ?_) (fun c_434 => ?_)
                              · have c_434 := (nI_leI (a := 8000) (b := many) (by omega) (by omega)).mp c_434
                                refine lv_iinc (v := nI (many + 1)) (lv' := [(2, .int (nI (many + 1))), (3, .int (nI (x4 g))), (5, .int (nI first)), (9, .int (nI (ts1 x2 (Y 8) g))), (8, .int (bI (rb x2 (Y 8) (g + 1)))), (7, .int (nI (x2 g))), (0, .ref (ad 0)), (1, .int (nI g)), (4, .int (nI bf)), (6, .int (nI en))]) hx hb dX1_next_343 hl (k := 7) rfl (by exact nI_add many 1) (by decide) rfl (fun ls hl => ?_)
                                refine lv_iconst (v := nI 0) hx hb dX1_next_346 (by decide) ?_
                                refine lv_istore (lv' := [(4, .int (nI 0)), (2, .int (nI (many + 1))), (3, .int (nI (x4 g))), (5, .int (nI first)), (9, .int (nI (ts1 x2 (Y 8) g))), (8, .int (bI (rb x2 (Y 8) (g + 1)))), (7, .int (nI (x2 g))), (0, .ref (ad 0)), (1, .int (nI g)), (6, .int (nI en))]) hx hb dX1_next_347 hl (by decide) rfl (fun ls hl => ?_)
                                refine lv_iload_n hx hb dX1_next_349 rfl (lv_at hl 8 rfl) ?_
                                refine lv_iload hx hb dX1_next_350 (lv_at hl 4 rfl) ?_
                                refine lv_iadd hx hb dX1_next_352 ?_
                                refine lv_topi (fun x_435 e_436 => ?_)
                                obtain rfl : x_435 = nI (g + (ts1 x2 (Y 8) g)) := e_436.trans (nI_add g (ts1 x2 (Y 8) g))
                                refine lv_istore_n (lv' := [(1, .int (nI (g + (ts1 x2 (Y 8) g)))), (4, .int (nI 0)), (2, .int (nI (many + 1))), (3, .int (nI (x4 g))), (5, .int (nI first)), (9, .int (nI (ts1 x2 (Y 8) g))), (8, .int (bI (rb x2 (Y 8) (g + 1)))), (7, .int (nI (x2 g))), (0, .ref (ad 0)), (6, .int (nI en))]) hx hb dX1_next_353 rfl hl (by decide) rfl (fun ls hl => ?_)
                                refine lv_goto (tgt := 65) hx hb dX1_next_354 (by decide) ?_
                                rw [rL, if_neg (by omega), if_neg (by omega), if_neg (by rw [c_94]; decide), if_neg (by omega), if_neg (by omega), if_neg (by omega), rQ, if_pos (by omega), rKY, if_neg (by omega), rK5, if_neg (by omega), rK6, if_neg (by omega), rK6, if_neg (by omega), rK6, if_neg (by omega), rK9, if_neg (by omega), if_pos (by omega), if_neg (by omega)] at hQ
                                exact ih (zu Y 7 (Y 7 + 1)) x5 x6 x7 x8 x9 (g + (ts1 x2 (Y 8) g)) (many + 1) (x4 g) 0 first en (by show Y 8 - (g + (ts1 x2 (Y 8) g)) + 1 - en < k; omega) (show (Y 8) ≤ 32768 by omega) (show (g + (ts1 x2 (Y 8) g)) ≤ (Y 8) by omega) (show (Y 18) ≤ (g + (ts1 x2 (Y 8) g)) by omega) (show (many + 1) ≤ (g + (ts1 x2 (Y 8) g)) by omega) (show (many + 1) ≤ 8000 → (Y 13) = (many + 1) by omega) (show 0 ≤ 1 by omega) (show en ≤ 1 by omega) (show (Y 7 + 1) ≤ 1000 by omega) (show (Y 6) ≤ 20000 by omega) (show en = 1 → (g + (ts1 x2 (Y 8) g)) < (Y 8) by omega) hQ _ _ hP hD hS _ (lv_sub hl [8, 0, 2, 3, 1, 4, 9] rfl)
                              · have c_434 := mt (nI_leI (a := 8000) (b := many) (by omega) (by omega)).mpr c_434
                                omega
                          · have c_422 := (nI_eq (a := many) (b := 0) (by omega) (by omega)).mp c_422
                            refine lv_aload_n hx hb dX1_next_296 rfl (lv_at hl 3 rfl) ?_
                            refine va_get (D := (dC, dI)) (ci := 1) (v := .ref (ad 4)) (C := RX1) (T := TX1) (N := 20) hx hb hts inX1 hown hK hP 0 rfl rfl 11 (by decide) (hts _ fl_X1_21) (fun _ h9 => h9) rfl dX1_next_297 ?_
                            refine lv_iload_n hx hb dX1_next_300 rfl (lv_at hl 4 rfl) ?_
                            refine va_iald hx hb hK hP 4 1 rfl rfl (vp_in_nI (by omega) (by decide)) dX1_next_301 ?_
                            refine lv_topi (fun x_437 e_438 => ?_)
                            obtain rfl : x_437 = nI (x4 g) := e_438.trans (by rw [nI_clamp (by omega)])
                            refine lv_goto (tgt := 307) hx hb dX1_next_302 (by decide) ?_
                            refine lv_istore (lv' := [(5, .int (nI (x4 g))), (9, .int (nI (ts1 x2 (Y 8) g))), (8, .int (bI (rb x2 (Y 8) (g + 1)))), (7, .int (nI (x2 g))), (0, .ref (ad 0)), (1, .int (nI g)), (2, .int (nI many)), (3, .int (nI much)), (4, .int (nI bf)), (6, .int (nI en))]) hx hb dX1_next_307 hl (by decide) rfl (fun ls hl => ?_)
                            refine lv_iload_n hx hb dX1_next_309 rfl (lv_at hl 6 rfl) ?_
                            refine lv_sipush (v := nI 8000) hx hb dX1_next_310 (by decide) ?_
                            refine lv_icmp_ne (tgt := 325) hx hb dX1_next_313 (by decide) (fun c_439 => ?_) (fun c_439 => ?_)
                            · have c_439 := mt (nI_eq (a := many) (b := 8000) (by omega) (by omega)).mpr c_439
                              refine lv_iload_n hx hb dX1_next_325 rfl (lv_at hl 7 rfl) ?_
                              refine lv_istore_n (lv' := [(3, .int (nI much)), (5, .int (nI (x4 g))), (9, .int (nI (ts1 x2 (Y 8) g))), (8, .int (bI (rb x2 (Y 8) (g + 1)))), (7, .int (nI (x2 g))), (0, .ref (ad 0)), (1, .int (nI g)), (2, .int (nI many)), (4, .int (nI bf)), (6, .int (nI en))]) hx hb dX1_next_326 rfl hl (by decide) rfl (fun ls hl => ?_)
                              refine lv_iload_n hx hb dX1_next_327 rfl (lv_at hl 7 rfl) ?_
                              refine lv_sipush (v := nI 8000) hx hb dX1_next_328 (by decide) ?_
                              refine lv_icmp_ge (tgt := 343) hx hb dX1_next_331 (by decide) (fun c_440 => ?_) (fun c_440 => ?_)
                              · have c_440 := (nI_leI (a := 8000) (b := many) (by omega) (by omega)).mp c_440
                                omega
                              · have c_440 := mt (nI_leI (a := 8000) (b := many) (by omega) (by omega)).mpr c_440
                                refine lv_aload_n hx hb dX1_next_334 rfl (lv_at hl 5 rfl) ?_
                                refine lv_iload_n hx hb dX1_next_335 rfl (lv_at hl 6 rfl) ?_
                                refine lv_iload hx hb dX1_next_336 (lv_at hl 2 rfl) ?_
                                refine lv_iload hx hb dX1_next_338 (lv_at hl 8 rfl) ?_
                                refine rm_callv (va_runV (As := [.int (nI g), .int (nI (ts1 x2 (Y 8) g)), .int (nI bf)]) (rest := []) ⟨hx, hb, hml, hown, hts⟩ (r_keep l dC dI ct ad H.size (zu Y 7 (Y 7 + 1)) x1 x2 x3 x4 x5 x6 x7 x8 x9 g (ts1 x2 (Y 8) g) bf (show g < 32768 by omega) (show Y 18 + ts1 x2 (Y 8) g ≤ 32768 by omega) (show g + ts1 x2 (Y 8) g ≤ 32768 by omega) h2 (show Y 13 < 8000 by omega) (show bf ≤ 1 by omega)) (cwV 3 hts (gV (fun _ h => h) ml_X1_132 im_X1_keep se_X1_keep ini_X1 co_X1_keep) rfl rfl rfl pd_X1_keep ⟨Nat.le_of_ble_eq_true rfl, Nat.le_of_ble_eq_true rfl⟩) (rm_preS hK hP hD) rfl rfl hl.1 rfl (lv_room (Nat.le_of_ble_eq_true rfl)) dX1_next_340 ⟨Nat.zero_le _, Nat.zero_le _⟩) hD hS hA (fun u_442 H locs q_441 hP hD hS => ?_)
                                subst q_441
                                have hP : va_P (dC, dI) vwCl (rmW ct ad ((zu (zu (zu Y 7 (Y 7 + 1)) 13 (Y 13 + 1)) 18 (Y 18 + (ts1 x2 (Y 8) g))), x1, x2, x3, x4, (nu x5 (Y 13) (Y 18)), (nu x6 (Y 13) (ts1 x2 (Y 8) g)), (nu x7 (Y 13) (x4 g)), (nu x8 (Y 13) bf), (cpG (fun i => x2 (g + i)) (Y 18) (ts1 x2 (Y 8) g) x9))) H := hP
                                have hD : va_D A (rmW ct ad ((zu (zu (zu Y 7 (Y 7 + 1)) 13 (Y 13 + 1)) 18 (Y 18 + (ts1 x2 (Y 8) g))), x1, x2, x3, x4, (nu x5 (Y 13) (Y 18)), (nu x6 (Y 13) (ts1 x2 (Y 8) g)), (nu x7 (Y 13) (x4 g)), (nu x8 (Y 13) bf), (cpG (fun i => x2 (g + i)) (Y 18) (ts1 x2 (Y 8) g) x9))) := hD
                                refine lv_iinc (v := nI (many + 1)) (lv' := [(2, .int (nI (many + 1))), (3, .int (nI much)), (5, .int (nI (x4 g))), (9, .int (nI (ts1 x2 (Y 8) g))), (8, .int (bI (rb x2 (Y 8) (g + 1)))), (7, .int (nI (x2 g))), (0, .ref (ad 0)), (1, .int (nI g)), (4, .int (nI bf)), (6, .int (nI en))]) hx hb dX1_next_343 hl (k := 7) rfl (by exact nI_add many 1) (by decide) rfl (fun ls hl => ?_)
                                refine lv_iconst (v := nI 0) hx hb dX1_next_346 (by decide) ?_
                                refine lv_istore (lv' := [(4, .int (nI 0)), (2, .int (nI (many + 1))), (3, .int (nI much)), (5, .int (nI (x4 g))), (9, .int (nI (ts1 x2 (Y 8) g))), (8, .int (bI (rb x2 (Y 8) (g + 1)))), (7, .int (nI (x2 g))), (0, .ref (ad 0)), (1, .int (nI g)), (6, .int (nI en))]) hx hb dX1_next_347 hl (by decide) rfl (fun ls hl => ?_)
                                refine lv_iload_n hx hb dX1_next_349 rfl (lv_at hl 8 rfl) ?_
                                refine lv_iload hx hb dX1_next_350 (lv_at hl 4 rfl) ?_
                                refine lv_iadd hx hb dX1_next_352 ?_
                                refine lv_topi (fun x_444 e_445 => ?_)
                                obtain rfl : x_444 = nI (g + (ts1 x2 (Y 8) g)) := e_445.trans (nI_add g (ts1 x2 (Y 8) g))
                                refine lv_istore_n (lv' := [(1, .int (nI (g + (ts1 x2 (Y 8) g)))), (4, .int (nI 0)), (2, .int (nI (many + 1))), (3, .int (nI much)), (5, .int (nI (x4 g))), (9, .int (nI (ts1 x2 (Y 8) g))), (8, .int (bI (rb x2 (Y 8) (g + 1)))), (7, .int (nI (x2 g))), (0, .ref (ad 0)), (6, .int (nI en))]) hx hb dX1_next_353 rfl hl (by decide) rfl (fun ls hl => ?_)
                                refine lv_goto (tgt := 65) hx hb dX1_next_354 (by decide) ?_
                                rw [rL, if_neg (by omega), if_neg (by omega), if_neg (by rw [c_94]; decide), if_neg (by omega), if_neg (by omega), if_neg (by omega), rQ, if_pos (by omega), rKY, if_pos (by omega), rK5, if_pos (by omega), rK6, if_pos (by omega), rK6, if_pos (by omega), rK6, if_pos (by omega), rK9, if_pos (by omega), if_neg (by omega), if_pos (by omega)] at hQ
                                exact ih (zu (zu (zu Y 7 (Y 7 + 1)) 13 (Y 13 + 1)) 18 (Y 18 + (ts1 x2 (Y 8) g))) ((nu x5 (Y 13) (Y 18))) ((nu x6 (Y 13) (ts1 x2 (Y 8) g))) ((nu x7 (Y 13) (x4 g))) ((nu x8 (Y 13) bf)) ((cpG (fun i => x2 (g + i)) (Y 18) (ts1 x2 (Y 8) g) x9)) (g + (ts1 x2 (Y 8) g)) (many + 1) much 0 (x4 g) en (by show Y 8 - (g + (ts1 x2 (Y 8) g)) + 1 - en < k; omega) (show (Y 8) ≤ 32768 by omega) (show (g + (ts1 x2 (Y 8) g)) ≤ (Y 8) by omega) (show (Y 18 + (ts1 x2 (Y 8) g)) ≤ (g + (ts1 x2 (Y 8) g)) by omega) (show (many + 1) ≤ (g + (ts1 x2 (Y 8) g)) by omega) (show (many + 1) ≤ 8000 → (Y 13 + 1) = (many + 1) by omega) (show 0 ≤ 1 by omega) (show en ≤ 1 by omega) (show (Y 7 + 1) ≤ 1000 by omega) (show (Y 6) ≤ 20000 by omega) (show en = 1 → (g + (ts1 x2 (Y 8) g)) < (Y 8) by omega) hQ _ _ hP hD hS _ (lv_sub hl [8, 0, 2, 3, 1, 4, 9] rfl)
                            · have c_439 := (nI_eq (a := many) (b := 8000) (by omega) (by omega)).mp c_439
                              omega
                        · have c_421 := mt (nI_leI (a := Y 7 + 1) (b := 1000) (by omega) (by omega)).mpr c_421
                          refine lv_aload_n hx hb dX1_next_279 rfl (lv_at hl 3 rfl) ?_
                          refine lv_bipush (v := nI 21) hx hb dX1_next_280 (by decide) ?_
                          refine lv_aload_n hx hb dX1_next_282 rfl (lv_at hl 3 rfl) ?_
                          refine va_get (D := (dC, dI)) (ci := 1) (v := .ref (ad 4)) (C := RX1) (T := TX1) (N := 20) hx hb hts inX1 hown hK hP 0 rfl rfl 11 (by decide) (hts _ fl_X1_21) (fun _ h9 => h9) rfl dX1_next_283 ?_
                          refine lv_iload_n hx hb dX1_next_286 rfl (lv_at hl 4 rfl) ?_
                          refine va_iald hx hb hK hP 4 1 rfl rfl (vp_in_nI (by omega) (by decide)) dX1_next_287 ?_
                          refine lv_topi (fun x_446 e_447 => ?_)
                          obtain rfl : x_446 = nI (x4 g) := e_447.trans (by rw [nI_clamp (by omega)])
                          refine rm_calli (va_runV (As := [.int (nI 21), .int (nI (x4 g))]) (rest := []) ⟨hx, hb, hml, hown, hts⟩ (r_stop l dC dI ct ad H.size (zu Y 7 (Y 7 + 1)) x1 x2 x3 x4 x5 x6 x7 x8 x9 21 (x4 g)) (cwV 2 hts (gV (fun _ h => h) ml_X1_126 im_X1_stop se_X1_stop ini_X1 co_X1_stop) rfl rfl rfl pd_X1_stop ⟨Nat.le_of_ble_eq_true rfl, Nat.le_of_ble_eq_true rfl⟩) (rm_preS hK hP hD) rfl rfl hl.1 rfl (lv_room (Nat.le_of_ble_eq_true rfl)) dX1_next_288 ⟨Nat.zero_le _, Nat.zero_le _⟩) hD hS hA (fun r_450 u_449 H locs q_448 hP hD hS => ?_)
                          obtain ⟨rfl, rfl⟩ := q_448
                          have hP : va_P (dC, dI) vwCl (rmW ct ad ((zu (zu (zu (zu Y 4 1) 5 (x4 g)) 7 (Y 7 + 1)) 13 0), x1, x2, x3, x4, x5, x6, x7, x8, x9)) H := hP
                          have hD : va_D A (rmW ct ad ((zu (zu (zu (zu Y 4 1) 5 (x4 g)) 7 (Y 7 + 1)) 13 0), x1, x2, x3, x4, x5, x6, x7, x8, x9)) := hD
                          have hP : va_P (dC, dI) vwCl (rmW ct ad (rSt (zu Y 7 (Y 7 + 1)) (x4 g), x1, x2, x3, x4, x5, x6, x7, x8, x9)) H := by skip; exact hP
                          have hD : va_D A (rmW ct ad (rSt (zu Y 7 (Y 7 + 1)) (x4 g), x1, x2, x3, x4, x5, x6, x7, x8, x9)) := by skip; exact hD
                          exact W.iret (v := (-10) - nI 21) hx hb hr (fun t ht hW => ⟨⟨_, (rSt (zu Y 7 (Y 7 + 1)) (x4 g), x1, x2, x3, x4, x5, x6, x7, x8, x9), rfl, (by rw [rL, if_neg (by omega), if_neg (by omega), if_neg (by rw [c_94]; decide), if_neg (by omega), if_neg (by omega), if_pos (by omega), rQ, if_pos (by omega)] at hQ; exact hQ), by rw [ht]; exact hP, va_K.moved hW.alike hK, hD⟩, hS.F ht⟩) hS.2.2 dX1_next_291
                · have c_333 := (nI_eq (a := x2 g) (b := 47) (by omega) (by omega)).mp c_333
                  refine lv_iload hx hb dX1_next_190 (lv_at hl 0 rfl) ?_
                  refine lv_bipush (v := nI 47) hx hb dX1_next_192 (by decide) ?_
                  refine lv_icmp_ne (tgt := 228) hx hb dX1_next_194 (by decide) (fun c_451 => ?_) (fun c_451 => ?_)
                  · have c_451 := mt (bI_eqN (k := 47) (by omega)).mpr c_451
                    refine lv_aload_n hx hb dX1_next_228 rfl (lv_at hl 2 rfl) ?_
                    refine lv_iload_n hx hb dX1_next_229 rfl (lv_at hl 3 rfl) ?_
                    refine lv_aload_n hx hb dX1_next_230 rfl (lv_at hl 2 rfl) ?_
                    refine va_get (D := (dC, dI)) (ci := 1) (v := .int (nI (Y 8))) (C := RX1) (T := TX1) (N := 20) hx hb hts inX1 hown hK hP 0 rfl rfl 8 (by decide) (hts _ fl_X1_107) (fun _ h9 => h9) rfl dX1_next_231 ?_
                    have hwH := hw.kept (H1 := H) (fun a h1 h2 => hS.2.1 a h1 (fun z => h2 (hAA a z)))
                    refine vp_callSi (va_Run.run (va_runV (As := [.int (nI g), .int (nI (Y 8))]) (rest := []) ⟨hx, hb, hml, hown, hts⟩ (r_tokenSizeAt l dC dI ct ad dK dV A0 Y x1 x2 x3 x4 x5 x6 x7 x8 x9 g (Y 8) (show g < Y 8 by omega) (show Y 8 ≤ 32768 by omega) h2) (cwV 2 hts (gV (fun _ h => h) ml_X1_129 im_X1_tokenSizeAt se_X1_tokenSizeAt ini_X1 co_X1_tokenSizeAt) rfl rfl rfl pd_X1_tokenSizeAt ⟨Nat.le_of_ble_eq_true rfl, Nat.le_of_ble_eq_true rfl⟩) (rm_preRW hK hP hwH) rfl rfl hl.1 rfl (lv_room (Nat.le_of_ble_eq_true rfl)) dX1_next_234 ⟨Nat.zero_le _, Nat.zero_le _⟩)) (fun r_452 (e_453 : r_452 = nI (ts1 x2 (Y 8) g)) => ?_)
                    subst e_453
                    have := ts1_b h2 (show g < Y 8 by omega)
                    refine lv_istore (lv' := [(9, .int (nI (ts1 x2 (Y 8) g))), (8, .int (bI (rb x2 (Y 8) (g + 1)))), (7, .int (nI (x2 g))), (0, .ref (ad 0)), (1, .int (nI g)), (2, .int (nI many)), (3, .int (nI much)), (4, .int (nI bf)), (5, .int (nI first)), (6, .int (nI en))]) hx hb dX1_next_237 hl (by decide) rfl (fun ls hl => ?_)
                    refine lv_iload hx hb dX1_next_239 (lv_at hl 0 rfl) ?_
                    refine lv_iconst (v := nI 1) hx hb dX1_next_241 (by decide) ?_
                    refine lv_icmp_ne (tgt := 292) hx hb dX1_next_242 (by decide) (fun c_454 => ?_) (fun c_454 => ?_)
                    · have c_454 := mt (nI_eq (a := ts1 x2 (Y 8) g) (b := 1) (by omega) (by omega)).mpr c_454
                      refine lv_iload_n hx hb dX1_next_292 rfl (lv_at hl 5 rfl) ?_
                      refine lv_if_ne (tgt := 305) hx hb dX1_next_293 (by decide) (fun c_455 => ?_) (fun c_455 => ?_)
                      · have c_455 := mt (nI_eq (a := many) (b := 0) (by omega) (by omega)).mpr c_455
                        refine lv_iload hx hb dX1_next_305 (lv_at hl 8 rfl) ?_
                        refine lv_istore (lv' := [(5, .int (nI first)), (9, .int (nI (ts1 x2 (Y 8) g))), (8, .int (bI (rb x2 (Y 8) (g + 1)))), (7, .int (nI (x2 g))), (0, .ref (ad 0)), (1, .int (nI g)), (2, .int (nI many)), (3, .int (nI much)), (4, .int (nI bf)), (6, .int (nI en))]) hx hb dX1_next_307 hl (by decide) rfl (fun ls hl => ?_)
                        refine lv_iload_n hx hb dX1_next_309 rfl (lv_at hl 6 rfl) ?_
                        refine lv_sipush (v := nI 8000) hx hb dX1_next_310 (by decide) ?_
                        refine lv_icmp_ne (tgt := 325) hx hb dX1_next_313 (by decide) (fun c_456 => ?_) (fun c_456 => ?_)
                        · have c_456 := mt (nI_eq (a := many) (b := 8000) (by omega) (by omega)).mpr c_456
                          refine lv_iload_n hx hb dX1_next_325 rfl (lv_at hl 7 rfl) ?_
                          refine lv_istore_n (lv' := [(3, .int (nI much)), (5, .int (nI first)), (9, .int (nI (ts1 x2 (Y 8) g))), (8, .int (bI (rb x2 (Y 8) (g + 1)))), (7, .int (nI (x2 g))), (0, .ref (ad 0)), (1, .int (nI g)), (2, .int (nI many)), (4, .int (nI bf)), (6, .int (nI en))]) hx hb dX1_next_326 rfl hl (by decide) rfl (fun ls hl => ?_)
                          refine lv_iload_n hx hb dX1_next_327 rfl (lv_at hl 7 rfl) ?_
                          refine lv_sipush (v := nI 8000) hx hb dX1_next_328 (by decide) ?_
                          refine lv_icmp_ge (tgt := 343) hx hb dX1_next_331 (by decide) (fun c_457 => ?_) (fun c_457 => ?_)
                          · have c_457 := (nI_leI (a := 8000) (b := many) (by omega) (by omega)).mp c_457
                            refine lv_iinc (v := nI (many + 1)) (lv' := [(2, .int (nI (many + 1))), (3, .int (nI much)), (5, .int (nI first)), (9, .int (nI (ts1 x2 (Y 8) g))), (8, .int (bI (rb x2 (Y 8) (g + 1)))), (7, .int (nI (x2 g))), (0, .ref (ad 0)), (1, .int (nI g)), (4, .int (nI bf)), (6, .int (nI en))]) hx hb dX1_next_343 hl (k := 7) rfl (by exact nI_add many 1) (by decide) rfl (fun ls hl => ?_)
                            refine lv_iconst (v := nI 0) hx hb dX1_next_346 (by decide) ?_
                            refine lv_istore (lv' := [(4, .int (nI 0)), (2, .int (nI (many + 1))), (3, .int (nI much)), (5, .int (nI first)), (9, .int (nI (ts1 x2 (Y 8) g))), (8, .int (bI (rb x2 (Y 8) (g + 1)))), (7, .int (nI (x2 g))), (0, .ref (ad 0)), (1, .int (nI g)), (6, .int (nI en))]) hx hb dX1_next_347 hl (by decide) rfl (fun ls hl => ?_)
                            refine lv_iload_n hx hb dX1_next_349 rfl (lv_at hl 8 rfl) ?_
                            refine lv_iload hx hb dX1_next_350 (lv_at hl 4 rfl) ?_
                            refine lv_iadd hx hb dX1_next_352 ?_
                            refine lv_topi (fun x_458 e_459 => ?_)
                            obtain rfl : x_458 = nI (g + (ts1 x2 (Y 8) g)) := e_459.trans (nI_add g (ts1 x2 (Y 8) g))
                            refine lv_istore_n (lv' := [(1, .int (nI (g + (ts1 x2 (Y 8) g)))), (4, .int (nI 0)), (2, .int (nI (many + 1))), (3, .int (nI much)), (5, .int (nI first)), (9, .int (nI (ts1 x2 (Y 8) g))), (8, .int (bI (rb x2 (Y 8) (g + 1)))), (7, .int (nI (x2 g))), (0, .ref (ad 0)), (6, .int (nI en))]) hx hb dX1_next_353 rfl hl (by decide) rfl (fun ls hl => ?_)
                            refine lv_goto (tgt := 65) hx hb dX1_next_354 (by decide) ?_
                            rw [rL, if_neg (by omega), if_neg (by omega), if_neg (by rw [c_94]; decide), if_neg (by omega), if_neg (by omega), if_neg (by omega), rQ, if_neg (by omega), rKY, if_neg (by omega), rK5, if_neg (by omega), rK6, if_neg (by omega), rK6, if_neg (by omega), rK6, if_neg (by omega), rK9, if_neg (by omega), if_neg (by omega), if_neg (by omega)] at hQ
                            exact ih Y x5 x6 x7 x8 x9 (g + (ts1 x2 (Y 8) g)) (many + 1) much 0 first en (by show Y 8 - (g + (ts1 x2 (Y 8) g)) + 1 - en < k; omega) (show (Y 8) ≤ 32768 by omega) (show (g + (ts1 x2 (Y 8) g)) ≤ (Y 8) by omega) (show (Y 18) ≤ (g + (ts1 x2 (Y 8) g)) by omega) (show (many + 1) ≤ (g + (ts1 x2 (Y 8) g)) by omega) (show (many + 1) ≤ 8000 → (Y 13) = (many + 1) by omega) (show 0 ≤ 1 by omega) (show en ≤ 1 by omega) (show (Y 7) ≤ 1000 by omega) (show (Y 6) ≤ 20000 by omega) (show en = 1 → (g + (ts1 x2 (Y 8) g)) < (Y 8) by omega) hQ _ _ hP hD hS _ (lv_sub hl [8, 0, 2, 3, 1, 4, 9] rfl)
                          · have c_457 := mt (nI_leI (a := 8000) (b := many) (by omega) (by omega)).mpr c_457
                            refine lv_aload_n hx hb dX1_next_334 rfl (lv_at hl 5 rfl) ?_
                            refine lv_iload_n hx hb dX1_next_335 rfl (lv_at hl 6 rfl) ?_
                            refine lv_iload hx hb dX1_next_336 (lv_at hl 2 rfl) ?_
                            refine lv_iload hx hb dX1_next_338 (lv_at hl 8 rfl) ?_
                            refine rm_callv (va_runV (As := [.int (nI g), .int (nI (ts1 x2 (Y 8) g)), .int (nI bf)]) (rest := []) ⟨hx, hb, hml, hown, hts⟩ (r_keep l dC dI ct ad H.size Y x1 x2 x3 x4 x5 x6 x7 x8 x9 g (ts1 x2 (Y 8) g) bf (show g < 32768 by omega) (show Y 18 + ts1 x2 (Y 8) g ≤ 32768 by omega) (show g + ts1 x2 (Y 8) g ≤ 32768 by omega) h2 (show Y 13 < 8000 by omega) (show bf ≤ 1 by omega)) (cwV 3 hts (gV (fun _ h => h) ml_X1_132 im_X1_keep se_X1_keep ini_X1 co_X1_keep) rfl rfl rfl pd_X1_keep ⟨Nat.le_of_ble_eq_true rfl, Nat.le_of_ble_eq_true rfl⟩) (rm_preS hK hP hD) rfl rfl hl.1 rfl (lv_room (Nat.le_of_ble_eq_true rfl)) dX1_next_340 ⟨Nat.zero_le _, Nat.zero_le _⟩) hD hS hA (fun u_461 H locs q_460 hP hD hS => ?_)
                            subst q_460
                            have hP : va_P (dC, dI) vwCl (rmW ct ad ((zu (zu Y 13 (Y 13 + 1)) 18 (Y 18 + (ts1 x2 (Y 8) g))), x1, x2, x3, x4, (nu x5 (Y 13) (Y 18)), (nu x6 (Y 13) (ts1 x2 (Y 8) g)), (nu x7 (Y 13) (x4 g)), (nu x8 (Y 13) bf), (cpG (fun i => x2 (g + i)) (Y 18) (ts1 x2 (Y 8) g) x9))) H := hP
                            have hD : va_D A (rmW ct ad ((zu (zu Y 13 (Y 13 + 1)) 18 (Y 18 + (ts1 x2 (Y 8) g))), x1, x2, x3, x4, (nu x5 (Y 13) (Y 18)), (nu x6 (Y 13) (ts1 x2 (Y 8) g)), (nu x7 (Y 13) (x4 g)), (nu x8 (Y 13) bf), (cpG (fun i => x2 (g + i)) (Y 18) (ts1 x2 (Y 8) g) x9))) := hD
                            refine lv_iinc (v := nI (many + 1)) (lv' := [(2, .int (nI (many + 1))), (3, .int (nI much)), (5, .int (nI first)), (9, .int (nI (ts1 x2 (Y 8) g))), (8, .int (bI (rb x2 (Y 8) (g + 1)))), (7, .int (nI (x2 g))), (0, .ref (ad 0)), (1, .int (nI g)), (4, .int (nI bf)), (6, .int (nI en))]) hx hb dX1_next_343 hl (k := 7) rfl (by exact nI_add many 1) (by decide) rfl (fun ls hl => ?_)
                            refine lv_iconst (v := nI 0) hx hb dX1_next_346 (by decide) ?_
                            refine lv_istore (lv' := [(4, .int (nI 0)), (2, .int (nI (many + 1))), (3, .int (nI much)), (5, .int (nI first)), (9, .int (nI (ts1 x2 (Y 8) g))), (8, .int (bI (rb x2 (Y 8) (g + 1)))), (7, .int (nI (x2 g))), (0, .ref (ad 0)), (1, .int (nI g)), (6, .int (nI en))]) hx hb dX1_next_347 hl (by decide) rfl (fun ls hl => ?_)
                            refine lv_iload_n hx hb dX1_next_349 rfl (lv_at hl 8 rfl) ?_
                            refine lv_iload hx hb dX1_next_350 (lv_at hl 4 rfl) ?_
                            refine lv_iadd hx hb dX1_next_352 ?_
                            refine lv_topi (fun x_463 e_464 => ?_)
                            obtain rfl : x_463 = nI (g + (ts1 x2 (Y 8) g)) := e_464.trans (nI_add g (ts1 x2 (Y 8) g))
                            refine lv_istore_n (lv' := [(1, .int (nI (g + (ts1 x2 (Y 8) g)))), (4, .int (nI 0)), (2, .int (nI (many + 1))), (3, .int (nI much)), (5, .int (nI first)), (9, .int (nI (ts1 x2 (Y 8) g))), (8, .int (bI (rb x2 (Y 8) (g + 1)))), (7, .int (nI (x2 g))), (0, .ref (ad 0)), (6, .int (nI en))]) hx hb dX1_next_353 rfl hl (by decide) rfl (fun ls hl => ?_)
                            refine lv_goto (tgt := 65) hx hb dX1_next_354 (by decide) ?_
                            rw [rL, if_neg (by omega), if_neg (by omega), if_neg (by rw [c_94]; decide), if_neg (by omega), if_neg (by omega), if_neg (by omega), rQ, if_neg (by omega), rKY, if_pos (by omega), rK5, if_pos (by omega), rK6, if_pos (by omega), rK6, if_pos (by omega), rK6, if_pos (by omega), rK9, if_pos (by omega), if_neg (by omega), if_neg (by omega)] at hQ
                            exact ih (zu (zu Y 13 (Y 13 + 1)) 18 (Y 18 + (ts1 x2 (Y 8) g))) ((nu x5 (Y 13) (Y 18))) ((nu x6 (Y 13) (ts1 x2 (Y 8) g))) ((nu x7 (Y 13) (x4 g))) ((nu x8 (Y 13) bf)) ((cpG (fun i => x2 (g + i)) (Y 18) (ts1 x2 (Y 8) g) x9)) (g + (ts1 x2 (Y 8) g)) (many + 1) much 0 first en (by show Y 8 - (g + (ts1 x2 (Y 8) g)) + 1 - en < k; omega) (show (Y 8) ≤ 32768 by omega) (show (g + (ts1 x2 (Y 8) g)) ≤ (Y 8) by omega) (show (Y 18 + (ts1 x2 (Y 8) g)) ≤ (g + (ts1 x2 (Y 8) g)) by omega) (show (many + 1) ≤ (g + (ts1 x2 (Y 8) g)) by omega) (show (many + 1) ≤ 8000 → (Y 13 + 1) = (many + 1) by omega) (show 0 ≤ 1 by omega) (show en ≤ 1 by omega) (show (Y 7) ≤ 1000 by omega) (show (Y 6) ≤ 20000 by omega) (show en = 1 → (g + (ts1 x2 (Y 8) g)) < (Y 8) by omega) hQ _ _ hP hD hS _ (lv_sub hl [8, 0, 2, 3, 1, 4, 9] rfl)
                        · have c_456 := (nI_eq (a := many) (b := 8000) (by omega) (by omega)).mp c_456
                          refine lv_aload_n hx hb dX1_next_316 rfl (lv_at hl 4 rfl) ?_
                          refine va_get (D := (dC, dI)) (ci := 1) (v := .ref (ad 4)) (C := RX1) (T := TX1) (N := 20) hx hb hts inX1 hown hK hP 0 rfl rfl 11 (by decide) (hts _ fl_X1_21) (fun _ h9 => h9) rfl dX1_next_317 ?_
                          refine lv_iload_n hx hb dX1_next_320 rfl (lv_at hl 5 rfl) ?_
                          refine va_iald hx hb hK hP 4 1 rfl rfl (vp_in_nI (by omega) (by decide)) dX1_next_321 ?_
                          refine lv_topi (fun x_465 e_466 => ?_)
                          obtain rfl : x_465 = nI (x4 g) := e_466.trans (by rw [nI_clamp (by omega)])
                          refine lv_goto (tgt := 326) hx hb dX1_next_322 (by decide) ?_
                          refine lv_istore_n (lv' := [(3, .int (nI (x4 g))), (5, .int (nI first)), (9, .int (nI (ts1 x2 (Y 8) g))), (8, .int (bI (rb x2 (Y 8) (g + 1)))), (7, .int (nI (x2 g))), (0, .ref (ad 0)), (1, .int (nI g)), (2, .int (nI many)), (4, .int (nI bf)), (6, .int (nI en))]) hx hb dX1_next_326 rfl hl (by decide) rfl (fun ls hl => ?_)
                          refine lv_iload_n hx hb dX1_next_327 rfl (lv_at hl 7 rfl) ?_
                          refine lv_sipush (v := nI 8000) hx hb dX1_next_328 (by decide) ?_
                          refine lv_icmp_ge (tgt := 343) hx hb dX1_next_331 (by decide) (fun c_467 => ?_) (fun c_467 => ?_)
                          · have c_467 := (nI_leI (a := 8000) (b := many) (by omega) (by omega)).mp c_467
                            refine lv_iinc (v := nI (many + 1)) (lv' := [(2, .int (nI (many + 1))), (3, .int (nI (x4 g))), (5, .int (nI first)), (9, .int (nI (ts1 x2 (Y 8) g))), (8, .int (bI (rb x2 (Y 8) (g + 1)))), (7, .int (nI (x2 g))), (0, .ref (ad 0)), (1, .int (nI g)), (4, .int (nI bf)), (6, .int (nI en))]) hx hb dX1_next_343 hl (k := 7) rfl (by exact nI_add many 1) (by decide) rfl (fun ls hl => ?_)
                            refine lv_iconst (v := nI 0) hx hb dX1_next_346 (by decide) ?_
                            refine lv_istore (lv' := [(4, .int (nI 0)), (2, .int (nI (many + 1))), (3, .int (nI (x4 g))), (5, .int (nI first)), (9, .int (nI (ts1 x2 (Y 8) g))), (8, .int (bI (rb x2 (Y 8) (g + 1)))), (7, .int (nI (x2 g))), (0, .ref (ad 0)), (1, .int (nI g)), (6, .int (nI en))]) hx hb dX1_next_347 hl (by decide) rfl (fun ls hl => ?_)
                            refine lv_iload_n hx hb dX1_next_349 rfl (lv_at hl 8 rfl) ?_
                            refine lv_iload hx hb dX1_next_350 (lv_at hl 4 rfl) ?_
                            refine lv_iadd hx hb dX1_next_352 ?_
                            refine lv_topi (fun x_468 e_469 => ?_)
                            obtain rfl : x_468 = nI (g + (ts1 x2 (Y 8) g)) := e_469.trans (nI_add g (ts1 x2 (Y 8) g))
                            refine lv_istore_n (lv' := [(1, .int (nI (g + (ts1 x2 (Y 8) g)))), (4, .int (nI 0)), (2, .int (nI (many + 1))), (3, .int (nI (x4 g))), (5, .int (nI first)), (9, .int (nI (ts1 x2 (Y 8) g))), (8, .int (bI (rb x2 (Y 8) (g + 1)))), (7, .int (nI (x2 g))), (0, .ref (ad 0)), (6, .int (nI en))]) hx hb dX1_next_353 rfl hl (by decide) rfl (fun ls hl => ?_)
                            refine lv_goto (tgt := 65) hx hb dX1_next_354 (by decide) ?_
                            rw [rL, if_neg (by omega), if_neg (by omega), if_neg (by rw [c_94]; decide), if_neg (by omega), if_neg (by omega), if_neg (by omega), rQ, if_neg (by omega), rKY, if_neg (by omega), rK5, if_neg (by omega), rK6, if_neg (by omega), rK6, if_neg (by omega), rK6, if_neg (by omega), rK9, if_neg (by omega), if_pos (by omega), if_neg (by omega)] at hQ
                            exact ih Y x5 x6 x7 x8 x9 (g + (ts1 x2 (Y 8) g)) (many + 1) (x4 g) 0 first en (by show Y 8 - (g + (ts1 x2 (Y 8) g)) + 1 - en < k; omega) (show (Y 8) ≤ 32768 by omega) (show (g + (ts1 x2 (Y 8) g)) ≤ (Y 8) by omega) (show (Y 18) ≤ (g + (ts1 x2 (Y 8) g)) by omega) (show (many + 1) ≤ (g + (ts1 x2 (Y 8) g)) by omega) (show (many + 1) ≤ 8000 → (Y 13) = (many + 1) by omega) (show 0 ≤ 1 by omega) (show en ≤ 1 by omega) (show (Y 7) ≤ 1000 by omega) (show (Y 6) ≤ 20000 by omega) (show en = 1 → (g + (ts1 x2 (Y 8) g)) < (Y 8) by omega) hQ _ _ hP hD hS _ (lv_sub hl [8, 0, 2, 3, 1, 4, 9] rfl)
                          · have c_467 := mt (nI_leI (a := 8000) (b := many) (by omega) (by omega)).mpr c_467
                            omega
                      · have c_455 := (nI_eq (a := many) (b := 0) (by omega) (by omega)).mp c_455
                        refine lv_aload_n hx hb dX1_next_296 rfl (lv_at hl 3 rfl) ?_
                        refine va_get (D := (dC, dI)) (ci := 1) (v := .ref (ad 4)) (C := RX1) (T := TX1) (N := 20) hx hb hts inX1 hown hK hP 0 rfl rfl 11 (by decide) (hts _ fl_X1_21) (fun _ h9 => h9) rfl dX1_next_297 ?_
                        refine lv_iload_n hx hb dX1_next_300 rfl (lv_at hl 4 rfl) ?_
                        refine va_iald hx hb hK hP 4 1 rfl rfl (vp_in_nI (by omega) (by decide)) dX1_next_301 ?_
                        refine lv_topi (fun x_470 e_471 => ?_)
                        obtain rfl : x_470 = nI (x4 g) := e_471.trans (by rw [nI_clamp (by omega)])
                        refine lv_goto (tgt := 307) hx hb dX1_next_302 (by decide) ?_
                        refine lv_istore (lv' := [(5, .int (nI (x4 g))), (9, .int (nI (ts1 x2 (Y 8) g))), (8, .int (bI (rb x2 (Y 8) (g + 1)))), (7, .int (nI (x2 g))), (0, .ref (ad 0)), (1, .int (nI g)), (2, .int (nI many)), (3, .int (nI much)), (4, .int (nI bf)), (6, .int (nI en))]) hx hb dX1_next_307 hl (by decide) rfl (fun ls hl => ?_)
                        refine lv_iload_n hx hb dX1_next_309 rfl (lv_at hl 6 rfl) ?_
                        refine lv_sipush (v := nI 8000) hx hb dX1_next_310 (by decide) ?_
                        refine lv_icmp_ne (tgt := 325) hx hb dX1_next_313 (by decide) (fun c_472 => ?_) (fun c_472 => ?_)
                        · have c_472 := mt (nI_eq (a := many) (b := 8000) (by omega) (by omega)).mpr c_472
                          refine lv_iload_n hx hb dX1_next_325 rfl (lv_at hl 7 rfl) ?_
                          refine lv_istore_n (lv' := [(3, .int (nI much)), (5, .int (nI (x4 g))), (9, .int (nI (ts1 x2 (Y 8) g))), (8, .int (bI (rb x2 (Y 8) (g + 1)))), (7, .int (nI (x2 g))), (0, .ref (ad 0)), (1, .int (nI g)), (2, .int (nI many)), (4, .int (nI bf)), (6, .int (nI en))]) hx hb dX1_next_326 rfl hl (by decide) rfl (fun ls hl => ?_)
                          refine lv_iload_n hx hb dX1_next_327 rfl (lv_at hl 7 rfl) ?_
                          refine lv_sipush (v := nI 8000) hx hb dX1_next_328 (by decide) ?_
                          refine lv_icmp_ge (tgt := 343) hx hb dX1_next_331 (by decide) (fun c_473 => ?_) (fun c_473 => ?_)
                          · have c_473 := (nI_leI (a := 8000) (b := many) (by omega) (by omega)).mp c_473
                            omega
                          · have c_473 := mt (nI_leI (a := 8000) (b := many) (by omega) (by omega)).mpr c_473
                            refine lv_aload_n hx hb dX1_next_334 rfl (lv_at hl 5 rfl) ?_
                            refine lv_iload_n hx hb dX1_next_335 rfl (lv_at hl 6 rfl) ?_
                            refine lv_iload hx hb dX1_next_336 (lv_at hl 2 rfl) ?_
                            refine lv_iload hx hb dX1_next_338 (lv_at hl 8 rfl) ?_
                            refine rm_callv (va_runV (As := [.int (nI g), .int (nI (ts1 x2 (Y 8) g)), .int (nI bf)]) (rest := []) ⟨hx, hb, hml, hown, hts⟩ (r_keep l dC dI ct ad H.size Y x1 x2 x3 x4 x5 x6 x7 x8 x9 g (ts1 x2 (Y 8) g) bf (show g < 32768 by omega) (show Y 18 + ts1 x2 (Y 8) g ≤ 32768 by omega) (show g + ts1 x2 (Y 8) g ≤ 32768 by omega) h2 (show Y 13 < 8000 by omega) (show bf ≤ 1 by omega)) (cwV 3 hts (gV (fun _ h => h) ml_X1_132 im_X1_keep se_X1_keep ini_X1 co_X1_keep) rfl rfl rfl pd_X1_keep ⟨Nat.le_of_ble_eq_true rfl, Nat.le_of_ble_eq_true rfl⟩) (rm_preS hK hP hD) rfl rfl hl.1 rfl (lv_room (Nat.le_of_ble_eq_true rfl)) dX1_next_340 ⟨Nat.zero_le _, Nat.zero_le _⟩) hD hS hA (fun u_475 H locs q_474 hP hD hS => ?_)
                            subst q_474
                            have hP : va_P (dC, dI) vwCl (rmW ct ad ((zu (zu Y 13 (Y 13 + 1)) 18 (Y 18 + (ts1 x2 (Y 8) g))), x1, x2, x3, x4, (nu x5 (Y 13) (Y 18)), (nu x6 (Y 13) (ts1 x2 (Y 8) g)), (nu x7 (Y 13) (x4 g)), (nu x8 (Y 13) bf), (cpG (fun i => x2 (g + i)) (Y 18) (ts1 x2 (Y 8) g) x9))) H := hP
                            have hD : va_D A (rmW ct ad ((zu (zu Y 13 (Y 13 + 1)) 18 (Y 18 + (ts1 x2 (Y 8) g))), x1, x2, x3, x4, (nu x5 (Y 13) (Y 18)), (nu x6 (Y 13) (ts1 x2 (Y 8) g)), (nu x7 (Y 13) (x4 g)), (nu x8 (Y 13) bf), (cpG (fun i => x2 (g + i)) (Y 18) (ts1 x2 (Y 8) g) x9))) := hD
                            refine lv_iinc (v := nI (many + 1)) (lv' := [(2, .int (nI (many + 1))), (3, .int (nI much)), (5, .int (nI (x4 g))), (9, .int (nI (ts1 x2 (Y 8) g))), (8, .int (bI (rb x2 (Y 8) (g + 1)))), (7, .int (nI (x2 g))), (0, .ref (ad 0)), (1, .int (nI g)), (4, .int (nI bf)), (6, .int (nI en))]) hx hb dX1_next_343 hl (k := 7) rfl (by exact nI_add many 1) (by decide) rfl (fun ls hl => ?_)
                            refine lv_iconst (v := nI 0) hx hb dX1_next_346 (by decide) ?_
                            refine lv_istore (lv' := [(4, .int (nI 0)), (2, .int (nI (many + 1))), (3, .int (nI much)), (5, .int (nI (x4 g))), (9, .int (nI (ts1 x2 (Y 8) g))), (8, .int (bI (rb x2 (Y 8) (g + 1)))), (7, .int (nI (x2 g))), (0, .ref (ad 0)), (1, .int (nI g)), (6, .int (nI en))]) hx hb dX1_next_347 hl (by decide) rfl (fun ls hl => ?_)
                            refine lv_iload_n hx hb dX1_next_349 rfl (lv_at hl 8 rfl) ?_
                            refine lv_iload hx hb dX1_next_350 (lv_at hl 4 rfl) ?_
                            refine lv_iadd hx hb dX1_next_352 ?_
                            refine lv_topi (fun x_477 e_478 => ?_)
                            obtain rfl : x_477 = nI (g + (ts1 x2 (Y 8) g)) := e_478.trans (nI_add g (ts1 x2 (Y 8) g))
                            refine lv_istore_n (lv' := [(1, .int (nI (g + (ts1 x2 (Y 8) g)))), (4, .int (nI 0)), (2, .int (nI (many + 1))), (3, .int (nI much)), (5, .int (nI (x4 g))), (9, .int (nI (ts1 x2 (Y 8) g))), (8, .int (bI (rb x2 (Y 8) (g + 1)))), (7, .int (nI (x2 g))), (0, .ref (ad 0)), (6, .int (nI en))]) hx hb dX1_next_353 rfl hl (by decide) rfl (fun ls hl => ?_)
                            refine lv_goto (tgt := 65) hx hb dX1_next_354 (by decide) ?_
                            rw [rL, if_neg (by omega), if_neg (by omega), if_neg (by rw [c_94]; decide), if_neg (by omega), if_neg (by omega), if_neg (by omega), rQ, if_neg (by omega), rKY, if_pos (by omega), rK5, if_pos (by omega), rK6, if_pos (by omega), rK6, if_pos (by omega), rK6, if_pos (by omega), rK9, if_pos (by omega), if_neg (by omega), if_pos (by omega)] at hQ
                            exact ih (zu (zu Y 13 (Y 13 + 1)) 18 (Y 18 + (ts1 x2 (Y 8) g))) ((nu x5 (Y 13) (Y 18))) ((nu x6 (Y 13) (ts1 x2 (Y 8) g))) ((nu x7 (Y 13) (x4 g))) ((nu x8 (Y 13) bf)) ((cpG (fun i => x2 (g + i)) (Y 18) (ts1 x2 (Y 8) g) x9)) (g + (ts1 x2 (Y 8) g)) (many + 1) much 0 (x4 g) en (by show Y 8 - (g + (ts1 x2 (Y 8) g)) + 1 - en < k; omega) (show (Y 8) ≤ 32768 by omega) (show (g + (ts1 x2 (Y 8) g)) ≤ (Y 8) by omega) (show (Y 18 + (ts1 x2 (Y 8) g)) ≤ (g + (ts1 x2 (Y 8) g)) by omega) (show (many + 1) ≤ (g + (ts1 x2 (Y 8) g)) by omega) (show (many + 1) ≤ 8000 → (Y 13 + 1) = (many + 1) by omega) (show 0 ≤ 1 by omega) (show en ≤ 1 by omega) (show (Y 7) ≤ 1000 by omega) (show (Y 6) ≤ 20000 by omega) (show en = 1 → (g + (ts1 x2 (Y 8) g)) < (Y 8) by omega) hQ _ _ hP hD hS _ (lv_sub hl [8, 0, 2, 3, 1, 4, 9] rfl)
                        · have c_472 := (nI_eq (a := many) (b := 8000) (by omega) (by omega)).mp c_472
                          omega
                    · have c_454 := (nI_eq (a := ts1 x2 (Y 8) g) (b := 1) (by omega) (by omega)).mp c_454
                      refine lv_iload hx hb dX1_next_245 (lv_at hl 2 rfl) ?_
                      refine lv_bipush (v := nI 34) hx hb dX1_next_247 (by decide) ?_
                      refine lv_icmp_eq (tgt := 259) hx hb dX1_next_249 (by decide) (fun c_479 => ?_) (fun c_479 => ?_)
                      · have c_479 := (nI_eq (a := x2 g) (b := 34) (by omega) (by omega)).mp c_479
                        refine lv_aload_n hx hb dX1_next_259 rfl (lv_at hl 3 rfl) ?_
                        refine lv_dup hx hb dX1_next_260 rfl ?_
                        refine va_get (D := (dC, dI)) (ci := 1) (v := .int (nI (Y 7))) (C := RX1) (T := TX1) (N := 20) hx hb hts inX1 hown hK hP 0 rfl rfl 7 (by decide) (hts _ fl_X1_63) (fun _ h9 => h9) rfl dX1_next_261 ?_
                        refine lv_iconst (v := nI 1) hx hb dX1_next_264 (by decide) ?_
                        refine lv_iadd hx hb dX1_next_265 ?_
                        refine lv_topi (fun x_480 e_481 => ?_)
                        obtain rfl : x_480 = nI (Y 7 + 1) := e_481.trans (nI_add (Y 7) 1)
                        refine va_put (D := (dC, dI)) (ci := 1) (v := .int (nI (Y 7 + 1))) (ty := .int) (C := RX1) (T := TX1) (N := 20) hx hb hts inX1 tyX1 okX1 nmX1 hown hK hP hD hS 0 rfl rfl 7 (by decide) (hts _ fl_X1_63) (fun _ h9 => h9) rfl (by decide +kernel) rfl rfl (Nat.le_of_ble_eq_true rfl) dX1_next_266 (fun H locs hP hD hS => ?_)
                        have hP : va_P (dC, dI) vwCl (rmW ct ad ((zu Y 7 (Y 7 + 1)), x1, x2, x3, x4, x5, x6, x7, x8, x9)) H := hP
                        have hD : va_D A (rmW ct ad ((zu Y 7 (Y 7 + 1)), x1, x2, x3, x4, x5, x6, x7, x8, x9)) := hD
                        refine lv_aload_n hx hb dX1_next_269 rfl (lv_at hl 3 rfl) ?_
                        refine va_get (D := (dC, dI)) (ci := 1) (v := .int (nI (Y 7 + 1))) (C := RX1) (T := TX1) (N := 20) hx hb hts inX1 hown hK hP 0 rfl rfl 7 (by decide) (hts _ fl_X1_63) (fun _ h9 => h9) rfl dX1_next_270 ?_
                        refine lv_sipush (v := nI 1000) hx hb dX1_next_273 (by decide) ?_
                        refine lv_icmp_le (tgt := 292) hx hb dX1_next_276 (by decide) (fun c_482 => ?_) (fun c_482 => ?_)
                        · have c_482 := (nI_leI (a := Y 7 + 1) (b := 1000) (by omega) (by omega)).mp c_482
                          refine lv_iload_n hx hb dX1_next_292 rfl (lv_at hl 5 rfl) ?_
                          refine lv_if_ne (tgt := 305) hx hb dX1_next_293 (by decide) (fun c_483 => ?_) (fun c_483 => ?_)
                          · have c_483 := mt (nI_eq (a := many) (b := 0) (by omega) (by omega)).mpr c_483
                            refine lv_iload hx hb dX1_next_305 (lv_at hl 8 rfl) ?_
                            refine lv_istore (lv' := [(5, .int (nI first)), (9, .int (nI (ts1 x2 (Y 8) g))), (8, .int (bI (rb x2 (Y 8) (g + 1)))), (7, .int (nI (x2 g))), (0, .ref (ad 0)), (1, .int (nI g)), (2, .int (nI many)), (3, .int (nI much)), (4, .int (nI bf)), (6, .int (nI en))]) hx hb dX1_next_307 hl (by decide) rfl (fun ls hl => ?_)
                            refine lv_iload_n hx hb dX1_next_309 rfl (lv_at hl 6 rfl) ?_
                            refine lv_sipush (v := nI 8000) hx hb dX1_next_310 (by decide) ?_
                            refine lv_icmp_ne (tgt := 325) hx hb dX1_next_313 (by decide) (fun c_484 => ?_) (fun c_484 => ?_)
                            · have c_484 := mt (nI_eq (a := many) (b := 8000) (by omega) (by omega)).mpr c_484
                              refine lv_iload_n hx hb dX1_next_325 rfl (lv_at hl 7 rfl) ?_
                              refine lv_istore_n (lv' := [(3, .int (nI much)), (5, .int (nI first)), (9, .int (nI (ts1 x2 (Y 8) g))), (8, .int (bI (rb x2 (Y 8) (g + 1)))), (7, .int (nI (x2 g))), (0, .ref (ad 0)), (1, .int (nI g)), (2, .int (nI many)), (4, .int (nI bf)), (6, .int (nI en))]) hx hb dX1_next_326 rfl hl (by decide) rfl (fun ls hl => ?_)
                              refine lv_iload_n hx hb dX1_next_327 rfl (lv_at hl 7 rfl) ?_
                              refine lv_sipush (v := nI 8000) hx hb dX1_next_328 (by decide) ?_
                              refine lv_icmp_ge (tgt := 343) hx hb dX1_next_331 (by decide) (fun c_485 => ?_) (fun c_485 => ?_)
                              · have c_485 := (nI_leI (a := 8000) (b := many) (by omega) (by omega)).mp c_485
                                refine lv_iinc (v := nI (many + 1)) (lv' := [(2, .int (nI (many + 1))), (3, .int (nI much)), (5, .int (nI first)), (9, .int (nI (ts1 x2 (Y 8) g))), (8, .int (bI (rb x2 (Y 8) (g + 1)))), (7, .int (nI (x2 g))), (0, .ref (ad 0)), (1, .int (nI g)), (4, .int (nI bf)), (6, .int (nI en))]) hx hb dX1_next_343 hl (k := 7) rfl (by exact nI_add many 1) (by decide) rfl (fun ls hl => ?_)
                                refine lv_iconst (v := nI 0) hx hb dX1_next_346 (by decide) ?_
                                refine lv_istore (lv' := [(4, .int (nI 0)), (2, .int (nI (many + 1))), (3, .int (nI much)), (5, .int (nI first)), (9, .int (nI (ts1 x2 (Y 8) g))), (8, .int (bI (rb x2 (Y 8) (g + 1)))), (7, .int (nI (x2 g))), (0, .ref (ad 0)), (1, .int (nI g)), (6, .int (nI en))]) hx hb dX1_next_347 hl (by decide) rfl (fun ls hl => ?_)
                                refine lv_iload_n hx hb dX1_next_349 rfl (lv_at hl 8 rfl) ?_
                                refine lv_iload hx hb dX1_next_350 (lv_at hl 4 rfl) ?_
                                refine lv_iadd hx hb dX1_next_352 ?_
                                refine lv_topi (fun x_486 e_487 => ?_)
                                obtain rfl : x_486 = nI (g + (ts1 x2 (Y 8) g)) := e_487.trans (nI_add g (ts1 x2 (Y 8) g))
                                refine lv_istore_n (lv' := [(1, .int (nI (g + (ts1 x2 (Y 8) g)))), (4, .int (nI 0)), (2, .int (nI (many + 1))), (3, .int (nI much)), (5, .int (nI first)), (9, .int (nI (ts1 x2 (Y 8) g))), (8, .int (bI (rb x2 (Y 8) (g + 1)))), (7, .int (nI (x2 g))), (0, .ref (ad 0)), (6, .int (nI en))]) hx hb dX1_next_353 rfl hl (by decide) rfl (fun ls hl => ?_)
                                refine lv_goto (tgt := 65) hx hb dX1_next_354 (by decide) ?_
                                rw [rL, if_neg (by omega), if_neg (by omega), if_neg (by rw [c_94]; decide), if_neg (by omega), if_neg (by omega), if_neg (by omega), rQ, if_pos (by omega), rKY, if_neg (by omega), rK5, if_neg (by omega), rK6, if_neg (by omega), rK6, if_neg (by omega), rK6, if_neg (by omega), rK9, if_neg (by omega), if_neg (by omega), if_neg (by omega)] at hQ
                                exact ih (zu Y 7 (Y 7 + 1)) x5 x6 x7 x8 x9 (g + (ts1 x2 (Y 8) g)) (many + 1) much 0 first en (by show Y 8 - (g + (ts1 x2 (Y 8) g)) + 1 - en < k; omega) (show (Y 8) ≤ 32768 by omega) (show (g + (ts1 x2 (Y 8) g)) ≤ (Y 8) by omega) (show (Y 18) ≤ (g + (ts1 x2 (Y 8) g)) by omega) (show (many + 1) ≤ (g + (ts1 x2 (Y 8) g)) by omega) (show (many + 1) ≤ 8000 → (Y 13) = (many + 1) by omega) (show 0 ≤ 1 by omega) (show en ≤ 1 by omega) (show (Y 7 + 1) ≤ 1000 by omega) (show (Y 6) ≤ 20000 by omega) (show en = 1 → (g + (ts1 x2 (Y 8) g)) < (Y 8) by omega) hQ _ _ hP hD hS _ (lv_sub hl [8, 0, 2, 3, 1, 4, 9] rfl)
                              · have c_485 := mt (nI_leI (a := 8000) (b := many) (by omega) (by omega)).mpr c_485
                                refine lv_aload_n hx hb dX1_next_334 rfl (lv_at hl 5 rfl) ?_
                                refine lv_iload_n hx hb dX1_next_335 rfl (lv_at hl 6 rfl) ?_
                                refine lv_iload hx hb dX1_next_336 (lv_at hl 2 rfl) ?_
                                refine lv_iload hx hb dX1_next_338 (lv_at hl 8 rfl) ?_
                                refine rm_callv (va_runV (As := [.int (nI g), .int (nI (ts1 x2 (Y 8) g)), .int (nI bf)]) (rest := []) ⟨hx, hb, hml, hown, hts⟩ (r_keep l dC dI ct ad H.size (zu Y 7 (Y 7 + 1)) x1 x2 x3 x4 x5 x6 x7 x8 x9 g (ts1 x2 (Y 8) g) bf (show g < 32768 by omega) (show Y 18 + ts1 x2 (Y 8) g ≤ 32768 by omega) (show g + ts1 x2 (Y 8) g ≤ 32768 by omega) h2 (show Y 13 < 8000 by omega) (show bf ≤ 1 by omega)) (cwV 3 hts (gV (fun _ h => h) ml_X1_132 im_X1_keep se_X1_keep ini_X1 co_X1_keep) rfl rfl rfl pd_X1_keep ⟨Nat.le_of_ble_eq_true rfl, Nat.le_of_ble_eq_true rfl⟩) (rm_preS hK hP hD) rfl rfl hl.1 rfl (lv_room (Nat.le_of_ble_eq_true rfl)) dX1_next_340 ⟨Nat.zero_le _, Nat.zero_le _⟩) hD hS hA (fun u_489 H locs q_488 hP hD hS => ?_)
                                subst q_488
                                have hP : va_P (dC, dI) vwCl (rmW ct ad ((zu (zu (zu Y 7 (Y 7 + 1)) 13 (Y 13 + 1)) 18 (Y 18 + (ts1 x2 (Y 8) g))), x1, x2, x3, x4, (nu x5 (Y 13) (Y 18)), (nu x6 (Y 13) (ts1 x2 (Y 8) g)), (nu x7 (Y 13) (x4 g)), (nu x8 (Y 13) bf), (cpG (fun i => x2 (g + i)) (Y 18) (ts1 x2 (Y 8) g) x9))) H := hP
                                have hD : va_D A (rmW ct ad ((zu (zu (zu Y 7 (Y 7 + 1)) 13 (Y 13 + 1)) 18 (Y 18 + (ts1 x2 (Y 8) g))), x1, x2, x3, x4, (nu x5 (Y 13) (Y 18)), (nu x6 (Y 13) (ts1 x2 (Y 8) g)), (nu x7 (Y 13) (x4 g)), (nu x8 (Y 13) bf), (cpG (fun i => x2 (g + i)) (Y 18) (ts1 x2 (Y 8) g) x9))) := hD
                                refine lv_iinc (v := nI (many + 1)) (lv' := [(2, .int (nI (many + 1))), (3, .int (nI much)), (5, .int (nI first)), (9, .int (nI (ts1 x2 (Y 8) g))), (8, .int (bI (rb x2 (Y 8) (g + 1)))), (7, .int (nI (x2 g))), (0, .ref (ad 0)), (1, .int (nI g)), (4, .int (nI bf)), (6, .int (nI en))]) hx hb dX1_next_343 hl (k := 7) rfl (by exact nI_add many 1) (by decide) rfl (fun ls hl => ?_)
                                refine lv_iconst (v := nI 0) hx hb dX1_next_346 (by decide) ?_
                                refine lv_istore (lv' := [(4, .int (nI 0)), (2, .int (nI (many + 1))), (3, .int (nI much)), (5, .int (nI first)), (9, .int (nI (ts1 x2 (Y 8) g))), (8, .int (bI (rb x2 (Y 8) (g + 1)))), (7, .int (nI (x2 g))), (0, .ref (ad 0)), (1, .int (nI g)), (6, .int (nI en))]) hx hb dX1_next_347 hl (by decide) rfl (fun ls hl => ?_)
                                refine lv_iload_n hx hb dX1_next_349 rfl (lv_at hl 8 rfl) ?_
                                refine lv_iload hx hb dX1_next_350 (lv_at hl 4 rfl) ?_
                                refine lv_iadd hx hb dX1_next_352 ?_
                                refine lv_topi (fun x_491 e_492 => ?_)
                                obtain rfl : x_491 = nI (g + (ts1 x2 (Y 8) g)) := e_492.trans (nI_add g (ts1 x2 (Y 8) g))
                                refine lv_istore_n (lv' := [(1, .int (nI (g + (ts1 x2 (Y 8) g)))), (4, .int (nI 0)), (2, .int (nI (many + 1))), (3, .int (nI much)), (5, .int (nI first)), (9, .int (nI (ts1 x2 (Y 8) g))), (8, .int (bI (rb x2 (Y 8) (g + 1)))), (7, .int (nI (x2 g))), (0, .ref (ad 0)), (6, .int (nI en))]) hx hb dX1_next_353 rfl hl (by decide) rfl (fun ls hl => ?_)
                                refine lv_goto (tgt := 65) hx hb dX1_next_354 (by decide) ?_
                                rw [rL, if_neg (by omega), if_neg (by omega), if_neg (by rw [c_94]; decide), if_neg (by omega), if_neg (by omega), if_neg (by omega), rQ, if_pos (by omega), rKY, if_pos (by omega), rK5, if_pos (by omega), rK6, if_pos (by omega), rK6, if_pos (by omega), rK6, if_pos (by omega), rK9, if_pos (by omega), if_neg (by omega), if_neg (by omega)] at hQ
                                exact ih (zu (zu (zu Y 7 (Y 7 + 1)) 13 (Y 13 + 1)) 18 (Y 18 + (ts1 x2 (Y 8) g))) ((nu x5 (Y 13) (Y 18))) ((nu x6 (Y 13) (ts1 x2 (Y 8) g))) ((nu x7 (Y 13) (x4 g))) ((nu x8 (Y 13) bf)) ((cpG (fun i => x2 (g + i)) (Y 18) (ts1 x2 (Y 8) g) x9)) (g + (ts1 x2 (Y 8) g)) (many + 1) much 0 first en (by show Y 8 - (g + (ts1 x2 (Y 8) g)) + 1 - en < k; omega) (show (Y 8) ≤ 32768 by omega) (show (g + (ts1 x2 (Y 8) g)) ≤ (Y 8) by omega) (show (Y 18 + (ts1 x2 (Y 8) g)) ≤ (g + (ts1 x2 (Y 8) g)) by omega) (show (many + 1) ≤ (g + (ts1 x2 (Y 8) g)) by omega) (show (many + 1) ≤ 8000 → (Y 13 + 1) = (many + 1) by omega) (show 0 ≤ 1 by omega) (show en ≤ 1 by omega) (show (Y 7 + 1) ≤ 1000 by omega) (show (Y 6) ≤ 20000 by omega) (show en = 1 → (g + (ts1 x2 (Y 8) g)) < (Y 8) by omega) hQ _ _ hP hD hS _ (lv_sub hl [8, 0, 2, 3, 1, 4, 9] rfl)
                            · have c_484 := (nI_eq (a := many) (b := 8000) (by omega) (by omega)).mp c_484
                              refine lv_aload_n hx hb dX1_next_316 rfl (lv_at hl 4 rfl) ?_
                              refine va_get (D := (dC, dI)) (ci := 1) (v := .ref (ad 4)) (C := RX1) (T := TX1) (N := 20) hx hb hts inX1 hown hK hP 0 rfl rfl 11 (by decide) (hts _ fl_X1_21) (fun _ h9 => h9) rfl dX1_next_317 ?_
                              refine lv_iload_n hx hb dX1_next_320 rfl (lv_at hl 5 rfl) ?_
                              refine va_iald hx hb hK hP 4 1 rfl rfl (vp_in_nI (by omega) (by decide)) dX1_next_321 ?_
                              refine lv_topi (fun x_493 e_494 => ?_)
                              obtain rfl : x_493 = nI (x4 g) := e_494.trans (by rw [nI_clamp (by omega)])
                              refine lv_goto (tgt := 326) hx hb dX1_next_322 (by decide) ?_
                              refine lv_istore_n (lv' := [(3, .int (nI (x4 g))), (5, .int (nI first)), (9, .int (nI (ts1 x2 (Y 8) g))), (8, .int (bI (rb x2 (Y 8) (g + 1)))), (7, .int (nI (x2 g))), (0, .ref (ad 0)), (1, .int (nI g)), (2, .int (nI many)), (4, .int (nI bf)), (6, .int (nI en))]) hx hb dX1_next_326 rfl hl (by decide) rfl (fun ls hl => ?_)
                              refine lv_iload_n hx hb dX1_next_327 rfl (lv_at hl 7 rfl) ?_
                              refine lv_sipush (v := nI 8000) hx hb dX1_next_328 (by decide) ?_
                              refine lv_icmp_ge (tgt := 343) hx hb dX1_next_331 (by decide) (fun c_495 => ?_) (fun c_495 => ?_)
                              · have c_495 := (nI_leI (a := 8000) (b := many) (by omega) (by omega)).mp c_495
                                refine lv_iinc (v := nI (many + 1)) (lv' := [(2, .int (nI (many + 1))), (3, .int (nI (x4 g))), (5, .int (nI first)), (9, .int (nI (ts1 x2 (Y 8) g))), (8, .int (bI (rb x2 (Y 8) (g + 1)))), (7, .int (nI (x2 g))), (0, .ref (ad 0)), (1, .int (nI g)), (4, .int (nI bf)), (6, .int (nI en))]) hx hb dX1_next_343 hl (k := 7) rfl (by exact nI_add many 1) (by decide) rfl (fun ls hl => ?_)
                                refine lv_iconst (v := nI 0) hx hb dX1_next_346 (by decide) ?_
                                refine lv_istore (lv' := [(4, .int (nI 0)), (2, .int (nI (many + 1))), (3, .int (nI (x4 g))), (5, .int (nI first)), (9, .int (nI (ts1 x2 (Y 8) g))), (8, .int (bI (rb x2 (Y 8) (g + 1)))), (7, .int (nI (x2 g))), (0, .ref (ad 0)), (1, .int (nI g)), (6, .int (nI en))]) hx hb dX1_next_347 hl (by decide) rfl (fun ls hl => ?_)
                                refine lv_iload_n hx hb dX1_next_349 rfl (lv_at hl 8 rfl) ?_
                                refine lv_iload hx hb dX1_next_350 (lv_at hl 4 rfl) ?_
                                refine lv_iadd hx hb dX1_next_352 ?_
                                refine lv_topi (fun x_496 e_497 => ?_)
                                obtain rfl : x_496 = nI (g + (ts1 x2 (Y 8) g)) := e_497.trans (nI_add g (ts1 x2 (Y 8) g))
                                refine lv_istore_n (lv' := [(1, .int (nI (g + (ts1 x2 (Y 8) g)))), (4, .int (nI 0)), (2, .int (nI (many + 1))), (3, .int (nI (x4 g))), (5, .int (nI first)), (9, .int (nI (ts1 x2 (Y 8) g))), (8, .int (bI (rb x2 (Y 8) (g + 1)))), (7, .int (nI (x2 g))), (0, .ref (ad 0)), (6, .int (nI en))]) hx hb dX1_next_353 rfl hl (by decide) rfl (fun ls hl => ?_)
                                refine lv_goto (tgt := 65) hx hb dX1_next_354 (by decide) ?_
                                rw [rL, if_neg (by omega), if_neg (by omega), if_neg (by rw [c_94]; decide), if_neg (by omega), if_neg (by omega), if_neg (by omega), rQ, if_pos (by omega), rKY, if_neg (by omega), rK5, if_neg (by omega), rK6, if_neg (by omega), rK6, if_neg (by omega), rK6, if_neg (by omega), rK9, if_neg (by omega), if_pos (by omega), if_neg (by omega)] at hQ
                                exact ih (zu Y 7 (Y 7 + 1)) x5 x6 x7 x8 x9 (g + (ts1 x2 (Y 8) g)) (many + 1) (x4 g) 0 first en (by show Y 8 - (g + (ts1 x2 (Y 8) g)) + 1 - en < k; omega) (show (Y 8) ≤ 32768 by omega) (show (g + (ts1 x2 (Y 8) g)) ≤ (Y 8) by omega) (show (Y 18) ≤ (g + (ts1 x2 (Y 8) g)) by omega) (show (many + 1) ≤ (g + (ts1 x2 (Y 8) g)) by omega) (show (many + 1) ≤ 8000 → (Y 13) = (many + 1) by omega) (show 0 ≤ 1 by omega) (show en ≤ 1 by omega) (show (Y 7 + 1) ≤ 1000 by omega) (show (Y 6) ≤ 20000 by omega) (show en = 1 → (g + (ts1 x2 (Y 8) g)) < (Y 8) by omega) hQ _ _ hP hD hS _ (lv_sub hl [8, 0, 2, 3, 1, 4, 9] rfl)
                              · have c_495 := mt (nI_leI (a := 8000) (b := many) (by omega) (by omega)).mpr c_495
                                omega
                          · have c_483 := (nI_eq (a := many) (b := 0) (by omega) (by omega)).mp c_483
                            refine lv_aload_n hx hb dX1_next_296 rfl (lv_at hl 3 rfl) ?_
                            refine va_get (D := (dC, dI)) (ci := 1) (v := .ref (ad 4)) (C := RX1) (T := TX1) (N := 20) hx hb hts inX1 hown hK hP 0 rfl rfl 11 (by decide) (hts _ fl_X1_21) (fun _ h9 => h9) rfl dX1_next_297 ?_
                            refine lv_iload_n hx hb dX1_next_300 rfl (lv_at hl 4 rfl) ?_
                            refine va_iald hx hb hK hP 4 1 rfl rfl (vp_in_nI (by omega) (by decide)) dX1_next_301 ?_
                            refine lv_topi (fun x_498 e_499 => ?_)
                            obtain rfl : x_498 = nI (x4 g) := e_499.trans (by rw [nI_clamp (by omega)])
                            refine lv_goto (tgt := 307) hx hb dX1_next_302 (by decide) ?_
                            refine lv_istore (lv' := [(5, .int (nI (x4 g))), (9, .int (nI (ts1 x2 (Y 8) g))), (8, .int (bI (rb x2 (Y 8) (g + 1)))), (7, .int (nI (x2 g))), (0, .ref (ad 0)), (1, .int (nI g)), (2, .int (nI many)), (3, .int (nI much)), (4, .int (nI bf)), (6, .int (nI en))]) hx hb dX1_next_307 hl (by decide) rfl (fun ls hl => ?_)
                            refine lv_iload_n hx hb dX1_next_309 rfl (lv_at hl 6 rfl) ?_
                            refine lv_sipush (v := nI 8000) hx hb dX1_next_310 (by decide) ?_
                            refine lv_icmp_ne (tgt := 325) hx hb dX1_next_313 (by decide) (fun c_500 => ?_) (fun c_500 => ?_)
                            · have c_500 := mt (nI_eq (a := many) (b := 8000) (by omega) (by omega)).mpr c_500
                              refine lv_iload_n hx hb dX1_next_325 rfl (lv_at hl 7 rfl) ?_
                              refine lv_istore_n (lv' := [(3, .int (nI much)), (5, .int (nI (x4 g))), (9, .int (nI (ts1 x2 (Y 8) g))), (8, .int (bI (rb x2 (Y 8) (g + 1)))), (7, .int (nI (x2 g))), (0, .ref (ad 0)), (1, .int (nI g)), (2, .int (nI many)), (4, .int (nI bf)), (6, .int (nI en))]) hx hb dX1_next_326 rfl hl (by decide) rfl (fun ls hl => ?_)
                              refine lv_iload_n hx hb dX1_next_327 rfl (lv_at hl 7 rfl) ?_
                              refine lv_sipush (v := nI 8000) hx hb dX1_next_328 (by decide) ?_
                              refine lv_icmp_ge (tgt := 343) hx hb dX1_next_331 (by decide) (fun c_501 => ?_) (fun c_501 => ?_)
                              · have c_501 := (nI_leI (a := 8000) (b := many) (by omega) (by omega)).mp c_501
                                omega
                              · have c_501 := mt (nI_leI (a := 8000) (b := many) (by omega) (by omega)).mpr c_501
                                refine lv_aload_n hx hb dX1_next_334 rfl (lv_at hl 5 rfl) ?_
                                refine lv_iload_n hx hb dX1_next_335 rfl (lv_at hl 6 rfl) ?_
                                refine lv_iload hx hb dX1_next_336 (lv_at hl 2 rfl) ?_
                                refine lv_iload hx hb dX1_next_338 (lv_at hl 8 rfl) ?_
                                refine rm_callv (va_runV (As := [.int (nI g), .int (nI (ts1 x2 (Y 8) g)), .int (nI bf)]) (rest := []) ⟨hx, hb, hml, hown, hts⟩ (r_keep l dC dI ct ad H.size (zu Y 7 (Y 7 + 1)) x1 x2 x3 x4 x5 x6 x7 x8 x9 g (ts1 x2 (Y 8) g) bf (show g < 32768 by omega) (show Y 18 + ts1 x2 (Y 8) g ≤ 32768 by omega) (show g + ts1 x2 (Y 8) g ≤ 32768 by omega) h2 (show Y 13 < 8000 by omega) (show bf ≤ 1 by omega)) (cwV 3 hts (gV (fun _ h => h) ml_X1_132 im_X1_keep se_X1_keep ini_X1 co_X1_keep) rfl rfl rfl pd_X1_keep ⟨Nat.le_of_ble_eq_true rfl, Nat.le_of_ble_eq_true rfl⟩) (rm_preS hK hP hD) rfl rfl hl.1 rfl (lv_room (Nat.le_of_ble_eq_true rfl)) dX1_next_340 ⟨Nat.zero_le _, Nat.zero_le _⟩) hD hS hA (fun u_503 H locs q_502 hP hD hS => ?_)
                                subst q_502
                                have hP : va_P (dC, dI) vwCl (rmW ct ad ((zu (zu (zu Y 7 (Y 7 + 1)) 13 (Y 13 + 1)) 18 (Y 18 + (ts1 x2 (Y 8) g))), x1, x2, x3, x4, (nu x5 (Y 13) (Y 18)), (nu x6 (Y 13) (ts1 x2 (Y 8) g)), (nu x7 (Y 13) (x4 g)), (nu x8 (Y 13) bf), (cpG (fun i => x2 (g + i)) (Y 18) (ts1 x2 (Y 8) g) x9))) H := hP
                                have hD : va_D A (rmW ct ad ((zu (zu (zu Y 7 (Y 7 + 1)) 13 (Y 13 + 1)) 18 (Y 18 + (ts1 x2 (Y 8) g))), x1, x2, x3, x4, (nu x5 (Y 13) (Y 18)), (nu x6 (Y 13) (ts1 x2 (Y 8) g)), (nu x7 (Y 13) (x4 g)), (nu x8 (Y 13) bf), (cpG (fun i => x2 (g + i)) (Y 18) (ts1 x2 (Y 8) g) x9))) := hD
                                refine lv_iinc (v := nI (many + 1)) (lv' := [(2, .int (nI (many + 1))), (3, .int (nI much)), (5, .int (nI (x4 g))), (9, .int (nI (ts1 x2 (Y 8) g))), (8, .int (bI (rb x2 (Y 8) (g + 1)))), (7, .int (nI (x2 g))), (0, .ref (ad 0)), (1, .int (nI g)), (4, .int (nI bf)), (6, .int (nI en))]) hx hb dX1_next_343 hl (k := 7) rfl (by exact nI_add many 1) (by decide) rfl (fun ls hl => ?_)
                                refine lv_iconst (v := nI 0) hx hb dX1_next_346 (by decide) ?_
                                refine lv_istore (lv' := [(4, .int (nI 0)), (2, .int (nI (many + 1))), (3, .int (nI much)), (5, .int (nI (x4 g))), (9, .int (nI (ts1 x2 (Y 8) g))), (8, .int (bI (rb x2 (Y 8) (g + 1)))), (7, .int (nI (x2 g))), (0, .ref (ad 0)), (1, .int (nI g)), (6, .int (nI en))]) hx hb dX1_next_347 hl (by decide) rfl (fun ls hl => ?_)
                                refine lv_iload_n hx hb dX1_next_349 rfl (lv_at hl 8 rfl) ?_
                                refine lv_iload hx hb dX1_next_350 (lv_at hl 4 rfl) ?_
                                refine lv_iadd hx hb dX1_next_352 ?_
                                refine lv_topi (fun x_505 e_506 => ?_)
                                obtain rfl : x_505 = nI (g + (ts1 x2 (Y 8) g)) := e_506.trans (nI_add g (ts1 x2 (Y 8) g))
                                refine lv_istore_n (lv' := [(1, .int (nI (g + (ts1 x2 (Y 8) g)))), (4, .int (nI 0)), (2, .int (nI (many + 1))), (3, .int (nI much)), (5, .int (nI (x4 g))), (9, .int (nI (ts1 x2 (Y 8) g))), (8, .int (bI (rb x2 (Y 8) (g + 1)))), (7, .int (nI (x2 g))), (0, .ref (ad 0)), (6, .int (nI en))]) hx hb dX1_next_353 rfl hl (by decide) rfl (fun ls hl => ?_)
                                refine lv_goto (tgt := 65) hx hb dX1_next_354 (by decide) ?_
                                rw [rL, if_neg (by omega), if_neg (by omega), if_neg (by rw [c_94]; decide), if_neg (by omega), if_neg (by omega), if_neg (by omega), rQ, if_pos (by omega), rKY, if_pos (by omega), rK5, if_pos (by omega), rK6, if_pos (by omega), rK6, if_pos (by omega), rK6, if_pos (by omega), rK9, if_pos (by omega), if_neg (by omega), if_pos (by omega)] at hQ
                                exact ih (zu (zu (zu Y 7 (Y 7 + 1)) 13 (Y 13 + 1)) 18 (Y 18 + (ts1 x2 (Y 8) g))) ((nu x5 (Y 13) (Y 18))) ((nu x6 (Y 13) (ts1 x2 (Y 8) g))) ((nu x7 (Y 13) (x4 g))) ((nu x8 (Y 13) bf)) ((cpG (fun i => x2 (g + i)) (Y 18) (ts1 x2 (Y 8) g) x9)) (g + (ts1 x2 (Y 8) g)) (many + 1) much 0 (x4 g) en (by show Y 8 - (g + (ts1 x2 (Y 8) g)) + 1 - en < k; omega) (show (Y 8) ≤ 32768 by omega) (show (g + (ts1 x2 (Y 8) g)) ≤ (Y 8) by omega) (show (Y 18 + (ts1 x2 (Y 8) g)) ≤ (g + (ts1 x2 (Y 8) g)) by omega) (show (many + 1) ≤ (g + (ts1 x2 (Y 8) g)) by omega) (show (many + 1) ≤ 8000 → (Y 13 + 1) = (many + 1) by omega) (show 0 ≤ 1 by omega) (show en ≤ 1 by omega) (show (Y 7 + 1) ≤ 1000 by omega) (show (Y 6) ≤ 20000 by omega) (show en = 1 → (g + (ts1 x2 (Y 8) g)) < (Y 8) by omega) hQ _ _ hP hD hS _ (lv_sub hl [8, 0, 2, 3, 1, 4, 9] rfl)
                            · have c_500 := (nI_eq (a := many) (b := 8000) (by omega) (by omega)).mp c_500
                              omega
                        · have c_482 := mt (nI_leI (a := Y 7 + 1) (b := 1000) (by omega) (by omega)).mpr c_482
                          refine lv_aload_n hx hb dX1_next_279 rfl (lv_at hl 3 rfl) ?_
                          refine lv_bipush (v := nI 21) hx hb dX1_next_280 (by decide) ?_
                          refine lv_aload_n hx hb dX1_next_282 rfl (lv_at hl 3 rfl) ?_
                          refine va_get (D := (dC, dI)) (ci := 1) (v := .ref (ad 4)) (C := RX1) (T := TX1) (N := 20) hx hb hts inX1 hown hK hP 0 rfl rfl 11 (by decide) (hts _ fl_X1_21) (fun _ h9 => h9) rfl dX1_next_283 ?_
                          refine lv_iload_n hx hb dX1_next_286 rfl (lv_at hl 4 rfl) ?_
                          refine va_iald hx hb hK hP 4 1 rfl rfl (vp_in_nI (by omega) (by decide)) dX1_next_287 ?_
                          refine lv_topi (fun x_507 e_508 => ?_)
                          obtain rfl : x_507 = nI (x4 g) := e_508.trans (by rw [nI_clamp (by omega)])
                          refine rm_calli (va_runV (As := [.int (nI 21), .int (nI (x4 g))]) (rest := []) ⟨hx, hb, hml, hown, hts⟩ (r_stop l dC dI ct ad H.size (zu Y 7 (Y 7 + 1)) x1 x2 x3 x4 x5 x6 x7 x8 x9 21 (x4 g)) (cwV 2 hts (gV (fun _ h => h) ml_X1_126 im_X1_stop se_X1_stop ini_X1 co_X1_stop) rfl rfl rfl pd_X1_stop ⟨Nat.le_of_ble_eq_true rfl, Nat.le_of_ble_eq_true rfl⟩) (rm_preS hK hP hD) rfl rfl hl.1 rfl (lv_room (Nat.le_of_ble_eq_true rfl)) dX1_next_288 ⟨Nat.zero_le _, Nat.zero_le _⟩) hD hS hA (fun r_511 u_510 H locs q_509 hP hD hS => ?_)
                          obtain ⟨rfl, rfl⟩ := q_509
                          have hP : va_P (dC, dI) vwCl (rmW ct ad ((zu (zu (zu (zu Y 4 1) 5 (x4 g)) 7 (Y 7 + 1)) 13 0), x1, x2, x3, x4, x5, x6, x7, x8, x9)) H := hP
                          have hD : va_D A (rmW ct ad ((zu (zu (zu (zu Y 4 1) 5 (x4 g)) 7 (Y 7 + 1)) 13 0), x1, x2, x3, x4, x5, x6, x7, x8, x9)) := hD
                          have hP : va_P (dC, dI) vwCl (rmW ct ad (rSt (zu Y 7 (Y 7 + 1)) (x4 g), x1, x2, x3, x4, x5, x6, x7, x8, x9)) H := by skip; exact hP
                          have hD : va_D A (rmW ct ad (rSt (zu Y 7 (Y 7 + 1)) (x4 g), x1, x2, x3, x4, x5, x6, x7, x8, x9)) := by skip; exact hD
                          exact W.iret (v := (-10) - nI 21) hx hb hr (fun t ht hW => ⟨⟨_, (rSt (zu Y 7 (Y 7 + 1)) (x4 g), x1, x2, x3, x4, x5, x6, x7, x8, x9), rfl, (by rw [rL, if_neg (by omega), if_neg (by omega), if_neg (by rw [c_94]; decide), if_neg (by omega), if_neg (by omega), if_pos (by omega), rQ, if_pos (by omega)] at hQ; exact hQ), by rw [ht]; exact hP, va_K.moved hW.alike hK, hD⟩, hS.F ht⟩) hS.2.2 dX1_next_291
                      · have c_479 := mt (nI_eq (a := x2 g) (b := 34) (by omega) (by omega)).mpr c_479
                        refine lv_iload hx hb dX1_next_252 (lv_at hl 2 rfl) ?_
                        refine lv_bipush (v := nI 39) hx hb dX1_next_254 (by decide) ?_
                        refine lv_icmp_ne (tgt := 292) hx hb dX1_next_256 (by decide) (fun c_512 => ?_) (fun c_512 => ?_)
                        · have c_512 := mt (nI_eq (a := x2 g) (b := 39) (by omega) (by omega)).mpr c_512
                          refine lv_iload_n hx hb dX1_next_292 rfl (lv_at hl 5 rfl) ?_
                          refine lv_if_ne (tgt := 305) hx hb dX1_next_293 (by decide) (fun c_513 => ?_) (fun c_513 => ?_)
                          · have c_513 := mt (nI_eq (a := many) (b := 0) (by omega) (by omega)).mpr c_513
                            refine lv_iload hx hb dX1_next_305 (lv_at hl 8 rfl) ?_
                            refine lv_istore (lv' := [(5, .int (nI first)), (9, .int (nI (ts1 x2 (Y 8) g))), (8, .int (bI (rb x2 (Y 8) (g + 1)))), (7, .int (nI (x2 g))), (0, .ref (ad 0)), (1, .int (nI g)), (2, .int (nI many)), (3, .int (nI much)), (4, .int (nI bf)), (6, .int (nI en))]) hx hb dX1_next_307 hl (by decide) rfl (fun ls hl => ?_)
                            refine lv_iload_n hx hb dX1_next_309 rfl (lv_at hl 6 rfl) ?_
                            refine lv_sipush (v := nI 8000) hx hb dX1_next_310 (by decide) ?_
                            refine lv_icmp_ne (tgt := 325) hx hb dX1_next_313 (by decide) (fun c_514 => ?_) (fun c_514 => ?_)
                            · have c_514 := mt (nI_eq (a := many) (b := 8000) (by omega) (by omega)).mpr c_514
                              refine lv_iload_n hx hb dX1_next_325 rfl (lv_at hl 7 rfl) ?_
                              refine lv_istore_n (lv' := [(3, .int (nI much)), (5, .int (nI first)), (9, .int (nI (ts1 x2 (Y 8) g))), (8, .int (bI (rb x2 (Y 8) (g + 1)))), (7, .int (nI (x2 g))), (0, .ref (ad 0)), (1, .int (nI g)), (2, .int (nI many)), (4, .int (nI bf)), (6, .int (nI en))]) hx hb dX1_next_326 rfl hl (by decide) rfl (fun ls hl => ?_)
                              refine lv_iload_n hx hb dX1_next_327 rfl (lv_at hl 7 rfl) ?_
                              refine lv_sipush (v := nI 8000) hx hb dX1_next_328 (by decide) ?_
                              refine lv_icmp_ge (tgt := 343) hx hb dX1_next_331 (by decide) (fun c_515 => ?_) (fun c_515 => ?_)
                              · have c_515 := (nI_leI (a := 8000) (b := many) (by omega) (by omega)).mp c_515
                                refine lv_iinc (v := nI (many + 1)) (lv' := [(2, .int (nI (many + 1))), (3, .int (nI much)), (5, .int (nI first)), (9, .int (nI (ts1 x2 (Y 8) g))), (8, .int (bI (rb x2 (Y 8) (g + 1)))), (7, .int (nI (x2 g))), (0, .ref (ad 0)), (1, .int (nI g)), (4, .int (nI bf)), (6, .int (nI en))]) hx hb dX1_next_343 hl (k := 7) rfl (by exact nI_add many 1) (by decide) rfl (fun ls hl => ?_)
                                refine lv_iconst (v := nI 0) hx hb dX1_next_346 (by decide) ?_
                                refine lv_istore (lv' := [(4, .int (nI 0)), (2, .int (nI (many + 1))), (3, .int (nI much)), (5, .int (nI first)), (9, .int (nI (ts1 x2 (Y 8) g))), (8, .int (bI (rb x2 (Y 8) (g + 1)))), (7, .int (nI (x2 g))), (0, .ref (ad 0)), (1, .int (nI g)), (6, .int (nI en))]) hx hb dX1_next_347 hl (by decide) rfl (fun ls hl => ?_)
                                refine lv_iload_n hx hb dX1_next_349 rfl (lv_at hl 8 rfl) ?_
                                refine lv_iload hx hb dX1_next_350 (lv_at hl 4 rfl) ?_
                                refine lv_iadd hx hb dX1_next_352 ?_
                                refine lv_topi (fun x_516 e_517 => ?_)
                                obtain rfl : x_516 = nI (g + (ts1 x2 (Y 8) g)) := e_517.trans (nI_add g (ts1 x2 (Y 8) g))
                                refine lv_istore_n (lv' := [(1, .int (nI (g + (ts1 x2 (Y 8) g)))), (4, .int (nI 0)), (2, .int (nI (many + 1))), (3, .int (nI much)), (5, .int (nI first)), (9, .int (nI (ts1 x2 (Y 8) g))), (8, .int (bI (rb x2 (Y 8) (g + 1)))), (7, .int (nI (x2 g))), (0, .ref (ad 0)), (6, .int (nI en))]) hx hb dX1_next_353 rfl hl (by decide) rfl (fun ls hl => ?_)
                                refine lv_goto (tgt := 65) hx hb dX1_next_354 (by decide) ?_
                                rw [rL, if_neg (by omega), if_neg (by omega), if_neg (by rw [c_94]; decide), if_neg (by omega), if_neg (by omega), if_neg (by omega), rQ, if_neg (by omega), rKY, if_neg (by omega), rK5, if_neg (by omega), rK6, if_neg (by omega), rK6, if_neg (by omega), rK6, if_neg (by omega), rK9, if_neg (by omega), if_neg (by omega), if_neg (by omega)] at hQ
                                exact ih Y x5 x6 x7 x8 x9 (g + (ts1 x2 (Y 8) g)) (many + 1) much 0 first en (by show Y 8 - (g + (ts1 x2 (Y 8) g)) + 1 - en < k; omega) (show (Y 8) ≤ 32768 by omega) (show (g + (ts1 x2 (Y 8) g)) ≤ (Y 8) by omega) (show (Y 18) ≤ (g + (ts1 x2 (Y 8) g)) by omega) (show (many + 1) ≤ (g + (ts1 x2 (Y 8) g)) by omega) (show (many + 1) ≤ 8000 → (Y 13) = (many + 1) by omega) (show 0 ≤ 1 by omega) (show en ≤ 1 by omega) (show (Y 7) ≤ 1000 by omega) (show (Y 6) ≤ 20000 by omega) (show en = 1 → (g + (ts1 x2 (Y 8) g)) < (Y 8) by omega) hQ _ _ hP hD hS _ (lv_sub hl [8, 0, 2, 3, 1, 4, 9] rfl)
                              · have c_515 := mt (nI_leI (a := 8000) (b := many) (by omega) (by omega)).mpr c_515
                                refine lv_aload_n hx hb dX1_next_334 rfl (lv_at hl 5 rfl) ?_
                                refine lv_iload_n hx hb dX1_next_335 rfl (lv_at hl 6 rfl) ?_
                                refine lv_iload hx hb dX1_next_336 (lv_at hl 2 rfl) ?_
                                refine lv_iload hx hb dX1_next_338 (lv_at hl 8 rfl) ?_
                                refine rm_callv (va_runV (As := [.int (nI g), .int (nI (ts1 x2 (Y 8) g)), .int (nI bf)]) (rest := []) ⟨hx, hb, hml, hown, hts⟩ (r_keep l dC dI ct ad H.size Y x1 x2 x3 x4 x5 x6 x7 x8 x9 g (ts1 x2 (Y 8) g) bf (show g < 32768 by omega) (show Y 18 + ts1 x2 (Y 8) g ≤ 32768 by omega) (show g + ts1 x2 (Y 8) g ≤ 32768 by omega) h2 (show Y 13 < 8000 by omega) (show bf ≤ 1 by omega)) (cwV 3 hts (gV (fun _ h => h) ml_X1_132 im_X1_keep se_X1_keep ini_X1 co_X1_keep) rfl rfl rfl pd_X1_keep ⟨Nat.le_of_ble_eq_true rfl, Nat.le_of_ble_eq_true rfl⟩) (rm_preS hK hP hD) rfl rfl hl.1 rfl (lv_room (Nat.le_of_ble_eq_true rfl)) dX1_next_340 ⟨Nat.zero_le _, Nat.zero_le _⟩) hD hS hA (fun u_519 H locs q_518 hP hD hS => ?_)
                                subst q_518
                                have hP : va_P (dC, dI) vwCl (rmW ct ad ((zu (zu Y 13 (Y 13 + 1)) 18 (Y 18 + (ts1 x2 (Y 8) g))), x1, x2, x3, x4, (nu x5 (Y 13) (Y 18)), (nu x6 (Y 13) (ts1 x2 (Y 8) g)), (nu x7 (Y 13) (x4 g)), (nu x8 (Y 13) bf), (cpG (fun i => x2 (g + i)) (Y 18) (ts1 x2 (Y 8) g) x9))) H := hP
                                have hD : va_D A (rmW ct ad ((zu (zu Y 13 (Y 13 + 1)) 18 (Y 18 + (ts1 x2 (Y 8) g))), x1, x2, x3, x4, (nu x5 (Y 13) (Y 18)), (nu x6 (Y 13) (ts1 x2 (Y 8) g)), (nu x7 (Y 13) (x4 g)), (nu x8 (Y 13) bf), (cpG (fun i => x2 (g + i)) (Y 18) (ts1 x2 (Y 8) g) x9))) := hD
                                refine lv_iinc (v := nI (many + 1)) (lv' := [(2, .int (nI (many + 1))), (3, .int (nI much)), (5, .int (nI first)), (9, .int (nI (ts1 x2 (Y 8) g))), (8, .int (bI (rb x2 (Y 8) (g + 1)))), (7, .int (nI (x2 g))), (0, .ref (ad 0)), (1, .int (nI g)), (4, .int (nI bf)), (6, .int (nI en))]) hx hb dX1_next_343 hl (k := 7) rfl (by exact nI_add many 1) (by decide) rfl (fun ls hl => ?_)
                                refine lv_iconst (v := nI 0) hx hb dX1_next_346 (by decide) ?_
                                refine lv_istore (lv' := [(4, .int (nI 0)), (2, .int (nI (many + 1))), (3, .int (nI much)), (5, .int (nI first)), (9, .int (nI (ts1 x2 (Y 8) g))), (8, .int (bI (rb x2 (Y 8) (g + 1)))), (7, .int (nI (x2 g))), (0, .ref (ad 0)), (1, .int (nI g)), (6, .int (nI en))]) hx hb dX1_next_347 hl (by decide) rfl (fun ls hl => ?_)
                                refine lv_iload_n hx hb dX1_next_349 rfl (lv_at hl 8 rfl) ?_
                                refine lv_iload hx hb dX1_next_350 (lv_at hl 4 rfl) ?_
                                refine lv_iadd hx hb dX1_next_352 ?_
                                refine lv_topi (fun x_521 e_522 => ?_)
                                obtain rfl : x_521 = nI (g + (ts1 x2 (Y 8) g)) := e_522.trans (nI_add g (ts1 x2 (Y 8) g))
                                refine lv_istore_n (lv' := [(1, .int (nI (g + (ts1 x2 (Y 8) g)))), (4, .int (nI 0)), (2, .int (nI (many + 1))), (3, .int (nI much)), (5, .int (nI first)), (9, .int (nI (ts1 x2 (Y 8) g))), (8, .int (bI (rb x2 (Y 8) (g + 1)))), (7, .int (nI (x2 g))), (0, .ref (ad 0)), (6, .int (nI en))]) hx hb dX1_next_353 rfl hl (by decide) rfl (fun ls hl => ?_)
                                refine lv_goto (tgt := 65) hx hb dX1_next_354 (by decide) ?_
                                rw [rL, if_neg (by omega), if_neg (by omega), if_neg (by rw [c_94]; decide), if_neg (by omega), if_neg (by omega), if_neg (by omega), rQ, if_neg (by omega), rKY, if_pos (by omega), rK5, if_pos (by omega), rK6, if_pos (by omega), rK6, if_pos (by omega), rK6, if_pos (by omega), rK9, if_pos (by omega), if_neg (by omega), if_neg (by omega)] at hQ
                                exact ih (zu (zu Y 13 (Y 13 + 1)) 18 (Y 18 + (ts1 x2 (Y 8) g))) ((nu x5 (Y 13) (Y 18))) ((nu x6 (Y 13) (ts1 x2 (Y 8) g))) ((nu x7 (Y 13) (x4 g))) ((nu x8 (Y 13) bf)) ((cpG (fun i => x2 (g + i)) (Y 18) (ts1 x2 (Y 8) g) x9)) (g + (ts1 x2 (Y 8) g)) (many + 1) much 0 first en (by show Y 8 - (g + (ts1 x2 (Y 8) g)) + 1 - en < k; omega) (show (Y 8) ≤ 32768 by omega) (show (g + (ts1 x2 (Y 8) g)) ≤ (Y 8) by omega) (show (Y 18 + (ts1 x2 (Y 8) g)) ≤ (g + (ts1 x2 (Y 8) g)) by omega) (show (many + 1) ≤ (g + (ts1 x2 (Y 8) g)) by omega) (show (many + 1) ≤ 8000 → (Y 13 + 1) = (many + 1) by omega) (show 0 ≤ 1 by omega) (show en ≤ 1 by omega) (show (Y 7) ≤ 1000 by omega) (show (Y 6) ≤ 20000 by omega) (show en = 1 → (g + (ts1 x2 (Y 8) g)) < (Y 8) by omega) hQ _ _ hP hD hS _ (lv_sub hl [8, 0, 2, 3, 1, 4, 9] rfl)
                            · have c_514 := (nI_eq (a := many) (b := 8000) (by omega) (by omega)).mp c_514
                              refine lv_aload_n hx hb dX1_next_316 rfl (lv_at hl 4 rfl) ?_
                              refine va_get (D := (dC, dI)) (ci := 1) (v := .ref (ad 4)) (C := RX1) (T := TX1) (N := 20) hx hb hts inX1 hown hK hP 0 rfl rfl 11 (by decide) (hts _ fl_X1_21) (fun _ h9 => h9) rfl dX1_next_317 ?_
                              refine lv_iload_n hx hb dX1_next_320 rfl (lv_at hl 5 rfl) ?_
                              refine va_iald hx hb hK hP 4 1 rfl rfl (vp_in_nI (by omega) (by decide)) dX1_next_321 ?_
                              refine lv_topi (fun x_523 e_524 => ?_)
                              obtain rfl : x_523 = nI (x4 g) := e_524.trans (by rw [nI_clamp (by omega)])
                              refine lv_goto (tgt := 326) hx hb dX1_next_322 (by decide) ?_
                              refine lv_istore_n (lv' := [(3, .int (nI (x4 g))), (5, .int (nI first)), (9, .int (nI (ts1 x2 (Y 8) g))), (8, .int (bI (rb x2 (Y 8) (g + 1)))), (7, .int (nI (x2 g))), (0, .ref (ad 0)), (1, .int (nI g)), (2, .int (nI many)), (4, .int (nI bf)), (6, .int (nI en))]) hx hb dX1_next_326 rfl hl (by decide) rfl (fun ls hl => ?_)
                              refine lv_iload_n hx hb dX1_next_327 rfl (lv_at hl 7 rfl) ?_
                              refine lv_sipush (v := nI 8000) hx hb dX1_next_328 (by decide) ?_
                              refine lv_icmp_ge (tgt := 343) hx hb dX1_next_331 (by decide) (fun c_525 => ?_) (fun c_525 => ?_)
                              · have c_525 := (nI_leI (a := 8000) (b := many) (by omega) (by omega)).mp c_525
                                refine lv_iinc (v := nI (many + 1)) (lv' := [(2, .int (nI (many + 1))), (3, .int (nI (x4 g))), (5, .int (nI first)), (9, .int (nI (ts1 x2 (Y 8) g))), (8, .int (bI (rb x2 (Y 8) (g + 1)))), (7, .int (nI (x2 g))), (0, .ref (ad 0)), (1, .int (nI g)), (4, .int (nI bf)), (6, .int (nI en))]) hx hb dX1_next_343 hl (k := 7) rfl (by exact nI_add many 1) (by decide) rfl (fun ls hl => ?_)
                                refine lv_iconst (v := nI 0) hx hb dX1_next_346 (by decide) ?_
                                refine lv_istore (lv' := [(4, .int (nI 0)), (2, .int (nI (many + 1))), (3, .int (nI (x4 g))), (5, .int (nI first)), (9, .int (nI (ts1 x2 (Y 8) g))), (8, .int (bI (rb x2 (Y 8) (g + 1)))), (7, .int (nI (x2 g))), (0, .ref (ad 0)), (1, .int (nI g)), (6, .int (nI en))]) hx hb dX1_next_347 hl (by decide) rfl (fun ls hl => ?_)
                                refine lv_iload_n hx hb dX1_next_349 rfl (lv_at hl 8 rfl) ?_
                                refine lv_iload hx hb dX1_next_350 (lv_at hl 4 rfl) ?_
                                refine lv_iadd hx hb dX1_next_352 ?_
                                refine lv_topi (fun x_526 e_527 => ?_)
                                obtain rfl : x_526 = nI (g + (ts1 x2 (Y 8) g)) := e_527.trans (nI_add g (ts1 x2 (Y 8) g))
                                refine lv_istore_n (lv' := [(1, .int (nI (g + (ts1 x2 (Y 8) g)))), (4, .int (nI 0)), (2, .int (nI (many + 1))), (3, .int (nI (x4 g))), (5, .int (nI first)), (9, .int (nI (ts1 x2 (Y 8) g))), (8, .int (bI (rb x2 (Y 8) (g + 1)))), (7, .int (nI (x2 g))), (0, .ref (ad 0)), (6, .int (nI en))]) hx hb dX1_next_353 rfl hl (by decide) rfl (fun ls hl => ?_)
                                refine lv_goto (tgt := 65) hx hb dX1_next_354 (by decide) ?_
                                rw [rL, if_neg (by omega), if_neg (by omega), if_neg (by rw [c_94]; decide), if_neg (by omega), if_neg (by omega), if_neg (by omega), rQ, if_neg (by omega), rKY, if_neg (by omega), rK5, if_neg (by omega), rK6, if_neg (by omega), rK6, if_neg (by omega), rK6, if_neg (by omega), rK9, if_neg (by omega), if_pos (by omega), if_neg (by omega)] at hQ
                                exact ih Y x5 x6 x7 x8 x9 (g + (ts1 x2 (Y 8) g)) (many + 1) (x4 g) 0 first en (by show Y 8 - (g + (ts1 x2 (Y 8) g)) + 1 - en < k; omega) (show (Y 8) ≤ 32768 by omega) (show (g + (ts1 x2 (Y 8) g)) ≤ (Y 8) by omega) (show (Y 18) ≤ (g + (ts1 x2 (Y 8) g)) by omega) (show (many + 1) ≤ (g + (ts1 x2 (Y 8) g)) by omega) (show (many + 1) ≤ 8000 → (Y 13) = (many + 1) by omega) (show 0 ≤ 1 by omega) (show en ≤ 1 by omega) (show (Y 7) ≤ 1000 by omega) (show (Y 6) ≤ 20000 by omega) (show en = 1 → (g + (ts1 x2 (Y 8) g)) < (Y 8) by omega) hQ _ _ hP hD hS _ (lv_sub hl [8, 0, 2, 3, 1, 4, 9] rfl)
                              · have c_525 := mt (nI_leI (a := 8000) (b := many) (by omega) (by omega)).mpr c_525
                                omega
                          · have c_513 := (nI_eq (a := many) (b := 0) (by omega) (by omega)).mp c_513
                            refine lv_aload_n hx hb dX1_next_296 rfl (lv_at hl 3 rfl) ?_
                            refine va_get (D := (dC, dI)) (ci := 1) (v := .ref (ad 4)) (C := RX1) (T := TX1) (N := 20) hx hb hts inX1 hown hK hP 0 rfl rfl 11 (by decide) (hts _ fl_X1_21) (fun _ h9 => h9) rfl dX1_next_297 ?_
                            refine lv_iload_n hx hb dX1_next_300 rfl (lv_at hl 4 rfl) ?_
                            refine va_iald hx hb hK hP 4 1 rfl rfl (vp_in_nI (by omega) (by decide)) dX1_next_301 ?_
                            refine lv_topi (fun x_528 e_529 => ?_)
                            obtain rfl : x_528 = nI (x4 g) := e_529.trans (by rw [nI_clamp (by omega)])
                            refine lv_goto (tgt := 307) hx hb dX1_next_302 (by decide) ?_
                            refine lv_istore (lv' := [(5, .int (nI (x4 g))), (9, .int (nI (ts1 x2 (Y 8) g))), (8, .int (bI (rb x2 (Y 8) (g + 1)))), (7, .int (nI (x2 g))), (0, .ref (ad 0)), (1, .int (nI g)), (2, .int (nI many)), (3, .int (nI much)), (4, .int (nI bf)), (6, .int (nI en))]) hx hb dX1_next_307 hl (by decide) rfl (fun ls hl => ?_)
                            refine lv_iload_n hx hb dX1_next_309 rfl (lv_at hl 6 rfl) ?_
                            refine lv_sipush (v := nI 8000) hx hb dX1_next_310 (by decide) ?_
                            refine lv_icmp_ne (tgt := 325) hx hb dX1_next_313 (by decide) (fun c_530 => ?_) (fun c_530 => ?_)
                            · have c_530 := mt (nI_eq (a := many) (b := 8000) (by omega) (by omega)).mpr c_530
                              refine lv_iload_n hx hb dX1_next_325 rfl (lv_at hl 7 rfl) ?_
                              refine lv_istore_n (lv' := [(3, .int (nI much)), (5, .int (nI (x4 g))), (9, .int (nI (ts1 x2 (Y 8) g))), (8, .int (bI (rb x2 (Y 8) (g + 1)))), (7, .int (nI (x2 g))), (0, .ref (ad 0)), (1, .int (nI g)), (2, .int (nI many)), (4, .int (nI bf)), (6, .int (nI en))]) hx hb dX1_next_326 rfl hl (by decide) rfl (fun ls hl => ?_)
                              refine lv_iload_n hx hb dX1_next_327 rfl (lv_at hl 7 rfl) ?_
                              refine lv_sipush (v := nI 8000) hx hb dX1_next_328 (by decide) ?_
                              refine lv_icmp_ge (tgt := 343) hx hb dX1_next_331 (by decide) (fun c_531 => ?_) (fun c_531 => ?_)
                              · have c_531 := (nI_leI (a := 8000) (b := many) (by omega) (by omega)).mp c_531
                                omega
                              · have c_531 := mt (nI_leI (a := 8000) (b := many) (by omega) (by omega)).mpr c_531
                                refine lv_aload_n hx hb dX1_next_334 rfl (lv_at hl 5 rfl) ?_
                                refine lv_iload_n hx hb dX1_next_335 rfl (lv_at hl 6 rfl) ?_
                                refine lv_iload hx hb dX1_next_336 (lv_at hl 2 rfl) ?_
                                refine lv_iload hx hb dX1_next_338 (lv_at hl 8 rfl) ?_
                                refine rm_callv (va_runV (As := [.int (nI g), .int (nI (ts1 x2 (Y 8) g)), .int (nI bf)]) (rest := []) ⟨hx, hb, hml, hown, hts⟩ (r_keep l dC dI ct ad H.size Y x1 x2 x3 x4 x5 x6 x7 x8 x9 g (ts1 x2 (Y 8) g) bf (show g < 32768 by omega) (show Y 18 + ts1 x2 (Y 8) g ≤ 32768 by omega) (show g + ts1 x2 (Y 8) g ≤ 32768 by omega) h2 (show Y 13 < 8000 by omega) (show bf ≤ 1 by omega)) (cwV 3 hts (gV (fun _ h => h) ml_X1_132 im_X1_keep se_X1_keep ini_X1 co_X1_keep) rfl rfl rfl pd_X1_keep ⟨Nat.le_of_ble_eq_true rfl, Nat.le_of_ble_eq_true rfl⟩) (rm_preS hK hP hD) rfl rfl hl.1 rfl (lv_room (Nat.le_of_ble_eq_true rfl)) dX1_next_340 ⟨Nat.zero_le _, Nat.zero_le _⟩) hD hS hA (fun u_533 H locs q_532 hP hD hS => ?_)
                                subst q_532
                                have hP : va_P (dC, dI) vwCl (rmW ct ad ((zu (zu Y 13 (Y 13 + 1)) 18 (Y 18 + (ts1 x2 (Y 8) g))), x1, x2, x3, x4, (nu x5 (Y 13) (Y 18)), (nu x6 (Y 13) (ts1 x2 (Y 8) g)), (nu x7 (Y 13) (x4 g)), (nu x8 (Y 13) bf), (cpG (fun i => x2 (g + i)) (Y 18) (ts1 x2 (Y 8) g) x9))) H := hP
                                have hD : va_D A (rmW ct ad ((zu (zu Y 13 (Y 13 + 1)) 18 (Y 18 + (ts1 x2 (Y 8) g))), x1, x2, x3, x4, (nu x5 (Y 13) (Y 18)), (nu x6 (Y 13) (ts1 x2 (Y 8) g)), (nu x7 (Y 13) (x4 g)), (nu x8 (Y 13) bf), (cpG (fun i => x2 (g + i)) (Y 18) (ts1 x2 (Y 8) g) x9))) := hD
                                refine lv_iinc (v := nI (many + 1)) (lv' := [(2, .int (nI (many + 1))), (3, .int (nI much)), (5, .int (nI (x4 g))), (9, .int (nI (ts1 x2 (Y 8) g))), (8, .int (bI (rb x2 (Y 8) (g + 1)))), (7, .int (nI (x2 g))), (0, .ref (ad 0)), (1, .int (nI g)), (4, .int (nI bf)), (6, .int (nI en))]) hx hb dX1_next_343 hl (k := 7) rfl (by exact nI_add many 1) (by decide) rfl (fun ls hl => ?_)
                                refine lv_iconst (v := nI 0) hx hb dX1_next_346 (by decide) ?_
                                refine lv_istore (lv' := [(4, .int (nI 0)), (2, .int (nI (many + 1))), (3, .int (nI much)), (5, .int (nI (x4 g))), (9, .int (nI (ts1 x2 (Y 8) g))), (8, .int (bI (rb x2 (Y 8) (g + 1)))), (7, .int (nI (x2 g))), (0, .ref (ad 0)), (1, .int (nI g)), (6, .int (nI en))]) hx hb dX1_next_347 hl (by decide) rfl (fun ls hl => ?_)
                                refine lv_iload_n hx hb dX1_next_349 rfl (lv_at hl 8 rfl) ?_
                                refine lv_iload hx hb dX1_next_350 (lv_at hl 4 rfl) ?_
                                refine lv_iadd hx hb dX1_next_352 ?_
                                refine lv_topi (fun x_535 e_536 => ?_)
                                obtain rfl : x_535 = nI (g + (ts1 x2 (Y 8) g)) := e_536.trans (nI_add g (ts1 x2 (Y 8) g))
                                refine lv_istore_n (lv' := [(1, .int (nI (g + (ts1 x2 (Y 8) g)))), (4, .int (nI 0)), (2, .int (nI (many + 1))), (3, .int (nI much)), (5, .int (nI (x4 g))), (9, .int (nI (ts1 x2 (Y 8) g))), (8, .int (bI (rb x2 (Y 8) (g + 1)))), (7, .int (nI (x2 g))), (0, .ref (ad 0)), (6, .int (nI en))]) hx hb dX1_next_353 rfl hl (by decide) rfl (fun ls hl => ?_)
                                refine lv_goto (tgt := 65) hx hb dX1_next_354 (by decide) ?_
                                rw [rL, if_neg (by omega), if_neg (by omega), if_neg (by rw [c_94]; decide), if_neg (by omega), if_neg (by omega), if_neg (by omega), rQ, if_neg (by omega), rKY, if_pos (by omega), rK5, if_pos (by omega), rK6, if_pos (by omega), rK6, if_pos (by omega), rK6, if_pos (by omega), rK9, if_pos (by omega), if_neg (by omega), if_pos (by omega)] at hQ
                                exact ih (zu (zu Y 13 (Y 13 + 1)) 18 (Y 18 + (ts1 x2 (Y 8) g))) ((nu x5 (Y 13) (Y 18))) ((nu x6 (Y 13) (ts1 x2 (Y 8) g))) ((nu x7 (Y 13) (x4 g))) ((nu x8 (Y 13) bf)) ((cpG (fun i => x2 (g + i)) (Y 18) (ts1 x2 (Y 8) g) x9)) (g + (ts1 x2 (Y 8) g)) (many + 1) much 0 (x4 g) en (by show Y 8 - (g + (ts1 x2 (Y 8) g)) + 1 - en < k; omega) (show (Y 8) ≤ 32768 by omega) (show (g + (ts1 x2 (Y 8) g)) ≤ (Y 8) by omega) (show (Y 18 + (ts1 x2 (Y 8) g)) ≤ (g + (ts1 x2 (Y 8) g)) by omega) (show (many + 1) ≤ (g + (ts1 x2 (Y 8) g)) by omega) (show (many + 1) ≤ 8000 → (Y 13 + 1) = (many + 1) by omega) (show 0 ≤ 1 by omega) (show en ≤ 1 by omega) (show (Y 7) ≤ 1000 by omega) (show (Y 6) ≤ 20000 by omega) (show en = 1 → (g + (ts1 x2 (Y 8) g)) < (Y 8) by omega) hQ _ _ hP hD hS _ (lv_sub hl [8, 0, 2, 3, 1, 4, 9] rfl)
                            · have c_530 := (nI_eq (a := many) (b := 8000) (by omega) (by omega)).mp c_530
                              omega
                        · have c_512 := (nI_eq (a := x2 g) (b := 39) (by omega) (by omega)).mp c_512
                          refine lv_aload_n hx hb dX1_next_259 rfl (lv_at hl 3 rfl) ?_
                          refine lv_dup hx hb dX1_next_260 rfl ?_
                          refine va_get (D := (dC, dI)) (ci := 1) (v := .int (nI (Y 7))) (C := RX1) (T := TX1) (N := 20) hx hb hts inX1 hown hK hP 0 rfl rfl 7 (by decide) (hts _ fl_X1_63) (fun _ h9 => h9) rfl dX1_next_261 ?_
                          refine lv_iconst (v := nI 1) hx hb dX1_next_264 (by decide) ?_
                          refine lv_iadd hx hb dX1_next_265 ?_
                          refine lv_topi (fun x_537 e_538 => ?_)
                          obtain rfl : x_537 = nI (Y 7 + 1) := e_538.trans (nI_add (Y 7) 1)
                          refine va_put (D := (dC, dI)) (ci := 1) (v := .int (nI (Y 7 + 1))) (ty := .int) (C := RX1) (T := TX1) (N := 20) hx hb hts inX1 tyX1 okX1 nmX1 hown hK hP hD hS 0 rfl rfl 7 (by decide) (hts _ fl_X1_63) (fun _ h9 => h9) rfl (by decide +kernel) rfl rfl (Nat.le_of_ble_eq_true rfl) dX1_next_266 (fun H locs hP hD hS => ?_)
                          have hP : va_P (dC, dI) vwCl (rmW ct ad ((zu Y 7 (Y 7 + 1)), x1, x2, x3, x4, x5, x6, x7, x8, x9)) H := hP
                          have hD : va_D A (rmW ct ad ((zu Y 7 (Y 7 + 1)), x1, x2, x3, x4, x5, x6, x7, x8, x9)) := hD
                          refine lv_aload_n hx hb dX1_next_269 rfl (lv_at hl 3 rfl) ?_
                          refine va_get (D := (dC, dI)) (ci := 1) (v := .int (nI (Y 7 + 1))) (C := RX1) (T := TX1) (N := 20) hx hb hts inX1 hown hK hP 0 rfl rfl 7 (by decide) (hts _ fl_X1_63) (fun _ h9 => h9) rfl dX1_next_270 ?_
                          refine lv_sipush (v := nI 1000) hx hb dX1_next_273 (by decide) ?_
                          refine lv_icmp_le (tgt := 292) hx hb dX1_next_276 (by decide) (fun c_539 => ?_) (fun c_539 => ?_)
                          · have c_539 := (nI_leI (a := Y 7 + 1) (b := 1000) (by omega) (by omega)).mp c_539
                            refine lv_iload_n hx hb dX1_next_292 rfl (lv_at hl 5 rfl) ?_
                            refine lv_if_ne (tgt := 305) hx hb dX1_next_293 (by decide) (fun c_540 => ?_) (fun c_540 => ?_)
                            · have c_540 := mt (nI_eq (a := many) (b := 0) (by omega) (by omega)).mpr c_540
                              refine lv_iload hx hb dX1_next_305 (lv_at hl 8 rfl) ?_
                              refine lv_istore (lv' := [(5, .int (nI first)), (9, .int (nI (ts1 x2 (Y 8) g))), (8, .int (bI (rb x2 (Y 8) (g + 1)))), (7, .int (nI (x2 g))), (0, .ref (ad 0)), (1, .int (nI g)), (2, .int (nI many)), (3, .int (nI much)), (4, .int (nI bf)), (6, .int (nI en))]) hx hb dX1_next_307 hl (by decide) rfl (fun ls hl => ?_)
                              refine lv_iload_n hx hb dX1_next_309 rfl (lv_at hl 6 rfl) ?_
                              refine lv_sipush (v := nI 8000) hx hb dX1_next_310 (by decide) ?_
                              refine lv_icmp_ne (tgt := 325) hx hb dX1_next_313 (by decide) (fun c_541 => ?_) (fun c_541 => ?_)
                              · have c_541 := mt (nI_eq (a := many) (b := 8000) (by omega) (by omega)).mpr c_541
                                refine lv_iload_n hx hb dX1_next_325 rfl (lv_at hl 7 rfl) ?_
                                refine lv_istore_n (lv' := [(3, .int (nI much)), (5, .int (nI first)), (9, .int (nI (ts1 x2 (Y 8) g))), (8, .int (bI (rb x2 (Y 8) (g + 1)))), (7, .int (nI (x2 g))), (0, .ref (ad 0)), (1, .int (nI g)), (2, .int (nI many)), (4, .int (nI bf)), (6, .int (nI en))]) hx hb dX1_next_326 rfl hl (by decide) rfl (fun ls hl => ?_)
                                refine lv_iload_n hx hb dX1_next_327 rfl (lv_at hl 7 rfl) ?_
                                refine lv_sipush (v := nI 8000) hx hb dX1_next_328 (by decide) ?_
                                refine lv_icmp_ge (tgt := 343) hx hb dX1_next_331 (by decide) (fun c_542 => ?_) (fun c_542 => ?_)
                                · have c_542 := (nI_leI (a := 8000) (b := many) (by omega) (by omega)).mp c_542
                                  refine lv_iinc (v := nI (many + 1)) (lv' := [(2, .int (nI (many + 1))), (3, .int (nI much)), (5, .int (nI first)), (9, .int (nI (ts1 x2 (Y 8) g))), (8, .int (bI (rb x2 (Y 8) (g + 1)))), (7, .int (nI (x2 g))), (0, .ref (ad 0)), (1, .int (nI g)), (4, .int (nI bf)), (6, .int (nI en))]) hx hb dX1_next_343 hl (k := 7) rfl (by exact nI_add many 1) (by decide) rfl (fun ls hl => ?_)
                                  refine lv_iconst (v := nI 0) hx hb dX1_next_346 (by decide) ?_
                                  refine lv_istore (lv' := [(4, .int (nI 0)), (2, .int (nI (many + 1))), (3, .int (nI much)), (5, .int (nI first)), (9, .int (nI (ts1 x2 (Y 8) g))), (8, .int (bI (rb x2 (Y 8) (g + 1)))), (7, .int (nI (x2 g))), (0, .ref (ad 0)), (1, .int (nI g)), (6, .int (nI en))]) hx hb dX1_next_347 hl (by decide) rfl (fun ls hl => ?_)
                                  refine lv_iload_n hx hb dX1_next_349 rfl (lv_at hl 8 rfl) ?_
                                  refine lv_iload hx hb dX1_next_350 (lv_at hl 4 rfl) ?_
                                  refine lv_iadd hx hb dX1_next_352 ?_
                                  refine lv_topi (fun x_543 e_544 => ?_)
                                  obtain rfl : x_543 = nI (g + (ts1 x2 (Y 8) g)) := e_544.trans (nI_add g (ts1 x2 (Y 8) g))
                                  refine lv_istore_n (lv' := [(1, .int (nI (g + (ts1 x2 (Y 8) g)))), (4, .int (nI 0)), (2, .int (nI (many + 1))), (3, .int (nI much)), (5, .int (nI first)), (9, .int (nI (ts1 x2 (Y 8) g))), (8, .int (bI (rb x2 (Y 8) (g + 1)))), (7, .int (nI (x2 g))), (0, .ref (ad 0)), (6, .int (nI en))]) hx hb dX1_next_353 rfl hl (by decide) rfl (fun ls hl => ?_)
                                  refine lv_goto (tgt := 65) hx hb dX1_next_354 (by decide) ?_
                                  rw [rL, if_neg (by omega), if_neg (by omega), if_neg (by rw [c_94]; decide), if_neg (by omega), if_neg (by omega), if_neg (by omega), rQ, if_pos (by omega), rKY, if_neg (by omega), rK5, if_neg (by omega), rK6, if_neg (by omega), rK6, if_neg (by omega), rK6, if_neg (by omega), rK9, if_neg (by omega), if_neg (by omega), if_neg (by omega)] at hQ
                                  exact ih (zu Y 7 (Y 7 + 1)) x5 x6 x7 x8 x9 (g + (ts1 x2 (Y 8) g)) (many + 1) much 0 first en (by show Y 8 - (g + (ts1 x2 (Y 8) g)) + 1 - en < k; omega) (show (Y 8) ≤ 32768 by omega) (show (g + (ts1 x2 (Y 8) g)) ≤ (Y 8) by omega) (show (Y 18) ≤ (g + (ts1 x2 (Y 8) g)) by omega) (show (many + 1) ≤ (g + (ts1 x2 (Y 8) g)) by omega) (show (many + 1) ≤ 8000 → (Y 13) = (many + 1) by omega) (show 0 ≤ 1 by omega) (show en ≤ 1 by omega) (show (Y 7 + 1) ≤ 1000 by omega) (show (Y 6) ≤ 20000 by omega) (show en = 1 → (g + (ts1 x2 (Y 8) g)) < (Y 8) by omega) hQ _ _ hP hD hS _ (lv_sub hl [8, 0, 2, 3, 1, 4, 9] rfl)
                                · have c_542 := mt (nI_leI (a := 8000) (b := many) (by omega) (by omega)).mpr c_542
                                  refine lv_aload_n hx hb dX1_next_334 rfl (lv_at hl 5 rfl) ?_
                                  refine lv_iload_n hx hb dX1_next_335 rfl (lv_at hl 6 rfl) ?_
                                  refine lv_iload hx hb dX1_next_336 (lv_at hl 2 rfl) ?_
                                  refine lv_iload hx hb dX1_next_338 (lv_at hl 8 rfl) ?_
                                  refine rm_callv (va_runV (As := [.int (nI g), .int (nI (ts1 x2 (Y 8) g)), .int (nI bf)]) (rest := []) ⟨hx, hb, hml, hown, hts⟩ (r_keep l dC dI ct ad H.size (zu Y 7 (Y 7 + 1)) x1 x2 x3 x4 x5 x6 x7 x8 x9 g (ts1 x2 (Y 8) g) bf (show g < 32768 by omega) (show Y 18 + ts1 x2 (Y 8) g ≤ 32768 by omega) (show g + ts1 x2 (Y 8) g ≤ 32768 by omega) h2 (show Y 13 < 8000 by omega) (show bf ≤ 1 by omega)) (cwV 3 hts (gV (fun _ h => h) ml_X1_132 im_X1_keep se_X1_keep ini_X1 co_X1_keep) rfl rfl rfl pd_X1_keep ⟨Nat.le_of_ble_eq_true rfl, Nat.le_of_ble_eq_true rfl⟩) (rm_preS hK hP hD) rfl rfl hl.1 rfl (lv_room (Nat.le_of_ble_eq_true rfl)) dX1_next_340 ⟨Nat.zero_le _, Nat.zero_le _⟩) hD hS hA (fun u_546 H locs q_545 hP hD hS => ?_)
                                  subst q_545
                                  have hP : va_P (dC, dI) vwCl (rmW ct ad ((zu (zu (zu Y 7 (Y 7 + 1)) 13 (Y 13 + 1)) 18 (Y 18 + (ts1 x2 (Y 8) g))), x1, x2, x3, x4, (nu x5 (Y 13) (Y 18)), (nu x6 (Y 13) (ts1 x2 (Y 8) g)), (nu x7 (Y 13) (x4 g)), (nu x8 (Y 13) bf), (cpG (fun i => x2 (g + i)) (Y 18) (ts1 x2 (Y 8) g) x9))) H := hP
                                  have hD : va_D A (rmW ct ad ((zu (zu (zu Y 7 (Y 7 + 1)) 13 (Y 13 + 1)) 18 (Y 18 + (ts1 x2 (Y 8) g))), x1, x2, x3, x4, (nu x5 (Y 13) (Y 18)), (nu x6 (Y 13) (ts1 x2 (Y 8) g)), (nu x7 (Y 13) (x4 g)), (nu x8 (Y 13) bf), (cpG (fun i => x2 (g + i)) (Y 18) (ts1 x2 (Y 8) g) x9))) := hD
                                  refine lv_iinc (v := nI (many + 1)) (lv' := [(2, .int (nI (many + 1))), (3, .int (nI much)), (5, .int (nI first)), (9, .int (nI (ts1 x2 (Y 8) g))), (8, .int (bI (rb x2 (Y 8) (g + 1)))), (7, .int (nI (x2 g))), (0, .ref (ad 0)), (1, .int (nI g)), (4, .int (nI bf)), (6, .int (nI en))]) hx hb dX1_next_343 hl (k := 7) rfl (by exact nI_add many 1) (by decide) rfl (fun ls hl => ?_)
                                  refine lv_iconst (v := nI 0) hx hb dX1_next_346 (by decide) ?_
                                  refine lv_istore (lv' := [(4, .int (nI 0)), (2, .int (nI (many + 1))), (3, .int (nI much)), (5, .int (nI first)), (9, .int (nI (ts1 x2 (Y 8) g))), (8, .int (bI (rb x2 (Y 8) (g + 1)))), (7, .int (nI (x2 g))), (0, .ref (ad 0)), (1, .int (nI g)), (6, .int (nI en))]) hx hb dX1_next_347 hl (by decide) rfl (fun ls hl => ?_)
                                  refine lv_iload_n hx hb dX1_next_349 rfl (lv_at hl 8 rfl) ?_
                                  refine lv_iload hx hb dX1_next_350 (lv_at hl 4 rfl) ?_
                                  refine lv_iadd hx hb dX1_next_352 ?_
                                  refine lv_topi (fun x_548 e_549 => ?_)
                                  obtain rfl : x_548 = nI (g + (ts1 x2 (Y 8) g)) := e_549.trans (nI_add g (ts1 x2 (Y 8) g))
                                  refine lv_istore_n (lv' := [(1, .int (nI (g + (ts1 x2 (Y 8) g)))), (4, .int (nI 0)), (2, .int (nI (many + 1))), (3, .int (nI much)), (5, .int (nI first)), (9, .int (nI (ts1 x2 (Y 8) g))), (8, .int (bI (rb x2 (Y 8) (g + 1)))), (7, .int (nI (x2 g))), (0, .ref (ad 0)), (6, .int (nI en))]) hx hb dX1_next_353 rfl hl (by decide) rfl (fun ls hl => ?_)
                                  refine lv_goto (tgt := 65) hx hb dX1_next_354 (by decide) ?_
                                  rw [rL, if_neg (by omega), if_neg (by omega), if_neg (by rw [c_94]; decide), if_neg (by omega), if_neg (by omega), if_neg (by omega), rQ, if_pos (by omega), rKY, if_pos (by omega), rK5, if_pos (by omega), rK6, if_pos (by omega), rK6, if_pos (by omega), rK6, if_pos (by omega), rK9, if_pos (by omega), if_neg (by omega), if_neg (by omega)] at hQ
                                  exact ih (zu (zu (zu Y 7 (Y 7 + 1)) 13 (Y 13 + 1)) 18 (Y 18 + (ts1 x2 (Y 8) g))) ((nu x5 (Y 13) (Y 18))) ((nu x6 (Y 13) (ts1 x2 (Y 8) g))) ((nu x7 (Y 13) (x4 g))) ((nu x8 (Y 13) bf)) ((cpG (fun i => x2 (g + i)) (Y 18) (ts1 x2 (Y 8) g) x9)) (g + (ts1 x2 (Y 8) g)) (many + 1) much 0 first en (by show Y 8 - (g + (ts1 x2 (Y 8) g)) + 1 - en < k; omega) (show (Y 8) ≤ 32768 by omega) (show (g + (ts1 x2 (Y 8) g)) ≤ (Y 8) by omega) (show (Y 18 + (ts1 x2 (Y 8) g)) ≤ (g + (ts1 x2 (Y 8) g)) by omega) (show (many + 1) ≤ (g + (ts1 x2 (Y 8) g)) by omega) (show (many + 1) ≤ 8000 → (Y 13 + 1) = (many + 1) by omega) (show 0 ≤ 1 by omega) (show en ≤ 1 by omega) (show (Y 7 + 1) ≤ 1000 by omega) (show (Y 6) ≤ 20000 by omega) (show en = 1 → (g + (ts1 x2 (Y 8) g)) < (Y 8) by omega) hQ _ _ hP hD hS _ (lv_sub hl [8, 0, 2, 3, 1, 4, 9] rfl)
                              · have c_541 := (nI_eq (a := many) (b := 8000) (by omega) (by omega)).mp c_541
                                refine lv_aload_n hx hb dX1_next_316 rfl (lv_at hl 4 rfl) ?_
                                refine va_get (D := (dC, dI)) (ci := 1) (v := .ref (ad 4)) (C := RX1) (T := TX1) (N := 20) hx hb hts inX1 hown hK hP 0 rfl rfl 11 (by decide) (hts _ fl_X1_21) (fun _ h9 => h9) rfl dX1_next_317 ?_
                                refine lv_iload_n hx hb dX1_next_320 rfl (lv_at hl 5 rfl) ?_
                                refine va_iald hx hb hK hP 4 1 rfl rfl (vp_in_nI (by omega) (by decide)) dX1_next_321 ?_
                                refine lv_topi (fun x_550 e_551 => ?_)
                                obtain rfl : x_550 = nI (x4 g) := e_551.trans (by rw [nI_clamp (by omega)])
                                refine lv_goto (tgt := 326) hx hb dX1_next_322 (by decide) ?_
                                refine lv_istore_n (lv' := [(3, .int (nI (x4 g))), (5, .int (nI first)), (9, .int (nI (ts1 x2 (Y 8) g))), (8, .int (bI (rb x2 (Y 8) (g + 1)))), (7, .int (nI (x2 g))), (0, .ref (ad 0)), (1, .int (nI g)), (2, .int (nI many)), (4, .int (nI bf)), (6, .int (nI en))]) hx hb dX1_next_326 rfl hl (by decide) rfl (fun ls hl => ?_)
                                refine lv_iload_n hx hb dX1_next_327 rfl (lv_at hl 7 rfl) ?_
                                refine lv_sipush (v := nI 8000) hx hb dX1_next_328 (by decide) ?_
                                refine lv_icmp_ge (tgt := 343) hx hb dX1_next_331 (by decide) (fun c_552 => ?_) (fun c_552 => ?_)
                                · have c_552 := (nI_leI (a := 8000) (b := many) (by omega) (by omega)).mp c_552
                                  refine lv_iinc (v := nI (many + 1)) (lv' := [(2, .int (nI (many + 1))), (3, .int (nI (x4 g))), (5, .int (nI first)), (9, .int (nI (ts1 x2 (Y 8) g))), (8, .int (bI (rb x2 (Y 8) (g + 1)))), (7, .int (nI (x2 g))), (0, .ref (ad 0)), (1, .int (nI g)), (4, .int (nI bf)), (6, .int (nI en))]) hx hb dX1_next_343 hl (k := 7) rfl (by exact nI_add many 1) (by decide) rfl (fun ls hl => ?_)
                                  refine lv_iconst (v := nI 0) hx hb dX1_next_346 (by decide) ?_
                                  refine lv_istore (lv' := [(4, .int (nI 0)), (2, .int (nI (many + 1))), (3, .int (nI (x4 g))), (5, .int (nI first)), (9, .int (nI (ts1 x2 (Y 8) g))), (8, .int (bI (rb x2 (Y 8) (g + 1)))), (7, .int (nI (x2 g))), (0, .ref (ad 0)), (1, .int (nI g)), (6, .int (nI en))]) hx hb dX1_next_347 hl (by decide) rfl (fun ls hl => ?_)
                                  refine lv_iload_n hx hb dX1_next_349 rfl (lv_at hl 8 rfl) ?_
                                  refine lv_iload hx hb dX1_next_350 (lv_at hl 4 rfl) ?_
                                  refine lv_iadd hx hb dX1_next_352 ?_
                                  refine lv_topi (fun x_553 e_554 => ?_)
                                  obtain rfl : x_553 = nI (g + (ts1 x2 (Y 8) g)) := e_554.trans (nI_add g (ts1 x2 (Y 8) g))
                                  refine lv_istore_n (lv' := [(1, .int (nI (g + (ts1 x2 (Y 8) g)))), (4, .int (nI 0)), (2, .int (nI (many + 1))), (3, .int (nI (x4 g))), (5, .int (nI first)), (9, .int (nI (ts1 x2 (Y 8) g))), (8, .int (bI (rb x2 (Y 8) (g + 1)))), (7, .int (nI (x2 g))), (0, .ref (ad 0)), (6, .int (nI en))]) hx hb dX1_next_353 rfl hl (by decide) rfl (fun ls hl => ?_)
                                  refine lv_goto (tgt := 65) hx hb dX1_next_354 (by decide) ?_
                                  rw [rL, if_neg (by omega), if_neg (by omega), if_neg (by rw [c_94]; decide), if_neg (by omega), if_neg (by omega), if_neg (by omega), rQ, if_pos (by omega), rKY, if_neg (by omega), rK5, if_neg (by omega), rK6, if_neg (by omega), rK6, if_neg (by omega), rK6, if_neg (by omega), rK9, if_neg (by omega), if_pos (by omega), if_neg (by omega)] at hQ
                                  exact ih (zu Y 7 (Y 7 + 1)) x5 x6 x7 x8 x9 (g + (ts1 x2 (Y 8) g)) (many + 1) (x4 g) 0 first en (by show Y 8 - (g + (ts1 x2 (Y 8) g)) + 1 - en < k; omega) (show (Y 8) ≤ 32768 by omega) (show (g + (ts1 x2 (Y 8) g)) ≤ (Y 8) by omega) (show (Y 18) ≤ (g + (ts1 x2 (Y 8) g)) by omega) (show (many + 1) ≤ (g + (ts1 x2 (Y 8) g)) by omega) (show (many + 1) ≤ 8000 → (Y 13) = (many + 1) by omega) (show 0 ≤ 1 by omega) (show en ≤ 1 by omega) (show (Y 7 + 1) ≤ 1000 by omega) (show (Y 6) ≤ 20000 by omega) (show en = 1 → (g + (ts1 x2 (Y 8) g)) < (Y 8) by omega) hQ _ _ hP hD hS _ (lv_sub hl [8, 0, 2, 3, 1, 4, 9] rfl)
                                · have c_552 := mt (nI_leI (a := 8000) (b := many) (by omega) (by omega)).mpr c_552
                                  omega
                            · have c_540 := (nI_eq (a := many) (b := 0) (by omega) (by omega)).mp c_540
                              refine lv_aload_n hx hb dX1_next_296 rfl (lv_at hl 3 rfl) ?_
                              refine va_get (D := (dC, dI)) (ci := 1) (v := .ref (ad 4)) (C := RX1) (T := TX1) (N := 20) hx hb hts inX1 hown hK hP 0 rfl rfl 11 (by decide) (hts _ fl_X1_21) (fun _ h9 => h9) rfl dX1_next_297 ?_
                              refine lv_iload_n hx hb dX1_next_300 rfl (lv_at hl 4 rfl) ?_
                              refine va_iald hx hb hK hP 4 1 rfl rfl (vp_in_nI (by omega) (by decide)) dX1_next_301 ?_
                              refine lv_topi (fun x_555 e_556 => ?_)
                              obtain rfl : x_555 = nI (x4 g) := e_556.trans (by rw [nI_clamp (by omega)])
                              refine lv_goto (tgt := 307) hx hb dX1_next_302 (by decide) ?_
                              refine lv_istore (lv' := [(5, .int (nI (x4 g))), (9, .int (nI (ts1 x2 (Y 8) g))), (8, .int (bI (rb x2 (Y 8) (g + 1)))), (7, .int (nI (x2 g))), (0, .ref (ad 0)), (1, .int (nI g)), (2, .int (nI many)), (3, .int (nI much)), (4, .int (nI bf)), (6, .int (nI en))]) hx hb dX1_next_307 hl (by decide) rfl (fun ls hl => ?_)
                              refine lv_iload_n hx hb dX1_next_309 rfl (lv_at hl 6 rfl) ?_
                              refine lv_sipush (v := nI 8000) hx hb dX1_next_310 (by decide) ?_
                              refine lv_icmp_ne (tgt := 325) hx hb dX1_next_313 (by decide) (fun c_557 => ?_) (fun c_557 => ?_)
                              · have c_557 := mt (nI_eq (a := many) (b := 8000) (by omega) (by omega)).mpr c_557
                                refine lv_iload_n hx hb dX1_next_325 rfl (lv_at hl 7 rfl) ?_
                                refine lv_istore_n (lv' := [(3, .int (nI much)), (5, .int (nI (x4 g))), (9, .int (nI (ts1 x2 (Y 8) g))), (8, .int (bI (rb x2 (Y 8) (g + 1)))), (7, .int (nI (x2 g))), (0, .ref (ad 0)), (1, .int (nI g)), (2, .int (nI many)), (4, .int (nI bf)), (6, .int (nI en))]) hx hb dX1_next_326 rfl hl (by decide) rfl (fun ls hl => ?_)
                                refine lv_iload_n hx hb dX1_next_327 rfl (lv_at hl 7 rfl) ?_
                                refine lv_sipush (v := nI 8000) hx hb dX1_next_328 (by decide) ?_
                                refine lv_icmp_ge (tgt := 343) hx hb dX1_next_331 (by decide) (fun c_558 => ?_) (fun c_558 => ?_)
                                · have c_558 := (nI_leI (a := 8000) (b := many) (by omega) (by omega)).mp c_558
                                  omega
                                · have c_558 := mt (nI_leI (a := 8000) (b := many) (by omega) (by omega)).mpr c_558
                                  refine lv_aload_n hx hb dX1_next_334 rfl (lv_at hl 5 rfl) ?_
                                  refine lv_iload_n hx hb dX1_next_335 rfl (lv_at hl 6 rfl) ?_
                                  refine lv_iload hx hb dX1_next_336 (lv_at hl 2 rfl) ?_
                                  refine lv_iload hx hb dX1_next_338 (lv_at hl 8 rfl) ?_
                                  refine rm_callv (va_runV (As := [.int (nI g), .int (nI (ts1 x2 (Y 8) g)), .int (nI bf)]) (rest := []) ⟨hx, hb, hml, hown, hts⟩ (r_keep l dC dI ct ad H.size (zu Y 7 (Y 7 + 1)) x1 x2 x3 x4 x5 x6 x7 x8 x9 g (ts1 x2 (Y 8) g) bf (show g < 32768 by omega) (show Y 18 + ts1 x2 (Y 8) g ≤ 32768 by omega) (show g + ts1 x2 (Y 8) g ≤ 32768 by omega) h2 (show Y 13 < 8000 by omega) (show bf ≤ 1 by omega)) (cwV 3 hts (gV (fun _ h => h) ml_X1_132 im_X1_keep se_X1_keep ini_X1 co_X1_keep) rfl rfl rfl pd_X1_keep ⟨Nat.le_of_ble_eq_true rfl, Nat.le_of_ble_eq_true rfl⟩) (rm_preS hK hP hD) rfl rfl hl.1 rfl (lv_room (Nat.le_of_ble_eq_true rfl)) dX1_next_340 ⟨Nat.zero_le _, Nat.zero_le _⟩) hD hS hA (fun u_560 H locs q_559 hP hD hS => ?_)
                                  subst q_559
                                  have hP : va_P (dC, dI) vwCl (rmW ct ad ((zu (zu (zu Y 7 (Y 7 + 1)) 13 (Y 13 + 1)) 18 (Y 18 + (ts1 x2 (Y 8) g))), x1, x2, x3, x4, (nu x5 (Y 13) (Y 18)), (nu x6 (Y 13) (ts1 x2 (Y 8) g)), (nu x7 (Y 13) (x4 g)), (nu x8 (Y 13) bf), (cpG (fun i => x2 (g + i)) (Y 18) (ts1 x2 (Y 8) g) x9))) H := hP
                                  have hD : va_D A (rmW ct ad ((zu (zu (zu Y 7 (Y 7 + 1)) 13 (Y 13 + 1)) 18 (Y 18 + (ts1 x2 (Y 8) g))), x1, x2, x3, x4, (nu x5 (Y 13) (Y 18)), (nu x6 (Y 13) (ts1 x2 (Y 8) g)), (nu x7 (Y 13) (x4 g)), (nu x8 (Y 13) bf), (cpG (fun i => x2 (g + i)) (Y 18) (ts1 x2 (Y 8) g) x9))) := hD
                                  refine lv_iinc (v := nI (many + 1)) (lv' := [(2, .int (nI (many + 1))), (3, .int (nI much)), (5, .int (nI (x4 g))), (9, .int (nI (ts1 x2 (Y 8) g))), (8, .int (bI (rb x2 (Y 8) (g + 1)))), (7, .int (nI (x2 g))), (0, .ref (ad 0)), (1, .int (nI g)), (4, .int (nI bf)), (6, .int (nI en))]) hx hb dX1_next_343 hl (k := 7) rfl (by exact nI_add many 1) (by decide) rfl (fun ls hl => ?_)
                                  refine lv_iconst (v := nI 0) hx hb dX1_next_346 (by decide) ?_
                                  refine lv_istore (lv' := [(4, .int (nI 0)), (2, .int (nI (many + 1))), (3, .int (nI much)), (5, .int (nI (x4 g))), (9, .int (nI (ts1 x2 (Y 8) g))), (8, .int (bI (rb x2 (Y 8) (g + 1)))), (7, .int (nI (x2 g))), (0, .ref (ad 0)), (1, .int (nI g)), (6, .int (nI en))]) hx hb dX1_next_347 hl (by decide) rfl (fun ls hl => ?_)
                                  refine lv_iload_n hx hb dX1_next_349 rfl (lv_at hl 8 rfl) ?_
                                  refine lv_iload hx hb dX1_next_350 (lv_at hl 4 rfl) ?_
                                  refine lv_iadd hx hb dX1_next_352 ?_
                                  refine lv_topi (fun x_562 e_563 => ?_)
                                  obtain rfl : x_562 = nI (g + (ts1 x2 (Y 8) g)) := e_563.trans (nI_add g (ts1 x2 (Y 8) g))
                                  refine lv_istore_n (lv' := [(1, .int (nI (g + (ts1 x2 (Y 8) g)))), (4, .int (nI 0)), (2, .int (nI (many + 1))), (3, .int (nI much)), (5, .int (nI (x4 g))), (9, .int (nI (ts1 x2 (Y 8) g))), (8, .int (bI (rb x2 (Y 8) (g + 1)))), (7, .int (nI (x2 g))), (0, .ref (ad 0)), (6, .int (nI en))]) hx hb dX1_next_353 rfl hl (by decide) rfl (fun ls hl => ?_)
                                  refine lv_goto (tgt := 65) hx hb dX1_next_354 (by decide) ?_
                                  rw [rL, if_neg (by omega), if_neg (by omega), if_neg (by rw [c_94]; decide), if_neg (by omega), if_neg (by omega), if_neg (by omega), rQ, if_pos (by omega), rKY, if_pos (by omega), rK5, if_pos (by omega), rK6, if_pos (by omega), rK6, if_pos (by omega), rK6, if_pos (by omega), rK9, if_pos (by omega), if_neg (by omega), if_pos (by omega)] at hQ
                                  exact ih (zu (zu (zu Y 7 (Y 7 + 1)) 13 (Y 13 + 1)) 18 (Y 18 + (ts1 x2 (Y 8) g))) ((nu x5 (Y 13) (Y 18))) ((nu x6 (Y 13) (ts1 x2 (Y 8) g))) ((nu x7 (Y 13) (x4 g))) ((nu x8 (Y 13) bf)) ((cpG (fun i => x2 (g + i)) (Y 18) (ts1 x2 (Y 8) g) x9)) (g + (ts1 x2 (Y 8) g)) (many + 1) much 0 (x4 g) en (by show Y 8 - (g + (ts1 x2 (Y 8) g)) + 1 - en < k; omega) (show (Y 8) ≤ 32768 by omega) (show (g + (ts1 x2 (Y 8) g)) ≤ (Y 8) by omega) (show (Y 18 + (ts1 x2 (Y 8) g)) ≤ (g + (ts1 x2 (Y 8) g)) by omega) (show (many + 1) ≤ (g + (ts1 x2 (Y 8) g)) by omega) (show (many + 1) ≤ 8000 → (Y 13 + 1) = (many + 1) by omega) (show 0 ≤ 1 by omega) (show en ≤ 1 by omega) (show (Y 7 + 1) ≤ 1000 by omega) (show (Y 6) ≤ 20000 by omega) (show en = 1 → (g + (ts1 x2 (Y 8) g)) < (Y 8) by omega) hQ _ _ hP hD hS _ (lv_sub hl [8, 0, 2, 3, 1, 4, 9] rfl)
                              · have c_557 := (nI_eq (a := many) (b := 8000) (by omega) (by omega)).mp c_557
                                omega
                          · have c_539 := mt (nI_leI (a := Y 7 + 1) (b := 1000) (by omega) (by omega)).mpr c_539
                            refine lv_aload_n hx hb dX1_next_279 rfl (lv_at hl 3 rfl) ?_
                            refine lv_bipush (v := nI 21) hx hb dX1_next_280 (by decide) ?_
                            refine lv_aload_n hx hb dX1_next_282 rfl (lv_at hl 3 rfl) ?_
                            refine va_get (D := (dC, dI)) (ci := 1) (v := .ref (ad 4)) (C := RX1) (T := TX1) (N := 20) hx hb hts inX1 hown hK hP 0 rfl rfl 11 (by decide) (hts _ fl_X1_21) (fun _ h9 => h9) rfl dX1_next_283 ?_
                            refine lv_iload_n hx hb dX1_next_286 rfl (lv_at hl 4 rfl) ?_
                            refine va_iald hx hb hK hP 4 1 rfl rfl (vp_in_nI (by omega) (by decide)) dX1_next_287 ?_
                            refine lv_topi (fun x_564 e_565 => ?_)
                            obtain rfl : x_564 = nI (x4 g) := e_565.trans (by rw [nI_clamp (by omega)])
                            refine rm_calli (va_runV (As := [.int (nI 21), .int (nI (x4 g))]) (rest := []) ⟨hx, hb, hml, hown, hts⟩ (r_stop l dC dI ct ad H.size (zu Y 7 (Y 7 + 1)) x1 x2 x3 x4 x5 x6 x7 x8 x9 21 (x4 g)) (cwV 2 hts (gV (fun _ h => h) ml_X1_126 im_X1_stop se_X1_stop ini_X1 co_X1_stop) rfl rfl rfl pd_X1_stop ⟨Nat.le_of_ble_eq_true rfl, Nat.le_of_ble_eq_true rfl⟩) (rm_preS hK hP hD) rfl rfl hl.1 rfl (lv_room (Nat.le_of_ble_eq_true rfl)) dX1_next_288 ⟨Nat.zero_le _, Nat.zero_le _⟩) hD hS hA (fun r_568 u_567 H locs q_566 hP hD hS => ?_)
                            obtain ⟨rfl, rfl⟩ := q_566
                            have hP : va_P (dC, dI) vwCl (rmW ct ad ((zu (zu (zu (zu Y 4 1) 5 (x4 g)) 7 (Y 7 + 1)) 13 0), x1, x2, x3, x4, x5, x6, x7, x8, x9)) H := hP
                            have hD : va_D A (rmW ct ad ((zu (zu (zu (zu Y 4 1) 5 (x4 g)) 7 (Y 7 + 1)) 13 0), x1, x2, x3, x4, x5, x6, x7, x8, x9)) := hD
                            have hP : va_P (dC, dI) vwCl (rmW ct ad (rSt (zu Y 7 (Y 7 + 1)) (x4 g), x1, x2, x3, x4, x5, x6, x7, x8, x9)) H := by skip; exact hP
                            have hD : va_D A (rmW ct ad (rSt (zu Y 7 (Y 7 + 1)) (x4 g), x1, x2, x3, x4, x5, x6, x7, x8, x9)) := by skip; exact hD
                            exact W.iret (v := (-10) - nI 21) hx hb hr (fun t ht hW => ⟨⟨_, (rSt (zu Y 7 (Y 7 + 1)) (x4 g), x1, x2, x3, x4, x5, x6, x7, x8, x9), rfl, (by rw [rL, if_neg (by omega), if_neg (by omega), if_neg (by rw [c_94]; decide), if_neg (by omega), if_neg (by omega), if_pos (by omega), rQ, if_pos (by omega)] at hQ; exact hQ), by rw [ht]; exact hP, va_K.moved hW.alike hK, hD⟩, hS.F ht⟩) hS.2.2 dX1_next_291
                  · have c_451 := (bI_eqN (k := 47) (by omega)).mp c_451
                    have hl1 : lnI x2 (Y 8) g = lnI x2 (Y 8) (g + 1) := by rw [lnI, if_pos (by omega)]
                    have hln := lnI_b x2 (Y 8) (g + 1)
                    rw [rL, if_neg (by omega), if_neg (by omega), if_neg (by rw [c_94]; decide), if_neg (by omega), if_pos (by omega)] at hQ
                    refine q_next_197 hx hb hr hml hown hts hlocks hK hP many much first en (lnI x2 (Y 8) g) h8 h2 (fun ls hl => ?_) (Y 8 + 1) g (by omega) (by omega) rfl _ (lv_sub hl [2, 3, 4, 5, 7, 8] rfl)
                    refine lv_iconst (v := nI 1) hx hb dX1_next_222 (by decide) ?_
                    refine lv_istore (lv' := [(4, .int (nI 1)), (0, .ref (ad 0)), (1, .int (nI (lnI x2 (Y 8) g))), (2, .int (nI many)), (3, .int (nI much)), (5, .int (nI first)), (6, .int (nI en))]) hx hb dX1_next_223 hl (by decide) rfl (fun ls hl => ?_)
                    refine lv_goto (tgt := 354) hx hb dX1_next_225 (by decide) ?_
                    refine lv_goto (tgt := 65) hx hb dX1_next_354 (by decide) ?_
                    exact ih Y x5 x6 x7 x8 x9 (lnI x2 (Y 8) g) many much 1 first en (by show Y 8 - lnI x2 (Y 8) g + 1 - en < k; omega) (show (Y 8) ≤ 32768 by omega) (show (lnI x2 (Y 8) g) ≤ (Y 8) by omega) (show (Y 18) ≤ (lnI x2 (Y 8) g) by omega) (show many ≤ (lnI x2 (Y 8) g) by omega) (show many ≤ 8000 → (Y 13) = many by omega) (show 1 ≤ 1 by omega) (show en ≤ 1 by omega) (show (Y 7) ≤ 1000 by omega) (show (Y 6) ≤ 20000 by omega) (show en = 1 → (lnI x2 (Y 8) g) < (Y 8) by omega) hQ _ _ hP hD hS _ (lv_sub hl [1, 2, 3, 4, 0, 5, 6] rfl)
              · have c_332 := (bI_eqN (k := 42) (by omega)).mp c_332
                refine lv_aload_n hx hb dX1_next_150 rfl (lv_at hl 2 rfl) ?_
                refine lv_iload_n hx hb dX1_next_151 rfl (lv_at hl 3 rfl) ?_
                refine vp_callSi (va_Run.run (va_runV (As := [.int (nI g)]) (rest := []) ⟨hx, hb, hml, hown, hts⟩ (r_commentEnd l dC dI ct ad Y x1 x2 x3 x4 x5 x6 x7 x8 x9 g (show g < 2 ^ 29 by omega) (show Y 8 ≤ 32768 by omega) h2) (cwV 1 hts (gV (fun _ h => h) ml_X1_122 im_X1_commentEnd se_X1_commentEnd ini_X1 co_X1_commentEnd) rfl rfl rfl pd_X1_commentEnd ⟨Nat.le_of_ble_eq_true rfl, Nat.le_of_ble_eq_true rfl⟩) (rm_preR hK hP) rfl rfl hl.1 rfl (lv_room (Nat.le_of_ble_eq_true rfl)) dX1_next_152 ⟨Nat.zero_le _, Nat.zero_le _⟩)) (fun r_569 (e_570 : r_569 = oI (ceO x2 (Y 8) g)) => ?_)
                subst e_570
                refine lv_istore (lv' := [(9, .int (oI (ceO x2 (Y 8) g))), (8, .int (bI (rb x2 (Y 8) (g + 1)))), (7, .int (nI (x2 g))), (0, .ref (ad 0)), (1, .int (nI g)), (2, .int (nI many)), (3, .int (nI much)), (4, .int (nI bf)), (5, .int (nI first)), (6, .int (nI en))]) hx hb dX1_next_155 hl (by decide) rfl (fun ls hl => ?_)
                refine lv_iload hx hb dX1_next_157 (lv_at hl 0 rfl) ?_
                refine lv_if_ge (tgt := 174) hx hb dX1_next_159 (by decide) (fun c_571 => ?_) (fun c_571 => ?_)
                · obtain ⟨w_573, ho_572⟩ : ∃ k, ceO x2 (Y 8) g = some k := Option.ne_none_iff_exists'.mp (fun z => by rw [z] at c_571; revert c_571; decide)
                  have := ceO_b ho_572
                  have hl : lv_has ls 10 [(9, .int (nI w_573)), (8, .int (bI (rb x2 (Y 8) (g + 1)))), (7, .int (nI (x2 g))), (0, .ref (ad 0)), (1, .int (nI g)), (2, .int (nI many)), (3, .int (nI much)), (4, .int (nI bf)), (5, .int (nI first)), (6, .int (nI en))] := by rw [ho_572] at hl; exact hl
                  refine lv_iload hx hb dX1_next_174 (lv_at hl 0 rfl) ?_
                  refine lv_istore_n (lv' := [(1, .int (nI w_573)), (9, .int (nI w_573)), (8, .int (bI (rb x2 (Y 8) (g + 1)))), (7, .int (nI (x2 g))), (0, .ref (ad 0)), (2, .int (nI many)), (3, .int (nI much)), (4, .int (nI bf)), (5, .int (nI first)), (6, .int (nI en))]) hx hb dX1_next_176 rfl hl (by decide) rfl (fun ls hl => ?_)
                  refine lv_iconst (v := nI 1) hx hb dX1_next_177 (by decide) ?_
                  refine lv_istore (lv' := [(4, .int (nI 1)), (1, .int (nI w_573)), (9, .int (nI w_573)), (8, .int (bI (rb x2 (Y 8) (g + 1)))), (7, .int (nI (x2 g))), (0, .ref (ad 0)), (2, .int (nI many)), (3, .int (nI much)), (5, .int (nI first)), (6, .int (nI en))]) hx hb dX1_next_178 hl (by decide) rfl (fun ls hl => ?_)
                  refine lv_goto (tgt := 354) hx hb dX1_next_180 (by decide) ?_
                  refine lv_goto (tgt := 65) hx hb dX1_next_354 (by decide) ?_
                  rw [rL, if_neg (by omega), if_neg (by omega), if_neg (by rw [c_94]; decide), if_pos (by omega), ho_572] at hQ
                  exact ih Y x5 x6 x7 x8 x9 w_573 many much 1 first en (by show Y 8 - w_573 + 1 - en < k; omega) (show (Y 8) ≤ 32768 by omega) (show w_573 ≤ (Y 8) by omega) (show (Y 18) ≤ w_573 by omega) (show many ≤ w_573 by omega) (show many ≤ 8000 → (Y 13) = many by omega) (show 1 ≤ 1 by omega) (show en ≤ 1 by omega) (show (Y 7) ≤ 1000 by omega) (show (Y 6) ≤ 20000 by omega) (show en = 1 → w_573 < (Y 8) by omega) hQ _ _ hP hD hS _ (lv_sub hl [5, 1, 6, 7, 0, 8, 9] rfl)
                · have ho_574 : ceO x2 (Y 8) g = none := oI_ge0 (fun k hk => by have := ceO_b hk; omega) c_571
                  refine lv_aload_n hx hb dX1_next_162 rfl (lv_at hl 3 rfl) ?_
                  refine lv_iconst (v := nI 1) hx hb dX1_next_163 (by decide) ?_
                  refine lv_aload_n hx hb dX1_next_164 rfl (lv_at hl 3 rfl) ?_
                  refine va_get (D := (dC, dI)) (ci := 1) (v := .ref (ad 4)) (C := RX1) (T := TX1) (N := 20) hx hb hts inX1 hown hK hP 0 rfl rfl 11 (by decide) (hts _ fl_X1_21) (fun _ h9 => h9) rfl dX1_next_165 ?_
                  refine lv_iload_n hx hb dX1_next_168 rfl (lv_at hl 4 rfl) ?_
                  refine va_iald hx hb hK hP 4 1 rfl rfl (vp_in_nI (by omega) (by decide)) dX1_next_169 ?_
                  refine lv_topi (fun x_575 e_576 => ?_)
                  obtain rfl : x_575 = nI (x4 g) := e_576.trans (by rw [nI_clamp (by omega)])
                  refine rm_calli (va_runV (As := [.int (nI 1), .int (nI (x4 g))]) (rest := []) ⟨hx, hb, hml, hown, hts⟩ (r_stop l dC dI ct ad H.size Y x1 x2 x3 x4 x5 x6 x7 x8 x9 1 (x4 g)) (cwV 2 hts (gV (fun _ h => h) ml_X1_126 im_X1_stop se_X1_stop ini_X1 co_X1_stop) rfl rfl rfl pd_X1_stop ⟨Nat.le_of_ble_eq_true rfl, Nat.le_of_ble_eq_true rfl⟩) (rm_preS hK hP hD) rfl rfl hl.1 rfl (lv_room (Nat.le_of_ble_eq_true rfl)) dX1_next_170 ⟨Nat.zero_le _, Nat.zero_le _⟩) hD hS hA (fun r_579 u_578 H locs q_577 hP hD hS => ?_)
                  obtain ⟨rfl, rfl⟩ := q_577
                  have hP : va_P (dC, dI) vwCl (rmW ct ad ((zu (zu (zu Y 4 1) 5 (x4 g)) 13 0), x1, x2, x3, x4, x5, x6, x7, x8, x9)) H := hP
                  have hD : va_D A (rmW ct ad ((zu (zu (zu Y 4 1) 5 (x4 g)) 13 0), x1, x2, x3, x4, x5, x6, x7, x8, x9)) := hD
                  have hP : va_P (dC, dI) vwCl (rmW ct ad (rSt Y (x4 g), x1, x2, x3, x4, x5, x6, x7, x8, x9)) H := by skip; exact hP
                  have hD : va_D A (rmW ct ad (rSt Y (x4 g), x1, x2, x3, x4, x5, x6, x7, x8, x9)) := by skip; exact hD
                  exact W.iret (v := (-10) - nI 1) hx hb hr (fun t ht hW => ⟨⟨_, (rSt Y (x4 g), x1, x2, x3, x4, x5, x6, x7, x8, x9), rfl, (by rw [rL, if_neg (by omega), if_neg (by omega), if_neg (by rw [c_94]; decide), if_pos (by omega), ho_574] at hQ; exact hQ), by rw [ht]; exact hP, va_K.moved hW.alike hK, hD⟩, hS.F ht⟩) hS.2.2 dX1_next_173
          · have c_94 := mt (b2i_z (isB (x2 g))).mpr c_94
            refine lv_iconst (v := nI 1) hx hb dX1_next_127 (by decide) ?_
            refine lv_istore (lv' := [(4, .int (nI 1)), (8, .int (bI (rb x2 (Y 8) (g + 1)))), (7, .int (nI (x2 g))), (0, .ref (ad 0)), (1, .int (nI g)), (2, .int (nI many)), (3, .int (nI much)), (5, .int (nI first)), (6, .int (nI en))]) hx hb dX1_next_128 hl (by decide) rfl (fun ls hl => ?_)
            refine lv_iinc (v := nI (g + 1)) (lv' := [(1, .int (nI (g + 1))), (4, .int (nI 1)), (8, .int (bI (rb x2 (Y 8) (g + 1)))), (7, .int (nI (x2 g))), (0, .ref (ad 0)), (2, .int (nI many)), (3, .int (nI much)), (5, .int (nI first)), (6, .int (nI en))]) hx hb dX1_next_130 hl (k := 4) rfl (by exact nI_add g 1) (by decide) rfl (fun ls hl => ?_)
            refine lv_goto (tgt := 354) hx hb dX1_next_133 (by decide) ?_
            refine lv_goto (tgt := 65) hx hb dX1_next_354 (by decide) ?_
            rw [rL, if_neg (by omega), if_neg (by omega), if_pos (by simpa using c_94)] at hQ
            exact ih Y x5 x6 x7 x8 x9 (g + 1) many much 1 first en (by show Y 8 - (g + 1) + 1 - en < k; omega) (show (Y 8) ≤ 32768 by omega) (show (g + 1) ≤ (Y 8) by omega) (show (Y 18) ≤ (g + 1) by omega) (show many ≤ (g + 1) by omega) (show many ≤ 8000 → (Y 13) = many by omega) (show 1 ≤ 1 by omega) (show en ≤ 1 by omega) (show (Y 7) ≤ 1000 by omega) (show (Y 6) ≤ 20000 by omega) (show en = 1 → (g + 1) < (Y 8) by omega) hQ _ _ hP hD hS _ (lv_sub hl [4, 0, 5, 6, 1, 7, 8] rfl)
        · have c_89 := (nI_eq (a := x2 g) (b := 10) (by omega) (by omega)).mp c_89
          refine lv_iconst (v := nI 1) hx hb dX1_next_113 (by decide) ?_
          refine lv_istore (lv' := [(6, .int (nI 1)), (8, .int (bI (rb x2 (Y 8) (g + 1)))), (7, .int (nI (x2 g))), (0, .ref (ad 0)), (1, .int (nI g)), (2, .int (nI many)), (3, .int (nI much)), (4, .int (nI bf)), (5, .int (nI first))]) hx hb dX1_next_114 hl (by decide) rfl (fun ls hl => ?_)
          refine lv_goto (tgt := 354) hx hb dX1_next_116 (by decide) ?_
          refine lv_goto (tgt := 65) hx hb dX1_next_354 (by decide) ?_
          rw [rL, if_neg (by omega), if_pos (by omega)] at hQ
          exact ih Y x5 x6 x7 x8 x9 g many much bf first 1 (by show Y 8 - g + 1 - 1 < k; omega) (show (Y 8) ≤ 32768 by omega) (show g ≤ (Y 8) by omega) (show (Y 18) ≤ g by omega) (show many ≤ g by omega) (show many ≤ 8000 → (Y 13) = many by omega) (show bf ≤ 1 by omega) (show 1 ≤ 1 by omega) (show (Y 7) ≤ 1000 by omega) (show (Y 6) ≤ 20000 by omega) (show 1 = 1 → g < (Y 8) by omega) hQ _ _ hP hD hS _ (lv_sub hl [3, 4, 5, 6, 7, 8, 0] rfl)
