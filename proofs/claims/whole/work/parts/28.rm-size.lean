theorem isL_lt {x : Nat} (h : isL x = true) : x < 256 := by
  rcases Nat.lt_or_ge x 256 with q | q
  · exact q
  · rw [isL_f (by omega)] at h; cases h
theorem isD_lt {x : Nat} (h : isD x = true) : x < 256 := by
  rcases Nat.lt_or_ge x 256 with q | q
  · exact q
  · rw [isD_f (by omega)] at h; cases h
theorem oI_le0 {o : Option Nat} (h : ∀ k, o = some k → 0 < k ∧ k < 2 ^ 31) : oI o ≤ 0 ↔ o = none := by
  cases o with
  | none => exact ⟨fun _ => rfl, fun _ => by decide⟩
  | some k =>
    obtain ⟨h1, h2⟩ := h k rfl
    refine ⟨fun q => absurd q (nI_nle h1 h2), fun q => by cases q⟩
def nmI (S : Nat → Nat) (lim n : Nat) : Nat := if n < lim ∧ (isL (rb S lim n) = true ∨ isD (rb S lim n) = true) then nmI S lim (n + 1) else n
termination_by lim - n
/-- goes a number on with x behind y -/
def goB (x y : Nat) : Bool := isD x || isL x || decide (x = 46) || ((decide (x = 43) || decide (x = 45)) && io 3 y)
theorem goB_d {x y : Nat} (h : isD x = true) : goB x y = true := by simp [goB, h]
theorem goB_l {x y : Nat} (h : isL x = true) : goB x y = true := by simp [goB, h]
theorem goB_p {x y : Nat} (h : x = 46) : goB x y = true := by simp [goB, h]
theorem goB_s {x y : Nat} (h : x = 43 ∨ x = 45) (g : io 3 y = true) : goB x y = true := by simp [goB, h, g]
theorem goB_f {x y : Nat} (h1 : isD x = false) (h2 : isL x = false) (h3 : ¬ x = 46) (h4 : ¬ (x = 43 ∨ x = 45) ∨ io 3 y = false) : goB x y = false := by
  rcases h4 with h4 | h4
  · simp [goB, h1, h2, h3, h4]
  · simp [goB, h1, h2, h3, h4]
theorem goB_lt {x y : Nat} (h : goB x y = true) : x < 256 := by
  rcases Nat.lt_or_ge x 256 with q | q
  · exact q
  · rw [goB_f (isD_f (by omega)) (isL_f (by omega)) (by omega) (Or.inl (by omega))] at h; cases h
def nuI (S : Nat → Nat) (lim n : Nat) : Nat := if n < lim ∧ goB (rb S lim n) (rb S lim (n - 1)) = true then nuI S lim (n + 1) else n
termination_by lim - n
theorem nmI_g (S : Nat → Nat) (lim : Nat) : ∀ (n k : Nat), lim ≤ k + n → k ≤ nmI S lim k ∧ (nmI S lim k ≤ k ∨ nmI S lim k ≤ lim) := by
  intro n
  induction n with
  | zero => intro k h; rw [nmI, if_neg (fun z => by have := z.1; omega)]; exact ⟨Nat.le_refl _, Or.inl (Nat.le_refl _)⟩
  | succ n ih =>
    intro k h
    rw [nmI]
    by_cases c : k < lim ∧ (isL (rb S lim k) = true ∨ isD (rb S lim k) = true)
    · rw [if_pos c]; have := ih (k + 1) (by omega); have := c.1; omega
    · rw [if_neg c]; exact ⟨Nat.le_refl _, Or.inl (Nat.le_refl _)⟩
theorem nmI_b (S : Nat → Nat) (lim k : Nat) : k ≤ nmI S lim k ∧ (nmI S lim k ≤ k ∨ nmI S lim k ≤ lim) := nmI_g S lim lim k (by omega)
theorem nuI_g (S : Nat → Nat) (lim : Nat) : ∀ (n k : Nat), lim ≤ k + n → k ≤ nuI S lim k ∧ (nuI S lim k ≤ k ∨ nuI S lim k ≤ lim) := by
  intro n
  induction n with
  | zero => intro k h; rw [nuI, if_neg (fun z => by have := z.1; omega)]; exact ⟨Nat.le_refl _, Or.inl (Nat.le_refl _)⟩
  | succ n ih =>
    intro k h
    rw [nuI]
    by_cases c : k < lim ∧ goB (rb S lim k) (rb S lim (k - 1)) = true
    · rw [if_pos c]; have := ih (k + 1) (by omega); have := c.1; omega
    · rw [if_neg c]; exact ⟨Nat.le_refl _, Or.inl (Nat.le_refl _)⟩
theorem nuI_b (S : Nat → Nat) (lim k : Nat) : k ≤ nuI S lim k ∧ (nuI S lim k ≤ k ∨ nuI S lim k ≤ lim) := nuI_g S lim lim k (by omega)
/-- tokenSizeAt behind the quotes -/
def ts3 (S : Nat → Nat) (lim g : Nat) : Nat :=
  if isL (rb S lim g) = true then nmI S lim (g + 1) - g
  else if isD (rb S lim g) = true ∨ (rb S lim g = 46 ∧ isD (rb S lim (g + 1)) = true) then nuI S lim (g + 1) - g
  else sgN (rb S lim g) (rb S lim (g + 1)) (rb S lim (g + 2))
def ts2 (S : Nat → Nat) (lim g : Nat) : Nat := match (if rb S lim g = 34 ∨ rb S lim g = 39 then qdO S lim g else none) with
  | some x => x - g
  | none => ts3 S lim g
def ts1 (S : Nat → Nat) (lim g : Nat) : Nat := match (if rb S lim g = 76 ∧ (rb S lim (g + 1) = 34 ∨ rb S lim (g + 1) = 39) then qdO S lim (g + 1) else none) with
  | some x => x - g
  | none => ts2 S lim g
theorem ts2_s {S : Nat → Nat} {lim g x : Nat} (h : rb S lim g = 34 ∨ rb S lim g = 39) (e : qdO S lim g = some x) : ts2 S lim g = x - g := by rw [ts2, if_pos h, e]
theorem ts2_n {S : Nat → Nat} {lim g : Nat} (h : (rb S lim g = 34 ∨ rb S lim g = 39) → qdO S lim g = none) : ts2 S lim g = ts3 S lim g := by
  rw [ts2]
  by_cases c : rb S lim g = 34 ∨ rb S lim g = 39
  · rw [if_pos c, h c]
  · rw [if_neg c]
theorem ts1_s {S : Nat → Nat} {lim g x : Nat} (h : rb S lim g = 76 ∧ (rb S lim (g + 1) = 34 ∨ rb S lim (g + 1) = 39)) (e : qdO S lim (g + 1) = some x) : ts1 S lim g = x - g := by rw [ts1, if_pos h, e]
theorem ts1_n {S : Nat → Nat} {lim g : Nat} (h : (rb S lim g = 76 ∧ (rb S lim (g + 1) = 34 ∨ rb S lim (g + 1) = 39)) → qdO S lim (g + 1) = none) : ts1 S lim g = ts2 S lim g := by
  rw [ts1]
  by_cases c : rb S lim g = 76 ∧ (rb S lim (g + 1) = 34 ∨ rb S lim (g + 1) = 39)
  · rw [if_pos c, h c]
  · rw [if_neg c]
set_option maxHeartbeats 4000000 in
set_option maxRecDepth 100000 in
theorem q_tokenSizeAt_107 {p : Program} {l : Launch} {e : Env} {s : State} {m : MethodId} {args : Array Value} {below : List Frame} {meth : Method} {c : Code} (hx : p.tables.exec = Jvm.exec) (hb : c.code = cX1_tokenSizeAt) (hr : meth.sig.returnType = (some .int)) (hml : c.maxLocals = 9) (hown : s.vm.findClass RX1 = some m.cls) (hts : ∀ w ∈ bw, w.before args s = true) (hlocks : meth.locks = false) {dC : Nat → ClassId} {dI : Nat → Nat → Nat} {ct : Nat → ClassId} {ad : Nat → Nat} {Y x1 x2 x3 x4 x5 x6 x7 x8 x9 : Nat → Nat} (hK : va_K (dC, dI) vwCl (rmT ct) s) (hP : va_P (dC, dI) vwCl (rmW ct ad (Y, x1, x2, x3, x4, x5, x6, x7, x8, x9)) s.heap) {dK dV : Nat → Nat} {A0 : Nat → Prop} (hw : swd dK dV A0 s s.heap) (g lim : Nat) (hg : g < lim) (hlim : lim ≤ 32768) (h2 : ∀ j, x2 j < 256) (P : Int32 → Prop) : ∀ (k : Nat) (n : Nat), (lim + 1 - n) < k → (g < n ∧ n ≤ lim) → P (nI (nmI x2 lim n - g)) → ∀ ls, lv_has ls 9 [(0, .ref (ad 0)), (1, .int (nI g)), (2, .int (nI lim)), (5, .int (nI n))] → W p l e (headSpec wX1_tokenSizeAt ({ frames := 6, cells := 0, slots := 0, locals := 135 })).room s m args below meth c s.heap [] 0 0 (MQ below (vp_Si P) args s 0 0 (fun _ => False)) (F0 m 107 ls []) := by
  intro k
  induction k with
  | zero => intro n hk; exact absurd hk (by omega)
  | succ k ih =>
    intro n hk hn hQ ls hl
    refine lv_aload_n hx hb dX1_tokenSizeAt_107 rfl (lv_at hl 0 rfl) ?_
    refine va_get (D := (dC, dI)) (ci := 1) (v := .ref (ad 2)) (C := RX1) (T := TX1) (N := 20) hx hb hts inX1 hown hK hP 0 rfl rfl 9 (by decide) (hts _ fl_X1_14) (fun _ h9 => h9) rfl dX1_tokenSizeAt_108 ?_
    refine lv_iload hx hb dX1_tokenSizeAt_111 (lv_at hl 3 rfl) ?_
    refine lv_iload_n hx hb dX1_tokenSizeAt_113 rfl (lv_at hl 2 rfl) ?_
    refine vp_callSi (va_Run.run (va_runS (As := [.ref (ad 2), .int (nI n), .int (nI lim)]) (rest := []) ⟨hx, hb, hml, hown, hts⟩ (r_byteAt l dC dI ct ad Y x1 x2 x3 x4 x5 x6 x7 x8 x9 n lim (show n < 2 ^ 31 by omega) (show lim ≤ 32768 by omega) h2) (cwS 3 hts (gS (fun _ h => h) ml_X1_79 sm_X1_byteAt ini_X1 co_X1_byteAt) rfl rfl rfl pd_X1_byteAt ⟨Nat.le_of_ble_eq_true rfl, Nat.le_of_ble_eq_true rfl⟩) (rm_preRS hK hP) rfl rfl hl.1 rfl (lv_room (Nat.le_of_ble_eq_true rfl)) dX1_tokenSizeAt_114 ⟨Nat.zero_le _, Nat.zero_le _⟩)) (fun r_1 (e_2 : r_1 = bI (rb x2 lim n)) => ?_)
    subst e_2
    have := rb_in h2 lim n
    refine vp_callSi (va_Run.run (va_runS (As := [.int (bI (rb x2 lim n))]) (rest := []) ⟨hx, hb, hml, hown, hts⟩ (r_isLetter l (rb x2 lim n)) (cwS 1 hts (gS (fun _ h => h) ml_X1_95 sm_X1_isLetter ini_X1 co_X1_isLetter) rfl rfl rfl pd_X1_isLetter ⟨Nat.le_of_ble_eq_true rfl, Nat.le_of_ble_eq_true rfl⟩) st_pre rfl rfl hl.1 rfl (lv_room (Nat.le_of_ble_eq_true rfl)) dX1_tokenSizeAt_117 ⟨Nat.zero_le _, Nat.zero_le _⟩)) (fun r_3 (e_4 : r_3 = b2i (isL (rb x2 lim n))) => ?_)
    subst e_4
    refine lv_if_ne (tgt := 139) hx hb dX1_tokenSizeAt_120 (by decide) (fun c_5 => ?_) (fun c_5 => ?_)
    · have c_5 := mt (b2i_z (isL (rb x2 lim n))).mpr c_5
      refine lv_iinc (v := nI (n + 1)) (lv' := [(5, .int (nI (n + 1))), (0, .ref (ad 0)), (1, .int (nI g)), (2, .int (nI lim))]) hx hb dX1_tokenSizeAt_139 hl (k := 3) rfl (by exact nI_add n 1) (by decide) rfl (fun ls hl => ?_)
      refine lv_goto (tgt := 107) hx hb dX1_tokenSizeAt_142 (by decide) ?_
      have hbl := isL_lt (show isL (rb x2 lim n) = true by simpa using c_5)
      exact ih (n + 1) (by omega) (by omega) (by rw [show nmI x2 lim n = nmI x2 lim (n + 1) by rw [nmI, if_pos ⟨by omega, Or.inl (by simpa using c_5)⟩]] at hQ; exact hQ) _ (lv_sub hl [1, 2, 3, 0] rfl)
    · have c_5 := (b2i_z (isL (rb x2 lim n))).mp c_5
      refine lv_aload_n hx hb dX1_tokenSizeAt_123 rfl (lv_at hl 0 rfl) ?_
      refine va_get (D := (dC, dI)) (ci := 1) (v := .ref (ad 2)) (C := RX1) (T := TX1) (N := 20) hx hb hts inX1 hown hK hP 0 rfl rfl 9 (by decide) (hts _ fl_X1_14) (fun _ h9 => h9) rfl dX1_tokenSizeAt_124 ?_
      refine lv_iload hx hb dX1_tokenSizeAt_127 (lv_at hl 3 rfl) ?_
      refine lv_iload_n hx hb dX1_tokenSizeAt_129 rfl (lv_at hl 2 rfl) ?_
      refine vp_callSi (va_Run.run (va_runS (As := [.ref (ad 2), .int (nI n), .int (nI lim)]) (rest := []) ⟨hx, hb, hml, hown, hts⟩ (r_byteAt l dC dI ct ad Y x1 x2 x3 x4 x5 x6 x7 x8 x9 n lim (show n < 2 ^ 31 by omega) (show lim ≤ 32768 by omega) h2) (cwS 3 hts (gS (fun _ h => h) ml_X1_79 sm_X1_byteAt ini_X1 co_X1_byteAt) rfl rfl rfl pd_X1_byteAt ⟨Nat.le_of_ble_eq_true rfl, Nat.le_of_ble_eq_true rfl⟩) (rm_preRS hK hP) rfl rfl hl.1 rfl (lv_room (Nat.le_of_ble_eq_true rfl)) dX1_tokenSizeAt_130 ⟨Nat.zero_le _, Nat.zero_le _⟩)) (fun r_6 (e_7 : r_6 = bI (rb x2 lim n)) => ?_)
      subst e_7
      have := rb_in h2 lim n
      refine vp_callSi (va_Run.run (va_runS (As := [.int (bI (rb x2 lim n))]) (rest := []) ⟨hx, hb, hml, hown, hts⟩ (r_isDigit l (rb x2 lim n)) (cwS 1 hts (gS (fun _ h => h) ml_X1_99 sm_X1_isDigit ini_X1 co_X1_isDigit) rfl rfl rfl pd_X1_isDigit ⟨Nat.le_of_ble_eq_true rfl, Nat.le_of_ble_eq_true rfl⟩) st_pre rfl rfl hl.1 rfl (lv_room (Nat.le_of_ble_eq_true rfl)) dX1_tokenSizeAt_133 ⟨Nat.zero_le _, Nat.zero_le _⟩)) (fun r_8 (e_9 : r_8 = b2i (isD (rb x2 lim n))) => ?_)
      subst e_9
      refine lv_if_eq (tgt := 145) hx hb dX1_tokenSizeAt_136 (by decide) (fun c_10 => ?_) (fun c_10 => ?_)
      · have c_10 := (b2i_z (isD (rb x2 lim n))).mp c_10
        refine lv_iload hx hb dX1_tokenSizeAt_145 (lv_at hl 3 rfl) ?_
        refine lv_iload_n hx hb dX1_tokenSizeAt_147 rfl (lv_at hl 1 rfl) ?_
        refine lv_isub hx hb dX1_tokenSizeAt_148 ?_
        refine lv_topi (fun x_11 e_12 => ?_)
        obtain rfl : x_11 = nI (n - g) := e_12.trans (pk_sub (by omega))
        exact W.iret (v := nI (n - g)) hx hb hr (fun t ht hW => ⟨_, rfl, (by rw [show nmI x2 lim n = n by rw [nmI, if_neg (fun z => by rcases z.2 with h | h; exact absurd h (by rw [c_5]; decide); exact absurd h (by rw [c_10]; decide))]] at hQ; exact hQ), ht⟩) (fun q h => by cases h) dX1_tokenSizeAt_149
      · have c_10 := mt (b2i_z (isD (rb x2 lim n))).mpr c_10
        refine lv_iinc (v := nI (n + 1)) (lv' := [(5, .int (nI (n + 1))), (0, .ref (ad 0)), (1, .int (nI g)), (2, .int (nI lim))]) hx hb dX1_tokenSizeAt_139 hl (k := 3) rfl (by exact nI_add n 1) (by decide) rfl (fun ls hl => ?_)
        refine lv_goto (tgt := 107) hx hb dX1_tokenSizeAt_142 (by decide) ?_
        have hbl := isD_lt (show isD (rb x2 lim n) = true by simpa using c_10)
        exact ih (n + 1) (by omega) (by omega) (by rw [show nmI x2 lim n = nmI x2 lim (n + 1) by rw [nmI, if_pos ⟨by omega, Or.inr (by simpa using c_10)⟩]] at hQ; exact hQ) _ (lv_sub hl [1, 2, 3, 0] rfl)
set_option maxHeartbeats 4000000 in
set_option maxRecDepth 100000 in
theorem q_tokenSizeAt_174 {p : Program} {l : Launch} {e : Env} {s : State} {m : MethodId} {args : Array Value} {below : List Frame} {meth : Method} {c : Code} (hx : p.tables.exec = Jvm.exec) (hb : c.code = cX1_tokenSizeAt) (hr : meth.sig.returnType = (some .int)) (hml : c.maxLocals = 9) (hown : s.vm.findClass RX1 = some m.cls) (hts : ∀ w ∈ bw, w.before args s = true) (hlocks : meth.locks = false) {dC : Nat → ClassId} {dI : Nat → Nat → Nat} {ct : Nat → ClassId} {ad : Nat → Nat} {Y x1 x2 x3 x4 x5 x6 x7 x8 x9 : Nat → Nat} (hK : va_K (dC, dI) vwCl (rmT ct) s) (hP : va_P (dC, dI) vwCl (rmW ct ad (Y, x1, x2, x3, x4, x5, x6, x7, x8, x9)) s.heap) {dK dV : Nat → Nat} {A0 : Nat → Prop} (hw : swd dK dV A0 s s.heap) (g lim : Nat) (hg : g < lim) (hlim : lim ≤ 32768) (h2 : ∀ j, x2 j < 256) (P : Int32 → Prop) : ∀ (k : Nat) (n : Nat) (t : Nat), (lim + 1 - n + t) < k → (g < n ∧ n ≤ lim) → (t ≤ 1) → P (nI ((if t = 1 then nuI x2 lim n else n) - g)) → ∀ ls, lv_has ls 9 [(0, .ref (ad 0)), (1, .int (nI g)), (2, .int (nI lim)), (5, .int (nI n)), (6, .int (nI t))] → W p l e (headSpec wX1_tokenSizeAt ({ frames := 6, cells := 0, slots := 0, locals := 135 })).room s m args below meth c s.heap [] 0 0 (MQ below (vp_Si P) args s 0 0 (fun _ => False)) (F0 m 174 ls []) := by
  intro k
  induction k with
  | zero => intro n t hk; exact absurd hk (by omega)
  | succ k ih =>
    intro n t hk hn ht hQ ls hl
    refine lv_iload hx hb dX1_tokenSizeAt_174 (lv_at hl 4 rfl) ?_
    refine lv_if_eq (tgt := 286) hx hb dX1_tokenSizeAt_176 (by decide) (fun c_1 => ?_) (fun c_1 => ?_)
    · have c_1 := (nI_eq (a := t) (b := 0) (by omega) (by omega)).mp c_1
      refine lv_iload hx hb dX1_tokenSizeAt_286 (lv_at hl 3 rfl) ?_
      refine lv_iload_n hx hb dX1_tokenSizeAt_288 rfl (lv_at hl 1 rfl) ?_
      refine lv_isub hx hb dX1_tokenSizeAt_289 ?_
      refine lv_topi (fun x_2 e_3 => ?_)
      obtain rfl : x_2 = nI (n - g) := e_3.trans (pk_sub (by omega))
      exact W.iret (v := nI (n - g)) hx hb hr (fun t ht hW => ⟨_, rfl, (by rw [if_neg (by omega)] at hQ; exact hQ), ht⟩) (fun q h => by cases h) dX1_tokenSizeAt_290
    · have c_1 := mt (nI_eq (a := t) (b := 0) (by omega) (by omega)).mpr c_1
      refine lv_aload_n hx hb dX1_tokenSizeAt_179 rfl (lv_at hl 0 rfl) ?_
      refine va_get (D := (dC, dI)) (ci := 1) (v := .ref (ad 2)) (C := RX1) (T := TX1) (N := 20) hx hb hts inX1 hown hK hP 0 rfl rfl 9 (by decide) (hts _ fl_X1_14) (fun _ h9 => h9) rfl dX1_tokenSizeAt_180 ?_
      refine lv_iload hx hb dX1_tokenSizeAt_183 (lv_at hl 3 rfl) ?_
      refine lv_iload_n hx hb dX1_tokenSizeAt_185 rfl (lv_at hl 2 rfl) ?_
      refine vp_callSi (va_Run.run (va_runS (As := [.ref (ad 2), .int (nI n), .int (nI lim)]) (rest := []) ⟨hx, hb, hml, hown, hts⟩ (r_byteAt l dC dI ct ad Y x1 x2 x3 x4 x5 x6 x7 x8 x9 n lim (show n < 2 ^ 31 by omega) (show lim ≤ 32768 by omega) h2) (cwS 3 hts (gS (fun _ h => h) ml_X1_79 sm_X1_byteAt ini_X1 co_X1_byteAt) rfl rfl rfl pd_X1_byteAt ⟨Nat.le_of_ble_eq_true rfl, Nat.le_of_ble_eq_true rfl⟩) (rm_preRS hK hP) rfl rfl hl.1 rfl (lv_room (Nat.le_of_ble_eq_true rfl)) dX1_tokenSizeAt_186 ⟨Nat.zero_le _, Nat.zero_le _⟩)) (fun r_4 (e_5 : r_4 = bI (rb x2 lim n)) => ?_)
      subst e_5
      have := rb_in h2 lim n
      refine lv_istore (lv' := [(7, .int (bI (rb x2 lim n))), (0, .ref (ad 0)), (1, .int (nI g)), (2, .int (nI lim)), (5, .int (nI n)), (6, .int (nI t))]) hx hb dX1_tokenSizeAt_189 hl (by decide) rfl (fun ls hl => ?_)
      refine lv_iload hx hb dX1_tokenSizeAt_191 (lv_at hl 0 rfl) ?_
      refine lv_bipush (v := nI 43) hx hb dX1_tokenSizeAt_193 (by decide) ?_
      refine lv_icmp_eq (tgt := 205) hx hb dX1_tokenSizeAt_195 (by decide) (fun c_6 => ?_) (fun c_6 => ?_)
      · have c_6 := (bI_eqN (k := 43) (by omega)).mp c_6
        refine lv_aload_n hx hb dX1_tokenSizeAt_205 rfl (lv_at hl 1 rfl) ?_
        refine va_get (D := (dC, dI)) (ci := 1) (v := .ref (ad 2)) (C := RX1) (T := TX1) (N := 20) hx hb hts inX1 hown hK hP 0 rfl rfl 9 (by decide) (hts _ fl_X1_14) (fun _ h9 => h9) rfl dX1_tokenSizeAt_206 ?_
        refine lv_iload hx hb dX1_tokenSizeAt_209 (lv_at hl 4 rfl) ?_
        refine lv_iconst (v := nI 1) hx hb dX1_tokenSizeAt_211 (by decide) ?_
        refine lv_isub hx hb dX1_tokenSizeAt_212 ?_
        refine lv_topi (fun x_7 e_8 => ?_)
        obtain rfl : x_7 = nI (n - 1) := e_8.trans (pk_sub (by omega))
        refine lv_iload_n hx hb dX1_tokenSizeAt_213 rfl (lv_at hl 3 rfl) ?_
        refine vp_callSi (va_Run.run (va_runS (As := [.ref (ad 2), .int (nI (n - 1)), .int (nI lim)]) (rest := []) ⟨hx, hb, hml, hown, hts⟩ (r_byteAt l dC dI ct ad Y x1 x2 x3 x4 x5 x6 x7 x8 x9 (n - 1) lim (show n - 1 < 2 ^ 31 by omega) (show lim ≤ 32768 by omega) h2) (cwS 3 hts (gS (fun _ h => h) ml_X1_79 sm_X1_byteAt ini_X1 co_X1_byteAt) rfl rfl rfl pd_X1_byteAt ⟨Nat.le_of_ble_eq_true rfl, Nat.le_of_ble_eq_true rfl⟩) (rm_preRS hK hP) rfl rfl hl.1 rfl (lv_room (Nat.le_of_ble_eq_true rfl)) dX1_tokenSizeAt_214 ⟨Nat.zero_le _, Nat.zero_le _⟩)) (fun r_9 (e_10 : r_9 = bI (rb x2 lim (n - 1))) => ?_)
        subst e_10
        have := rb_in h2 lim (n - 1)
        refine va_ldcS hx hb hown hw.2.2.2.2.2.2.1 dX1_tokenSizeAt_217 ?_
        refine vp_callSi (va_Run.run (va_runS (As := [.int (bI (rb x2 lim (n - 1))), .ref (dK 3)]) (rest := []) ⟨hx, hb, hml, hown, hts⟩ (r_isOneOf l dK dV A0 (rb x2 lim (n - 1)) 3 (by decide)) (cwS 2 hts (gS (fun _ h => h) ml_X1_85 sm_X1_isOneOf ini_X1 co_X1_isOneOf) rfl rfl rfl pd_X1_isOneOf ⟨Nat.le_of_ble_eq_true rfl, Nat.le_of_ble_eq_true rfl⟩) (sw_preS hw) rfl rfl hl.1 rfl (lv_room (Nat.le_of_ble_eq_true rfl)) dX1_tokenSizeAt_219 ⟨Nat.zero_le _, Nat.zero_le _⟩)) (fun r_11 (e_12 : r_11 = b2i (ioG 3 (rb x2 lim (n - 1)) 65 0 false)) => ?_)
        subst e_12
        refine lv_if_eq (tgt := 229) hx hb dX1_tokenSizeAt_222 (by decide) (fun c_13 => ?_) (fun c_13 => ?_)
        · have c_13 := (b2i_z (ioG 3 (rb x2 lim (n - 1)) 65 0 false)).mp c_13
          refine lv_iconst (v := nI 0) hx hb dX1_tokenSizeAt_229 (by decide) ?_
          refine lv_istore (lv' := [(8, .int (nI 0)), (7, .int (bI (rb x2 lim n))), (0, .ref (ad 0)), (1, .int (nI g)), (2, .int (nI lim)), (5, .int (nI n)), (6, .int (nI t))]) hx hb dX1_tokenSizeAt_230 hl (by decide) rfl (fun ls hl => ?_)
          refine lv_iload hx hb dX1_tokenSizeAt_232 (lv_at hl 1 rfl) ?_
          refine vp_callSi (va_Run.run (va_runS (As := [.int (bI (rb x2 lim n))]) (rest := []) ⟨hx, hb, hml, hown, hts⟩ (r_isDigit l (rb x2 lim n)) (cwS 1 hts (gS (fun _ h => h) ml_X1_99 sm_X1_isDigit ini_X1 co_X1_isDigit) rfl rfl rfl pd_X1_isDigit ⟨Nat.le_of_ble_eq_true rfl, Nat.le_of_ble_eq_true rfl⟩) st_pre rfl rfl hl.1 rfl (lv_room (Nat.le_of_ble_eq_true rfl)) dX1_tokenSizeAt_234 ⟨Nat.zero_le _, Nat.zero_le _⟩)) (fun r_14 (e_15 : r_14 = b2i (isD (rb x2 lim n))) => ?_)
          subst e_15
          refine lv_if_ne (tgt := 260) hx hb dX1_tokenSizeAt_237 (by decide) (fun c_16 => ?_) (fun c_16 => ?_)
          · have c_16 := mt (b2i_z (isD (rb x2 lim n))).mpr c_16
            refine lv_iconst (v := nI 1) hx hb dX1_tokenSizeAt_260 (by decide) ?_
            refine lv_goto (tgt := 265) hx hb dX1_tokenSizeAt_261 (by decide) ?_
            refine lv_istore (lv' := [(6, .int (nI 1)), (8, .int (nI 0)), (7, .int (bI (rb x2 lim n))), (0, .ref (ad 0)), (1, .int (nI g)), (2, .int (nI lim)), (5, .int (nI n))]) hx hb dX1_tokenSizeAt_265 hl (by decide) rfl (fun ls hl => ?_)
            refine lv_iload hx hb dX1_tokenSizeAt_267 (lv_at hl 0 rfl) ?_
            refine lv_if_eq (tgt := 279) hx hb dX1_tokenSizeAt_269 (by decide) (fun c_17 => ?_) (fun c_17 => ?_)
            · have c_17 := (nI_eq (a := 1) (b := 0) (by omega) (by omega)).mp c_17
              omega
            · have c_17 := mt (nI_eq (a := 1) (b := 0) (by omega) (by omega)).mpr c_17
              refine lv_iload hx hb dX1_tokenSizeAt_272 (lv_at hl 6 rfl) ?_
              refine lv_iconst (v := nI 1) hx hb dX1_tokenSizeAt_274 (by decide) ?_
              refine lv_iadd hx hb dX1_tokenSizeAt_275 ?_
              refine lv_topi (fun x_18 e_19 => ?_)
              obtain rfl : x_18 = nI (n + 1) := e_19.trans (nI_add n 1)
              refine lv_goto (tgt := 281) hx hb dX1_tokenSizeAt_276 (by decide) ?_
              refine lv_istore (lv' := [(5, .int (nI (n + 1))), (6, .int (nI 1)), (8, .int (nI 0)), (7, .int (bI (rb x2 lim n))), (0, .ref (ad 0)), (1, .int (nI g)), (2, .int (nI lim))]) hx hb dX1_tokenSizeAt_281 hl (by decide) rfl (fun ls hl => ?_)
              refine lv_goto (tgt := 174) hx hb dX1_tokenSizeAt_283 (by decide) ?_
              have hgo : goB (rb x2 lim n) (rb x2 lim (n - 1)) = true := goB_d (by simpa using c_16)
              have hbl := goB_lt hgo
              exact ih (n + 1) 1 (by omega) (by omega) (by omega) (by rw [if_pos (by omega), show nuI x2 lim n = nuI x2 lim (n + 1) by rw [nuI, if_pos ⟨by omega, hgo⟩]] at hQ; rw [if_pos rfl]; exact hQ) _ (lv_sub hl [4, 5, 6, 0, 1] rfl)
          · have c_16 := (b2i_z (isD (rb x2 lim n))).mp c_16
            refine lv_iload hx hb dX1_tokenSizeAt_240 (lv_at hl 1 rfl) ?_
            refine vp_callSi (va_Run.run (va_runS (As := [.int (bI (rb x2 lim n))]) (rest := []) ⟨hx, hb, hml, hown, hts⟩ (r_isLetter l (rb x2 lim n)) (cwS 1 hts (gS (fun _ h => h) ml_X1_95 sm_X1_isLetter ini_X1 co_X1_isLetter) rfl rfl rfl pd_X1_isLetter ⟨Nat.le_of_ble_eq_true rfl, Nat.le_of_ble_eq_true rfl⟩) st_pre rfl rfl hl.1 rfl (lv_room (Nat.le_of_ble_eq_true rfl)) dX1_tokenSizeAt_242 ⟨Nat.zero_le _, Nat.zero_le _⟩)) (fun r_20 (e_21 : r_20 = b2i (isL (rb x2 lim n))) => ?_)
            subst e_21
            refine lv_if_ne (tgt := 260) hx hb dX1_tokenSizeAt_245 (by decide) (fun c_22 => ?_) (fun c_22 => ?_)
            · have c_22 := mt (b2i_z (isL (rb x2 lim n))).mpr c_22
              refine lv_iconst (v := nI 1) hx hb dX1_tokenSizeAt_260 (by decide) ?_
              refine lv_goto (tgt := 265) hx hb dX1_tokenSizeAt_261 (by decide) ?_
              refine lv_istore (lv' := [(6, .int (nI 1)), (8, .int (nI 0)), (7, .int (bI (rb x2 lim n))), (0, .ref (ad 0)), (1, .int (nI g)), (2, .int (nI lim)), (5, .int (nI n))]) hx hb dX1_tokenSizeAt_265 hl (by decide) rfl (fun ls hl => ?_)
              refine lv_iload hx hb dX1_tokenSizeAt_267 (lv_at hl 0 rfl) ?_
              refine lv_if_eq (tgt := 279) hx hb dX1_tokenSizeAt_269 (by decide) (fun c_23 => ?_) (fun c_23 => ?_)
              · have c_23 := (nI_eq (a := 1) (b := 0) (by omega) (by omega)).mp c_23
                omega
              · have c_23 := mt (nI_eq (a := 1) (b := 0) (by omega) (by omega)).mpr c_23
                refine lv_iload hx hb dX1_tokenSizeAt_272 (lv_at hl 6 rfl) ?_
                refine lv_iconst (v := nI 1) hx hb dX1_tokenSizeAt_274 (by decide) ?_
                refine lv_iadd hx hb dX1_tokenSizeAt_275 ?_
                refine lv_topi (fun x_24 e_25 => ?_)
                obtain rfl : x_24 = nI (n + 1) := e_25.trans (nI_add n 1)
                refine lv_goto (tgt := 281) hx hb dX1_tokenSizeAt_276 (by decide) ?_
                refine lv_istore (lv' := [(5, .int (nI (n + 1))), (6, .int (nI 1)), (8, .int (nI 0)), (7, .int (bI (rb x2 lim n))), (0, .ref (ad 0)), (1, .int (nI g)), (2, .int (nI lim))]) hx hb dX1_tokenSizeAt_281 hl (by decide) rfl (fun ls hl => ?_)
                refine lv_goto (tgt := 174) hx hb dX1_tokenSizeAt_283 (by decide) ?_
                have hgo : goB (rb x2 lim n) (rb x2 lim (n - 1)) = true := goB_l (by simpa using c_22)
                have hbl := goB_lt hgo
                exact ih (n + 1) 1 (by omega) (by omega) (by omega) (by rw [if_pos (by omega), show nuI x2 lim n = nuI x2 lim (n + 1) by rw [nuI, if_pos ⟨by omega, hgo⟩]] at hQ; rw [if_pos rfl]; exact hQ) _ (lv_sub hl [4, 5, 6, 0, 1] rfl)
            · have c_22 := (b2i_z (isL (rb x2 lim n))).mp c_22
              refine lv_iload hx hb dX1_tokenSizeAt_248 (lv_at hl 1 rfl) ?_
              refine lv_bipush (v := nI 46) hx hb dX1_tokenSizeAt_250 (by decide) ?_
              refine lv_icmp_eq (tgt := 260) hx hb dX1_tokenSizeAt_252 (by decide) (fun c_26 => ?_) (fun c_26 => ?_)
              · have c_26 := (bI_eqN (k := 46) (by omega)).mp c_26
                refine lv_iconst (v := nI 1) hx hb dX1_tokenSizeAt_260 (by decide) ?_
                refine lv_goto (tgt := 265) hx hb dX1_tokenSizeAt_261 (by decide) ?_
                refine lv_istore (lv' := [(6, .int (nI 1)), (8, .int (nI 0)), (7, .int (bI (rb x2 lim n))), (0, .ref (ad 0)), (1, .int (nI g)), (2, .int (nI lim)), (5, .int (nI n))]) hx hb dX1_tokenSizeAt_265 hl (by decide) rfl (fun ls hl => ?_)
                refine lv_iload hx hb dX1_tokenSizeAt_267 (lv_at hl 0 rfl) ?_
                refine lv_if_eq (tgt := 279) hx hb dX1_tokenSizeAt_269 (by decide) (fun c_27 => ?_) (fun c_27 => ?_)
                · have c_27 := (nI_eq (a := 1) (b := 0) (by omega) (by omega)).mp c_27
                  omega
                · have c_27 := mt (nI_eq (a := 1) (b := 0) (by omega) (by omega)).mpr c_27
                  refine lv_iload hx hb dX1_tokenSizeAt_272 (lv_at hl 6 rfl) ?_
                  refine lv_iconst (v := nI 1) hx hb dX1_tokenSizeAt_274 (by decide) ?_
                  refine lv_iadd hx hb dX1_tokenSizeAt_275 ?_
                  refine lv_topi (fun x_28 e_29 => ?_)
                  obtain rfl : x_28 = nI (n + 1) := e_29.trans (nI_add n 1)
                  refine lv_goto (tgt := 281) hx hb dX1_tokenSizeAt_276 (by decide) ?_
                  refine lv_istore (lv' := [(5, .int (nI (n + 1))), (6, .int (nI 1)), (8, .int (nI 0)), (7, .int (bI (rb x2 lim n))), (0, .ref (ad 0)), (1, .int (nI g)), (2, .int (nI lim))]) hx hb dX1_tokenSizeAt_281 hl (by decide) rfl (fun ls hl => ?_)
                  refine lv_goto (tgt := 174) hx hb dX1_tokenSizeAt_283 (by decide) ?_
                  have hgo : goB (rb x2 lim n) (rb x2 lim (n - 1)) = true := goB_p (by omega)
                  have hbl := goB_lt hgo
                  exact ih (n + 1) 1 (by omega) (by omega) (by omega) (by rw [if_pos (by omega), show nuI x2 lim n = nuI x2 lim (n + 1) by rw [nuI, if_pos ⟨by omega, hgo⟩]] at hQ; rw [if_pos rfl]; exact hQ) _ (lv_sub hl [4, 5, 6, 0, 1] rfl)
              · have c_26 := mt (bI_eqN (k := 46) (by omega)).mpr c_26
                refine lv_iload hx hb dX1_tokenSizeAt_255 (lv_at hl 0 rfl) ?_
                refine lv_if_eq (tgt := 264) hx hb dX1_tokenSizeAt_257 (by decide) (fun c_30 => ?_) (fun c_30 => ?_)
                · have c_30 := (nI_eq (a := 0) (b := 0) (by omega) (by omega)).mp c_30
                  refine lv_iconst (v := nI 0) hx hb dX1_tokenSizeAt_264 (by decide) ?_
                  refine lv_istore (lv' := [(6, .int (nI 0)), (8, .int (nI 0)), (7, .int (bI (rb x2 lim n))), (0, .ref (ad 0)), (1, .int (nI g)), (2, .int (nI lim)), (5, .int (nI n))]) hx hb dX1_tokenSizeAt_265 hl (by decide) rfl (fun ls hl => ?_)
                  refine lv_iload hx hb dX1_tokenSizeAt_267 (lv_at hl 0 rfl) ?_
                  refine lv_if_eq (tgt := 279) hx hb dX1_tokenSizeAt_269 (by decide) (fun c_31 => ?_) (fun c_31 => ?_)
                  · have c_31 := (nI_eq (a := 0) (b := 0) (by omega) (by omega)).mp c_31
                    refine lv_iload hx hb dX1_tokenSizeAt_279 (lv_at hl 6 rfl) ?_
                    refine lv_istore (lv' := [(5, .int (nI n)), (6, .int (nI 0)), (8, .int (nI 0)), (7, .int (bI (rb x2 lim n))), (0, .ref (ad 0)), (1, .int (nI g)), (2, .int (nI lim))]) hx hb dX1_tokenSizeAt_281 hl (by decide) rfl (fun ls hl => ?_)
                    refine lv_goto (tgt := 174) hx hb dX1_tokenSizeAt_283 (by decide) ?_
                    have hgo : goB (rb x2 lim n) (rb x2 lim (n - 1)) = false := goB_f c_16 c_22 (by omega) (Or.inr (by unfold io; exact c_13))
                    exact ih n 0 (by omega) (by omega) (by omega) (by rw [if_pos (by omega), show nuI x2 lim n = n by rw [nuI, if_neg (fun z => absurd z.2 (by rw [hgo]; decide))]] at hQ; rw [if_neg (by decide)]; exact hQ) _ (lv_sub hl [4, 5, 6, 0, 1] rfl)
                  · have c_31 := mt (nI_eq (a := 0) (b := 0) (by omega) (by omega)).mpr c_31
                    omega
                · have c_30 := mt (nI_eq (a := 0) (b := 0) (by omega) (by omega)).mpr c_30
                  omega
        · have c_13 := mt (b2i_z (ioG 3 (rb x2 lim (n - 1)) 65 0 false)).mpr c_13
          refine lv_iconst (v := nI 1) hx hb dX1_tokenSizeAt_225 (by decide) ?_
          refine lv_goto (tgt := 230) hx hb dX1_tokenSizeAt_226 (by decide) ?_
          refine lv_istore (lv' := [(8, .int (nI 1)), (7, .int (bI (rb x2 lim n))), (0, .ref (ad 0)), (1, .int (nI g)), (2, .int (nI lim)), (5, .int (nI n)), (6, .int (nI t))]) hx hb dX1_tokenSizeAt_230 hl (by decide) rfl (fun ls hl => ?_)
          refine lv_iload hx hb dX1_tokenSizeAt_232 (lv_at hl 1 rfl) ?_
          refine vp_callSi (va_Run.run (va_runS (As := [.int (bI (rb x2 lim n))]) (rest := []) ⟨hx, hb, hml, hown, hts⟩ (r_isDigit l (rb x2 lim n)) (cwS 1 hts (gS (fun _ h => h) ml_X1_99 sm_X1_isDigit ini_X1 co_X1_isDigit) rfl rfl rfl pd_X1_isDigit ⟨Nat.le_of_ble_eq_true rfl, Nat.le_of_ble_eq_true rfl⟩) st_pre rfl rfl hl.1 rfl (lv_room (Nat.le_of_ble_eq_true rfl)) dX1_tokenSizeAt_234 ⟨Nat.zero_le _, Nat.zero_le _⟩)) (fun r_32 (e_33 : r_32 = b2i (isD (rb x2 lim n))) => ?_)
          subst e_33
          refine lv_if_ne (tgt := 260) hx hb dX1_tokenSizeAt_237 (by decide) (fun c_34 => ?_) (fun c_34 => ?_)
          · have c_34 := mt (b2i_z (isD (rb x2 lim n))).mpr c_34
            refine lv_iconst (v := nI 1) hx hb dX1_tokenSizeAt_260 (by decide) ?_
            refine lv_goto (tgt := 265) hx hb dX1_tokenSizeAt_261 (by decide) ?_
            refine lv_istore (lv' := [(6, .int (nI 1)), (8, .int (nI 1)), (7, .int (bI (rb x2 lim n))), (0, .ref (ad 0)), (1, .int (nI g)), (2, .int (nI lim)), (5, .int (nI n))]) hx hb dX1_tokenSizeAt_265 hl (by decide) rfl (fun ls hl => ?_)
            refine lv_iload hx hb dX1_tokenSizeAt_267 (lv_at hl 0 rfl) ?_
            refine lv_if_eq (tgt := 279) hx hb dX1_tokenSizeAt_269 (by decide) (fun c_35 => ?_) (fun c_35 => ?_)
            · have c_35 := (nI_eq (a := 1) (b := 0) (by omega) (by omega)).mp c_35
              omega
            · have c_35 := mt (nI_eq (a := 1) (b := 0) (by omega) (by omega)).mpr c_35
              refine lv_iload hx hb dX1_tokenSizeAt_272 (lv_at hl 6 rfl) ?_
              refine lv_iconst (v := nI 1) hx hb dX1_tokenSizeAt_274 (by decide) ?_
              refine lv_iadd hx hb dX1_tokenSizeAt_275 ?_
              refine lv_topi (fun x_36 e_37 => ?_)
              obtain rfl : x_36 = nI (n + 1) := e_37.trans (nI_add n 1)
              refine lv_goto (tgt := 281) hx hb dX1_tokenSizeAt_276 (by decide) ?_
              refine lv_istore (lv' := [(5, .int (nI (n + 1))), (6, .int (nI 1)), (8, .int (nI 1)), (7, .int (bI (rb x2 lim n))), (0, .ref (ad 0)), (1, .int (nI g)), (2, .int (nI lim))]) hx hb dX1_tokenSizeAt_281 hl (by decide) rfl (fun ls hl => ?_)
              refine lv_goto (tgt := 174) hx hb dX1_tokenSizeAt_283 (by decide) ?_
              have hgo : goB (rb x2 lim n) (rb x2 lim (n - 1)) = true := goB_d (by simpa using c_34)
              have hbl := goB_lt hgo
              exact ih (n + 1) 1 (by omega) (by omega) (by omega) (by rw [if_pos (by omega), show nuI x2 lim n = nuI x2 lim (n + 1) by rw [nuI, if_pos ⟨by omega, hgo⟩]] at hQ; rw [if_pos rfl]; exact hQ) _ (lv_sub hl [4, 5, 6, 0, 1] rfl)
          · have c_34 := (b2i_z (isD (rb x2 lim n))).mp c_34
            refine lv_iload hx hb dX1_tokenSizeAt_240 (lv_at hl 1 rfl) ?_
            refine vp_callSi (va_Run.run (va_runS (As := [.int (bI (rb x2 lim n))]) (rest := []) ⟨hx, hb, hml, hown, hts⟩ (r_isLetter l (rb x2 lim n)) (cwS 1 hts (gS (fun _ h => h) ml_X1_95 sm_X1_isLetter ini_X1 co_X1_isLetter) rfl rfl rfl pd_X1_isLetter ⟨Nat.le_of_ble_eq_true rfl, Nat.le_of_ble_eq_true rfl⟩) st_pre rfl rfl hl.1 rfl (lv_room (Nat.le_of_ble_eq_true rfl)) dX1_tokenSizeAt_242 ⟨Nat.zero_le _, Nat.zero_le _⟩)) (fun r_38 (e_39 : r_38 = b2i (isL (rb x2 lim n))) => ?_)
            subst e_39
            refine lv_if_ne (tgt := 260) hx hb dX1_tokenSizeAt_245 (by decide) (fun c_40 => ?_) (fun c_40 => ?_)
            · have c_40 := mt (b2i_z (isL (rb x2 lim n))).mpr c_40
              refine lv_iconst (v := nI 1) hx hb dX1_tokenSizeAt_260 (by decide) ?_
              refine lv_goto (tgt := 265) hx hb dX1_tokenSizeAt_261 (by decide) ?_
              refine lv_istore (lv' := [(6, .int (nI 1)), (8, .int (nI 1)), (7, .int (bI (rb x2 lim n))), (0, .ref (ad 0)), (1, .int (nI g)), (2, .int (nI lim)), (5, .int (nI n))]) hx hb dX1_tokenSizeAt_265 hl (by decide) rfl (fun ls hl => ?_)
              refine lv_iload hx hb dX1_tokenSizeAt_267 (lv_at hl 0 rfl) ?_
              refine lv_if_eq (tgt := 279) hx hb dX1_tokenSizeAt_269 (by decide) (fun c_41 => ?_) (fun c_41 => ?_)
              · have c_41 := (nI_eq (a := 1) (b := 0) (by omega) (by omega)).mp c_41
                omega
              · have c_41 := mt (nI_eq (a := 1) (b := 0) (by omega) (by omega)).mpr c_41
                refine lv_iload hx hb dX1_tokenSizeAt_272 (lv_at hl 6 rfl) ?_
                refine lv_iconst (v := nI 1) hx hb dX1_tokenSizeAt_274 (by decide) ?_
                refine lv_iadd hx hb dX1_tokenSizeAt_275 ?_
                refine lv_topi (fun x_42 e_43 => ?_)
                obtain rfl : x_42 = nI (n + 1) := e_43.trans (nI_add n 1)
                refine lv_goto (tgt := 281) hx hb dX1_tokenSizeAt_276 (by decide) ?_
                refine lv_istore (lv' := [(5, .int (nI (n + 1))), (6, .int (nI 1)), (8, .int (nI 1)), (7, .int (bI (rb x2 lim n))), (0, .ref (ad 0)), (1, .int (nI g)), (2, .int (nI lim))]) hx hb dX1_tokenSizeAt_281 hl (by decide) rfl (fun ls hl => ?_)
                refine lv_goto (tgt := 174) hx hb dX1_tokenSizeAt_283 (by decide) ?_
                have hgo : goB (rb x2 lim n) (rb x2 lim (n - 1)) = true := goB_l (by simpa using c_40)
                have hbl := goB_lt hgo
                exact ih (n + 1) 1 (by omega) (by omega) (by omega) (by rw [if_pos (by omega), show nuI x2 lim n = nuI x2 lim (n + 1) by rw [nuI, if_pos ⟨by omega, hgo⟩]] at hQ; rw [if_pos rfl]; exact hQ) _ (lv_sub hl [4, 5, 6, 0, 1] rfl)
            · have c_40 := (b2i_z (isL (rb x2 lim n))).mp c_40
              refine lv_iload hx hb dX1_tokenSizeAt_248 (lv_at hl 1 rfl) ?_
              refine lv_bipush (v := nI 46) hx hb dX1_tokenSizeAt_250 (by decide) ?_
              refine lv_icmp_eq (tgt := 260) hx hb dX1_tokenSizeAt_252 (by decide) (fun c_44 => ?_) (fun c_44 => ?_)
              · have c_44 := (bI_eqN (k := 46) (by omega)).mp c_44
                refine lv_iconst (v := nI 1) hx hb dX1_tokenSizeAt_260 (by decide) ?_
                refine lv_goto (tgt := 265) hx hb dX1_tokenSizeAt_261 (by decide) ?_
                refine lv_istore (lv' := [(6, .int (nI 1)), (8, .int (nI 1)), (7, .int (bI (rb x2 lim n))), (0, .ref (ad 0)), (1, .int (nI g)), (2, .int (nI lim)), (5, .int (nI n))]) hx hb dX1_tokenSizeAt_265 hl (by decide) rfl (fun ls hl => ?_)
                refine lv_iload hx hb dX1_tokenSizeAt_267 (lv_at hl 0 rfl) ?_
                refine lv_if_eq (tgt := 279) hx hb dX1_tokenSizeAt_269 (by decide) (fun c_45 => ?_) (fun c_45 => ?_)
                · have c_45 := (nI_eq (a := 1) (b := 0) (by omega) (by omega)).mp c_45
                  omega
                · have c_45 := mt (nI_eq (a := 1) (b := 0) (by omega) (by omega)).mpr c_45
                  refine lv_iload hx hb dX1_tokenSizeAt_272 (lv_at hl 6 rfl) ?_
                  refine lv_iconst (v := nI 1) hx hb dX1_tokenSizeAt_274 (by decide) ?_
                  refine lv_iadd hx hb dX1_tokenSizeAt_275 ?_
                  refine lv_topi (fun x_46 e_47 => ?_)
                  obtain rfl : x_46 = nI (n + 1) := e_47.trans (nI_add n 1)
                  refine lv_goto (tgt := 281) hx hb dX1_tokenSizeAt_276 (by decide) ?_
                  refine lv_istore (lv' := [(5, .int (nI (n + 1))), (6, .int (nI 1)), (8, .int (nI 1)), (7, .int (bI (rb x2 lim n))), (0, .ref (ad 0)), (1, .int (nI g)), (2, .int (nI lim))]) hx hb dX1_tokenSizeAt_281 hl (by decide) rfl (fun ls hl => ?_)
                  refine lv_goto (tgt := 174) hx hb dX1_tokenSizeAt_283 (by decide) ?_
                  have hgo : goB (rb x2 lim n) (rb x2 lim (n - 1)) = true := goB_p (by omega)
                  have hbl := goB_lt hgo
                  exact ih (n + 1) 1 (by omega) (by omega) (by omega) (by rw [if_pos (by omega), show nuI x2 lim n = nuI x2 lim (n + 1) by rw [nuI, if_pos ⟨by omega, hgo⟩]] at hQ; rw [if_pos rfl]; exact hQ) _ (lv_sub hl [4, 5, 6, 0, 1] rfl)
              · have c_44 := mt (bI_eqN (k := 46) (by omega)).mpr c_44
                refine lv_iload hx hb dX1_tokenSizeAt_255 (lv_at hl 0 rfl) ?_
                refine lv_if_eq (tgt := 264) hx hb dX1_tokenSizeAt_257 (by decide) (fun c_48 => ?_) (fun c_48 => ?_)
                · have c_48 := (nI_eq (a := 1) (b := 0) (by omega) (by omega)).mp c_48
                  omega
                · have c_48 := mt (nI_eq (a := 1) (b := 0) (by omega) (by omega)).mpr c_48
                  refine lv_iconst (v := nI 1) hx hb dX1_tokenSizeAt_260 (by decide) ?_
                  refine lv_goto (tgt := 265) hx hb dX1_tokenSizeAt_261 (by decide) ?_
                  refine lv_istore (lv' := [(6, .int (nI 1)), (8, .int (nI 1)), (7, .int (bI (rb x2 lim n))), (0, .ref (ad 0)), (1, .int (nI g)), (2, .int (nI lim)), (5, .int (nI n))]) hx hb dX1_tokenSizeAt_265 hl (by decide) rfl (fun ls hl => ?_)
                  refine lv_iload hx hb dX1_tokenSizeAt_267 (lv_at hl 0 rfl) ?_
                  refine lv_if_eq (tgt := 279) hx hb dX1_tokenSizeAt_269 (by decide) (fun c_49 => ?_) (fun c_49 => ?_)
                  · have c_49 := (nI_eq (a := 1) (b := 0) (by omega) (by omega)).mp c_49
                    omega
                  · have c_49 := mt (nI_eq (a := 1) (b := 0) (by omega) (by omega)).mpr c_49
                    refine lv_iload hx hb dX1_tokenSizeAt_272 (lv_at hl 6 rfl) ?_
                    refine lv_iconst (v := nI 1) hx hb dX1_tokenSizeAt_274 (by decide) ?_
                    refine lv_iadd hx hb dX1_tokenSizeAt_275 ?_
                    refine lv_topi (fun x_50 e_51 => ?_)
                    obtain rfl : x_50 = nI (n + 1) := e_51.trans (nI_add n 1)
                    refine lv_goto (tgt := 281) hx hb dX1_tokenSizeAt_276 (by decide) ?_
                    refine lv_istore (lv' := [(5, .int (nI (n + 1))), (6, .int (nI 1)), (8, .int (nI 1)), (7, .int (bI (rb x2 lim n))), (0, .ref (ad 0)), (1, .int (nI g)), (2, .int (nI lim))]) hx hb dX1_tokenSizeAt_281 hl (by decide) rfl (fun ls hl => ?_)
                    refine lv_goto (tgt := 174) hx hb dX1_tokenSizeAt_283 (by decide) ?_
                    have hgo : goB (rb x2 lim n) (rb x2 lim (n - 1)) = true := goB_s (by omega) (by simpa [io] using c_13)
                    have hbl := goB_lt hgo
                    exact ih (n + 1) 1 (by omega) (by omega) (by omega) (by rw [if_pos (by omega), show nuI x2 lim n = nuI x2 lim (n + 1) by rw [nuI, if_pos ⟨by omega, hgo⟩]] at hQ; rw [if_pos rfl]; exact hQ) _ (lv_sub hl [4, 5, 6, 0, 1] rfl)
      · have c_6 := mt (bI_eqN (k := 43) (by omega)).mpr c_6
        refine lv_iload hx hb dX1_tokenSizeAt_198 (lv_at hl 0 rfl) ?_
        refine lv_bipush (v := nI 45) hx hb dX1_tokenSizeAt_200 (by decide) ?_
        refine lv_icmp_ne (tgt := 229) hx hb dX1_tokenSizeAt_202 (by decide) (fun c_52 => ?_) (fun c_52 => ?_)
        · have c_52 := mt (bI_eqN (k := 45) (by omega)).mpr c_52
          refine lv_iconst (v := nI 0) hx hb dX1_tokenSizeAt_229 (by decide) ?_
          refine lv_istore (lv' := [(8, .int (nI 0)), (7, .int (bI (rb x2 lim n))), (0, .ref (ad 0)), (1, .int (nI g)), (2, .int (nI lim)), (5, .int (nI n)), (6, .int (nI t))]) hx hb dX1_tokenSizeAt_230 hl (by decide) rfl (fun ls hl => ?_)
          refine lv_iload hx hb dX1_tokenSizeAt_232 (lv_at hl 1 rfl) ?_
          refine vp_callSi (va_Run.run (va_runS (As := [.int (bI (rb x2 lim n))]) (rest := []) ⟨hx, hb, hml, hown, hts⟩ (r_isDigit l (rb x2 lim n)) (cwS 1 hts (gS (fun _ h => h) ml_X1_99 sm_X1_isDigit ini_X1 co_X1_isDigit) rfl rfl rfl pd_X1_isDigit ⟨Nat.le_of_ble_eq_true rfl, Nat.le_of_ble_eq_true rfl⟩) st_pre rfl rfl hl.1 rfl (lv_room (Nat.le_of_ble_eq_true rfl)) dX1_tokenSizeAt_234 ⟨Nat.zero_le _, Nat.zero_le _⟩)) (fun r_53 (e_54 : r_53 = b2i (isD (rb x2 lim n))) => ?_)
          subst e_54
          refine lv_if_ne (tgt := 260) hx hb dX1_tokenSizeAt_237 (by decide) (fun c_55 => ?_) (fun c_55 => ?_)
          · have c_55 := mt (b2i_z (isD (rb x2 lim n))).mpr c_55
            refine lv_iconst (v := nI 1) hx hb dX1_tokenSizeAt_260 (by decide) ?_
            refine lv_goto (tgt := 265) hx hb dX1_tokenSizeAt_261 (by decide) ?_
            refine lv_istore (lv' := [(6, .int (nI 1)), (8, .int (nI 0)), (7, .int (bI (rb x2 lim n))), (0, .ref (ad 0)), (1, .int (nI g)), (2, .int (nI lim)), (5, .int (nI n))]) hx hb dX1_tokenSizeAt_265 hl (by decide) rfl (fun ls hl => ?_)
            refine lv_iload hx hb dX1_tokenSizeAt_267 (lv_at hl 0 rfl) ?_
            refine lv_if_eq (tgt := 279) hx hb dX1_tokenSizeAt_269 (by decide) (fun c_56 => ?_) (fun c_56 => ?_)
            · have c_56 := (nI_eq (a := 1) (b := 0) (by omega) (by omega)).mp c_56
              omega
            · have c_56 := mt (nI_eq (a := 1) (b := 0) (by omega) (by omega)).mpr c_56
              refine lv_iload hx hb dX1_tokenSizeAt_272 (lv_at hl 6 rfl) ?_
              refine lv_iconst (v := nI 1) hx hb dX1_tokenSizeAt_274 (by decide) ?_
              refine lv_iadd hx hb dX1_tokenSizeAt_275 ?_
              refine lv_topi (fun x_57 e_58 => ?_)
              obtain rfl : x_57 = nI (n + 1) := e_58.trans (nI_add n 1)
              refine lv_goto (tgt := 281) hx hb dX1_tokenSizeAt_276 (by decide) ?_
              refine lv_istore (lv' := [(5, .int (nI (n + 1))), (6, .int (nI 1)), (8, .int (nI 0)), (7, .int (bI (rb x2 lim n))), (0, .ref (ad 0)), (1, .int (nI g)), (2, .int (nI lim))]) hx hb dX1_tokenSizeAt_281 hl (by decide) rfl (fun ls hl => ?_)
              refine lv_goto (tgt := 174) hx hb dX1_tokenSizeAt_283 (by decide) ?_
              have hgo : goB (rb x2 lim n) (rb x2 lim (n - 1)) = true := goB_d (by simpa using c_55)
              have hbl := goB_lt hgo
              exact ih (n + 1) 1 (by omega) (by omega) (by omega) (by rw [if_pos (by omega), show nuI x2 lim n = nuI x2 lim (n + 1) by rw [nuI, if_pos ⟨by omega, hgo⟩]] at hQ; rw [if_pos rfl]; exact hQ) _ (lv_sub hl [4, 5, 6, 0, 1] rfl)
          · have c_55 := (b2i_z (isD (rb x2 lim n))).mp c_55
            refine lv_iload hx hb dX1_tokenSizeAt_240 (lv_at hl 1 rfl) ?_
            refine vp_callSi (va_Run.run (va_runS (As := [.int (bI (rb x2 lim n))]) (rest := []) ⟨hx, hb, hml, hown, hts⟩ (r_isLetter l (rb x2 lim n)) (cwS 1 hts (gS (fun _ h => h) ml_X1_95 sm_X1_isLetter ini_X1 co_X1_isLetter) rfl rfl rfl pd_X1_isLetter ⟨Nat.le_of_ble_eq_true rfl, Nat.le_of_ble_eq_true rfl⟩) st_pre rfl rfl hl.1 rfl (lv_room (Nat.le_of_ble_eq_true rfl)) dX1_tokenSizeAt_242 ⟨Nat.zero_le _, Nat.zero_le _⟩)) (fun r_59 (e_60 : r_59 = b2i (isL (rb x2 lim n))) => ?_)
            subst e_60
            refine lv_if_ne (tgt := 260) hx hb dX1_tokenSizeAt_245 (by decide) (fun c_61 => ?_) (fun c_61 => ?_)
            · have c_61 := mt (b2i_z (isL (rb x2 lim n))).mpr c_61
              refine lv_iconst (v := nI 1) hx hb dX1_tokenSizeAt_260 (by decide) ?_
              refine lv_goto (tgt := 265) hx hb dX1_tokenSizeAt_261 (by decide) ?_
              refine lv_istore (lv' := [(6, .int (nI 1)), (8, .int (nI 0)), (7, .int (bI (rb x2 lim n))), (0, .ref (ad 0)), (1, .int (nI g)), (2, .int (nI lim)), (5, .int (nI n))]) hx hb dX1_tokenSizeAt_265 hl (by decide) rfl (fun ls hl => ?_)
              refine lv_iload hx hb dX1_tokenSizeAt_267 (lv_at hl 0 rfl) ?_
              refine lv_if_eq (tgt := 279) hx hb dX1_tokenSizeAt_269 (by decide) (fun c_62 => ?_) (fun c_62 => ?_)
              · have c_62 := (nI_eq (a := 1) (b := 0) (by omega) (by omega)).mp c_62
                omega
              · have c_62 := mt (nI_eq (a := 1) (b := 0) (by omega) (by omega)).mpr c_62
                refine lv_iload hx hb dX1_tokenSizeAt_272 (lv_at hl 6 rfl) ?_
                refine lv_iconst (v := nI 1) hx hb dX1_tokenSizeAt_274 (by decide) ?_
                refine lv_iadd hx hb dX1_tokenSizeAt_275 ?_
                refine lv_topi (fun x_63 e_64 => ?_)
                obtain rfl : x_63 = nI (n + 1) := e_64.trans (nI_add n 1)
                refine lv_goto (tgt := 281) hx hb dX1_tokenSizeAt_276 (by decide) ?_
                refine lv_istore (lv' := [(5, .int (nI (n + 1))), (6, .int (nI 1)), (8, .int (nI 0)), (7, .int (bI (rb x2 lim n))), (0, .ref (ad 0)), (1, .int (nI g)), (2, .int (nI lim))]) hx hb dX1_tokenSizeAt_281 hl (by decide) rfl (fun ls hl => ?_)
                refine lv_goto (tgt := 174) hx hb dX1_tokenSizeAt_283 (by decide) ?_
                have hgo : goB (rb x2 lim n) (rb x2 lim (n - 1)) = true := goB_l (by simpa using c_61)
                have hbl := goB_lt hgo
                exact ih (n + 1) 1 (by omega) (by omega) (by omega) (by rw [if_pos (by omega), show nuI x2 lim n = nuI x2 lim (n + 1) by rw [nuI, if_pos ⟨by omega, hgo⟩]] at hQ; rw [if_pos rfl]; exact hQ) _ (lv_sub hl [4, 5, 6, 0, 1] rfl)
            · have c_61 := (b2i_z (isL (rb x2 lim n))).mp c_61
              refine lv_iload hx hb dX1_tokenSizeAt_248 (lv_at hl 1 rfl) ?_
              refine lv_bipush (v := nI 46) hx hb dX1_tokenSizeAt_250 (by decide) ?_
              refine lv_icmp_eq (tgt := 260) hx hb dX1_tokenSizeAt_252 (by decide) (fun c_65 => ?_) (fun c_65 => ?_)
              · have c_65 := (bI_eqN (k := 46) (by omega)).mp c_65
                refine lv_iconst (v := nI 1) hx hb dX1_tokenSizeAt_260 (by decide) ?_
                refine lv_goto (tgt := 265) hx hb dX1_tokenSizeAt_261 (by decide) ?_
                refine lv_istore (lv' := [(6, .int (nI 1)), (8, .int (nI 0)), (7, .int (bI (rb x2 lim n))), (0, .ref (ad 0)), (1, .int (nI g)), (2, .int (nI lim)), (5, .int (nI n))]) hx hb dX1_tokenSizeAt_265 hl (by decide) rfl (fun ls hl => ?_)
                refine lv_iload hx hb dX1_tokenSizeAt_267 (lv_at hl 0 rfl) ?_
                refine lv_if_eq (tgt := 279) hx hb dX1_tokenSizeAt_269 (by decide) (fun c_66 => ?_) (fun c_66 => ?_)
                · have c_66 := (nI_eq (a := 1) (b := 0) (by omega) (by omega)).mp c_66
                  omega
                · have c_66 := mt (nI_eq (a := 1) (b := 0) (by omega) (by omega)).mpr c_66
                  refine lv_iload hx hb dX1_tokenSizeAt_272 (lv_at hl 6 rfl) ?_
                  refine lv_iconst (v := nI 1) hx hb dX1_tokenSizeAt_274 (by decide) ?_
                  refine lv_iadd hx hb dX1_tokenSizeAt_275 ?_
                  refine lv_topi (fun x_67 e_68 => ?_)
                  obtain rfl : x_67 = nI (n + 1) := e_68.trans (nI_add n 1)
                  refine lv_goto (tgt := 281) hx hb dX1_tokenSizeAt_276 (by decide) ?_
                  refine lv_istore (lv' := [(5, .int (nI (n + 1))), (6, .int (nI 1)), (8, .int (nI 0)), (7, .int (bI (rb x2 lim n))), (0, .ref (ad 0)), (1, .int (nI g)), (2, .int (nI lim))]) hx hb dX1_tokenSizeAt_281 hl (by decide) rfl (fun ls hl => ?_)
                  refine lv_goto (tgt := 174) hx hb dX1_tokenSizeAt_283 (by decide) ?_
                  have hgo : goB (rb x2 lim n) (rb x2 lim (n - 1)) = true := goB_p (by omega)
                  have hbl := goB_lt hgo
                  exact ih (n + 1) 1 (by omega) (by omega) (by omega) (by rw [if_pos (by omega), show nuI x2 lim n = nuI x2 lim (n + 1) by rw [nuI, if_pos ⟨by omega, hgo⟩]] at hQ; rw [if_pos rfl]; exact hQ) _ (lv_sub hl [4, 5, 6, 0, 1] rfl)
              · have c_65 := mt (bI_eqN (k := 46) (by omega)).mpr c_65
                refine lv_iload hx hb dX1_tokenSizeAt_255 (lv_at hl 0 rfl) ?_
                refine lv_if_eq (tgt := 264) hx hb dX1_tokenSizeAt_257 (by decide) (fun c_69 => ?_) (fun c_69 => ?_)
                · have c_69 := (nI_eq (a := 0) (b := 0) (by omega) (by omega)).mp c_69
                  refine lv_iconst (v := nI 0) hx hb dX1_tokenSizeAt_264 (by decide) ?_
                  refine lv_istore (lv' := [(6, .int (nI 0)), (8, .int (nI 0)), (7, .int (bI (rb x2 lim n))), (0, .ref (ad 0)), (1, .int (nI g)), (2, .int (nI lim)), (5, .int (nI n))]) hx hb dX1_tokenSizeAt_265 hl (by decide) rfl (fun ls hl => ?_)
                  refine lv_iload hx hb dX1_tokenSizeAt_267 (lv_at hl 0 rfl) ?_
                  refine lv_if_eq (tgt := 279) hx hb dX1_tokenSizeAt_269 (by decide) (fun c_70 => ?_) (fun c_70 => ?_)
                  · have c_70 := (nI_eq (a := 0) (b := 0) (by omega) (by omega)).mp c_70
                    refine lv_iload hx hb dX1_tokenSizeAt_279 (lv_at hl 6 rfl) ?_
                    refine lv_istore (lv' := [(5, .int (nI n)), (6, .int (nI 0)), (8, .int (nI 0)), (7, .int (bI (rb x2 lim n))), (0, .ref (ad 0)), (1, .int (nI g)), (2, .int (nI lim))]) hx hb dX1_tokenSizeAt_281 hl (by decide) rfl (fun ls hl => ?_)
                    refine lv_goto (tgt := 174) hx hb dX1_tokenSizeAt_283 (by decide) ?_
                    have hgo : goB (rb x2 lim n) (rb x2 lim (n - 1)) = false := goB_f c_55 c_61 (by omega) (Or.inl (by omega))
                    exact ih n 0 (by omega) (by omega) (by omega) (by rw [if_pos (by omega), show nuI x2 lim n = n by rw [nuI, if_neg (fun z => absurd z.2 (by rw [hgo]; decide))]] at hQ; rw [if_neg (by decide)]; exact hQ) _ (lv_sub hl [4, 5, 6, 0, 1] rfl)
                  · have c_70 := mt (nI_eq (a := 0) (b := 0) (by omega) (by omega)).mpr c_70
                    omega
                · have c_69 := mt (nI_eq (a := 0) (b := 0) (by omega) (by omega)).mpr c_69
                  omega
        · have c_52 := (bI_eqN (k := 45) (by omega)).mp c_52
          refine lv_aload_n hx hb dX1_tokenSizeAt_205 rfl (lv_at hl 1 rfl) ?_
          refine va_get (D := (dC, dI)) (ci := 1) (v := .ref (ad 2)) (C := RX1) (T := TX1) (N := 20) hx hb hts inX1 hown hK hP 0 rfl rfl 9 (by decide) (hts _ fl_X1_14) (fun _ h9 => h9) rfl dX1_tokenSizeAt_206 ?_
          refine lv_iload hx hb dX1_tokenSizeAt_209 (lv_at hl 4 rfl) ?_
          refine lv_iconst (v := nI 1) hx hb dX1_tokenSizeAt_211 (by decide) ?_
          refine lv_isub hx hb dX1_tokenSizeAt_212 ?_
          refine lv_topi (fun x_71 e_72 => ?_)
          obtain rfl : x_71 = nI (n - 1) := e_72.trans (pk_sub (by omega))
          refine lv_iload_n hx hb dX1_tokenSizeAt_213 rfl (lv_at hl 3 rfl) ?_
          refine vp_callSi (va_Run.run (va_runS (As := [.ref (ad 2), .int (nI (n - 1)), .int (nI lim)]) (rest := []) ⟨hx, hb, hml, hown, hts⟩ (r_byteAt l dC dI ct ad Y x1 x2 x3 x4 x5 x6 x7 x8 x9 (n - 1) lim (show n - 1 < 2 ^ 31 by omega) (show lim ≤ 32768 by omega) h2) (cwS 3 hts (gS (fun _ h => h) ml_X1_79 sm_X1_byteAt ini_X1 co_X1_byteAt) rfl rfl rfl pd_X1_byteAt ⟨Nat.le_of_ble_eq_true rfl, Nat.le_of_ble_eq_true rfl⟩) (rm_preRS hK hP) rfl rfl hl.1 rfl (lv_room (Nat.le_of_ble_eq_true rfl)) dX1_tokenSizeAt_214 ⟨Nat.zero_le _, Nat.zero_le _⟩)) (fun r_73 (e_74 : r_73 = bI (rb x2 lim (n - 1))) => ?_)
          subst e_74
          have := rb_in h2 lim (n - 1)
          refine va_ldcS hx hb hown hw.2.2.2.2.2.2.1 dX1_tokenSizeAt_217 ?_
          refine vp_callSi (va_Run.run (va_runS (As := [.int (bI (rb x2 lim (n - 1))), .ref (dK 3)]) (rest := []) ⟨hx, hb, hml, hown, hts⟩ (r_isOneOf l dK dV A0 (rb x2 lim (n - 1)) 3 (by decide)) (cwS 2 hts (gS (fun _ h => h) ml_X1_85 sm_X1_isOneOf ini_X1 co_X1_isOneOf) rfl rfl rfl pd_X1_isOneOf ⟨Nat.le_of_ble_eq_true rfl, Nat.le_of_ble_eq_true rfl⟩) (sw_preS hw) rfl rfl hl.1 rfl (lv_room (Nat.le_of_ble_eq_true rfl)) dX1_tokenSizeAt_219 ⟨Nat.zero_le _, Nat.zero_le _⟩)) (fun r_75 (e_76 : r_75 = b2i (ioG 3 (rb x2 lim (n - 1)) 65 0 false)) => ?_)
          subst e_76
          refine lv_if_eq (tgt := 229) hx hb dX1_tokenSizeAt_222 (by decide) (fun c_77 => ?_) (fun c_77 => ?_)
          · have c_77 := (b2i_z (ioG 3 (rb x2 lim (n - 1)) 65 0 false)).mp c_77
            refine lv_iconst (v := nI 0) hx hb dX1_tokenSizeAt_229 (by decide) ?_
            refine lv_istore (lv' := [(8, .int (nI 0)), (7, .int (bI (rb x2 lim n))), (0, .ref (ad 0)), (1, .int (nI g)), (2, .int (nI lim)), (5, .int (nI n)), (6, .int (nI t))]) hx hb dX1_tokenSizeAt_230 hl (by decide) rfl (fun ls hl => ?_)
            refine lv_iload hx hb dX1_tokenSizeAt_232 (lv_at hl 1 rfl) ?_
            refine vp_callSi (va_Run.run (va_runS (As := [.int (bI (rb x2 lim n))]) (rest := []) ⟨hx, hb, hml, hown, hts⟩ (r_isDigit l (rb x2 lim n)) (cwS 1 hts (gS (fun _ h => h) ml_X1_99 sm_X1_isDigit ini_X1 co_X1_isDigit) rfl rfl rfl pd_X1_isDigit ⟨Nat.le_of_ble_eq_true rfl, Nat.le_of_ble_eq_true rfl⟩) st_pre rfl rfl hl.1 rfl (lv_room (Nat.le_of_ble_eq_true rfl)) dX1_tokenSizeAt_234 ⟨Nat.zero_le _, Nat.zero_le _⟩)) (fun r_78 (e_79 : r_78 = b2i (isD (rb x2 lim n))) => ?_)
            subst e_79
            refine lv_if_ne (tgt := 260) hx hb dX1_tokenSizeAt_237 (by decide) (fun c_80 => ?_) (fun c_80 => ?_)
            · have c_80 := mt (b2i_z (isD (rb x2 lim n))).mpr c_80
              refine lv_iconst (v := nI 1) hx hb dX1_tokenSizeAt_260 (by decide) ?_
              refine lv_goto (tgt := 265) hx hb dX1_tokenSizeAt_261 (by decide) ?_
              refine lv_istore (lv' := [(6, .int (nI 1)), (8, .int (nI 0)), (7, .int (bI (rb x2 lim n))), (0, .ref (ad 0)), (1, .int (nI g)), (2, .int (nI lim)), (5, .int (nI n))]) hx hb dX1_tokenSizeAt_265 hl (by decide) rfl (fun ls hl => ?_)
              refine lv_iload hx hb dX1_tokenSizeAt_267 (lv_at hl 0 rfl) ?_
              refine lv_if_eq (tgt := 279) hx hb dX1_tokenSizeAt_269 (by decide) (fun c_81 => ?_) (fun c_81 => ?_)
              · have c_81 := (nI_eq (a := 1) (b := 0) (by omega) (by omega)).mp c_81
                omega
              · have c_81 := mt (nI_eq (a := 1) (b := 0) (by omega) (by omega)).mpr c_81
                refine lv_iload hx hb dX1_tokenSizeAt_272 (lv_at hl 6 rfl) ?_
                refine lv_iconst (v := nI 1) hx hb dX1_tokenSizeAt_274 (by decide) ?_
                refine lv_iadd hx hb dX1_tokenSizeAt_275 ?_
                refine lv_topi (fun x_82 e_83 => ?_)
                obtain rfl : x_82 = nI (n + 1) := e_83.trans (nI_add n 1)
                refine lv_goto (tgt := 281) hx hb dX1_tokenSizeAt_276 (by decide) ?_
                refine lv_istore (lv' := [(5, .int (nI (n + 1))), (6, .int (nI 1)), (8, .int (nI 0)), (7, .int (bI (rb x2 lim n))), (0, .ref (ad 0)), (1, .int (nI g)), (2, .int (nI lim))]) hx hb dX1_tokenSizeAt_281 hl (by decide) rfl (fun ls hl => ?_)
                refine lv_goto (tgt := 174) hx hb dX1_tokenSizeAt_283 (by decide) ?_
                have hgo : goB (rb x2 lim n) (rb x2 lim (n - 1)) = true := goB_d (by simpa using c_80)
                have hbl := goB_lt hgo
                exact ih (n + 1) 1 (by omega) (by omega) (by omega) (by rw [if_pos (by omega), show nuI x2 lim n = nuI x2 lim (n + 1) by rw [nuI, if_pos ⟨by omega, hgo⟩]] at hQ; rw [if_pos rfl]; exact hQ) _ (lv_sub hl [4, 5, 6, 0, 1] rfl)
            · have c_80 := (b2i_z (isD (rb x2 lim n))).mp c_80
              refine lv_iload hx hb dX1_tokenSizeAt_240 (lv_at hl 1 rfl) ?_
              refine vp_callSi (va_Run.run (va_runS (As := [.int (bI (rb x2 lim n))]) (rest := []) ⟨hx, hb, hml, hown, hts⟩ (r_isLetter l (rb x2 lim n)) (cwS 1 hts (gS (fun _ h => h) ml_X1_95 sm_X1_isLetter ini_X1 co_X1_isLetter) rfl rfl rfl pd_X1_isLetter ⟨Nat.le_of_ble_eq_true rfl, Nat.le_of_ble_eq_true rfl⟩) st_pre rfl rfl hl.1 rfl (lv_room (Nat.le_of_ble_eq_true rfl)) dX1_tokenSizeAt_242 ⟨Nat.zero_le _, Nat.zero_le _⟩)) (fun r_84 (e_85 : r_84 = b2i (isL (rb x2 lim n))) => ?_)
              subst e_85
              refine lv_if_ne (tgt := 260) hx hb dX1_tokenSizeAt_245 (by decide) (fun c_86 => ?_) (fun c_86 => ?_)
              · have c_86 := mt (b2i_z (isL (rb x2 lim n))).mpr c_86
                refine lv_iconst (v := nI 1) hx hb dX1_tokenSizeAt_260 (by decide) ?_
                refine lv_goto (tgt := 265) hx hb dX1_tokenSizeAt_261 (by decide) ?_
                refine lv_istore (lv' := [(6, .int (nI 1)), (8, .int (nI 0)), (7, .int (bI (rb x2 lim n))), (0, .ref (ad 0)), (1, .int (nI g)), (2, .int (nI lim)), (5, .int (nI n))]) hx hb dX1_tokenSizeAt_265 hl (by decide) rfl (fun ls hl => ?_)
                refine lv_iload hx hb dX1_tokenSizeAt_267 (lv_at hl 0 rfl) ?_
                refine lv_if_eq (tgt := 279) hx hb dX1_tokenSizeAt_269 (by decide) (fun c_87 => ?_) (fun c_87 => ?_)
                · have c_87 := (nI_eq (a := 1) (b := 0) (by omega) (by omega)).mp c_87
                  omega
                · have c_87 := mt (nI_eq (a := 1) (b := 0) (by omega) (by omega)).mpr c_87
                  refine lv_iload hx hb dX1_tokenSizeAt_272 (lv_at hl 6 rfl) ?_
                  refine lv_iconst (v := nI 1) hx hb dX1_tokenSizeAt_274 (by decide) ?_
                  refine lv_iadd hx hb dX1_tokenSizeAt_275 ?_
                  refine lv_topi (fun x_88 e_89 => ?_)
                  obtain rfl : x_88 = nI (n + 1) := e_89.trans (nI_add n 1)
                  refine lv_goto (tgt := 281) hx hb dX1_tokenSizeAt_276 (by decide) ?_
                  refine lv_istore (lv' := [(5, .int (nI (n + 1))), (6, .int (nI 1)), (8, .int (nI 0)), (7, .int (bI (rb x2 lim n))), (0, .ref (ad 0)), (1, .int (nI g)), (2, .int (nI lim))]) hx hb dX1_tokenSizeAt_281 hl (by decide) rfl (fun ls hl => ?_)
                  refine lv_goto (tgt := 174) hx hb dX1_tokenSizeAt_283 (by decide) ?_
                  have hgo : goB (rb x2 lim n) (rb x2 lim (n - 1)) = true := goB_l (by simpa using c_86)
                  have hbl := goB_lt hgo
                  exact ih (n + 1) 1 (by omega) (by omega) (by omega) (by rw [if_pos (by omega), show nuI x2 lim n = nuI x2 lim (n + 1) by rw [nuI, if_pos ⟨by omega, hgo⟩]] at hQ; rw [if_pos rfl]; exact hQ) _ (lv_sub hl [4, 5, 6, 0, 1] rfl)
              · have c_86 := (b2i_z (isL (rb x2 lim n))).mp c_86
                refine lv_iload hx hb dX1_tokenSizeAt_248 (lv_at hl 1 rfl) ?_
                refine lv_bipush (v := nI 46) hx hb dX1_tokenSizeAt_250 (by decide) ?_
                refine lv_icmp_eq (tgt := 260) hx hb dX1_tokenSizeAt_252 (by decide) (fun c_90 => ?_) (fun c_90 => ?_)
                · have c_90 := (bI_eqN (k := 46) (by omega)).mp c_90
                  refine lv_iconst (v := nI 1) hx hb dX1_tokenSizeAt_260 (by decide) ?_
                  refine lv_goto (tgt := 265) hx hb dX1_tokenSizeAt_261 (by decide) ?_
                  refine lv_istore (lv' := [(6, .int (nI 1)), (8, .int (nI 0)), (7, .int (bI (rb x2 lim n))), (0, .ref (ad 0)), (1, .int (nI g)), (2, .int (nI lim)), (5, .int (nI n))]) hx hb dX1_tokenSizeAt_265 hl (by decide) rfl (fun ls hl => ?_)
                  refine lv_iload hx hb dX1_tokenSizeAt_267 (lv_at hl 0 rfl) ?_
                  refine lv_if_eq (tgt := 279) hx hb dX1_tokenSizeAt_269 (by decide) (fun c_91 => ?_) (fun c_91 => ?_)
                  · have c_91 := (nI_eq (a := 1) (b := 0) (by omega) (by omega)).mp c_91
                    omega
                  · have c_91 := mt (nI_eq (a := 1) (b := 0) (by omega) (by omega)).mpr c_91
                    refine lv_iload hx hb dX1_tokenSizeAt_272 (lv_at hl 6 rfl) ?_
                    refine lv_iconst (v := nI 1) hx hb dX1_tokenSizeAt_274 (by decide) ?_
                    refine lv_iadd hx hb dX1_tokenSizeAt_275 ?_
                    refine lv_topi (fun x_92 e_93 => ?_)
                    obtain rfl : x_92 = nI (n + 1) := e_93.trans (nI_add n 1)
                    refine lv_goto (tgt := 281) hx hb dX1_tokenSizeAt_276 (by decide) ?_
                    refine lv_istore (lv' := [(5, .int (nI (n + 1))), (6, .int (nI 1)), (8, .int (nI 0)), (7, .int (bI (rb x2 lim n))), (0, .ref (ad 0)), (1, .int (nI g)), (2, .int (nI lim))]) hx hb dX1_tokenSizeAt_281 hl (by decide) rfl (fun ls hl => ?_)
                    refine lv_goto (tgt := 174) hx hb dX1_tokenSizeAt_283 (by decide) ?_
                    have hgo : goB (rb x2 lim n) (rb x2 lim (n - 1)) = true := goB_p (by omega)
                    have hbl := goB_lt hgo
                    exact ih (n + 1) 1 (by omega) (by omega) (by omega) (by rw [if_pos (by omega), show nuI x2 lim n = nuI x2 lim (n + 1) by rw [nuI, if_pos ⟨by omega, hgo⟩]] at hQ; rw [if_pos rfl]; exact hQ) _ (lv_sub hl [4, 5, 6, 0, 1] rfl)
                · have c_90 := mt (bI_eqN (k := 46) (by omega)).mpr c_90
                  refine lv_iload hx hb dX1_tokenSizeAt_255 (lv_at hl 0 rfl) ?_
                  refine lv_if_eq (tgt := 264) hx hb dX1_tokenSizeAt_257 (by decide) (fun c_94 => ?_) (fun c_94 => ?_)
                  · have c_94 := (nI_eq (a := 0) (b := 0) (by omega) (by omega)).mp c_94
                    refine lv_iconst (v := nI 0) hx hb dX1_tokenSizeAt_264 (by decide) ?_
                    refine lv_istore (lv' := [(6, .int (nI 0)), (8, .int (nI 0)), (7, .int (bI (rb x2 lim n))), (0, .ref (ad 0)), (1, .int (nI g)), (2, .int (nI lim)), (5, .int (nI n))]) hx hb dX1_tokenSizeAt_265 hl (by decide) rfl (fun ls hl => ?_)
                    refine lv_iload hx hb dX1_tokenSizeAt_267 (lv_at hl 0 rfl) ?_
                    refine lv_if_eq (tgt := 279) hx hb dX1_tokenSizeAt_269 (by decide) (fun c_95 => ?_) (fun c_95 => ?_)
                    · have c_95 := (nI_eq (a := 0) (b := 0) (by omega) (by omega)).mp c_95
                      refine lv_iload hx hb dX1_tokenSizeAt_279 (lv_at hl 6 rfl) ?_
                      refine lv_istore (lv' := [(5, .int (nI n)), (6, .int (nI 0)), (8, .int (nI 0)), (7, .int (bI (rb x2 lim n))), (0, .ref (ad 0)), (1, .int (nI g)), (2, .int (nI lim))]) hx hb dX1_tokenSizeAt_281 hl (by decide) rfl (fun ls hl => ?_)
                      refine lv_goto (tgt := 174) hx hb dX1_tokenSizeAt_283 (by decide) ?_
                      have hgo : goB (rb x2 lim n) (rb x2 lim (n - 1)) = false := goB_f c_80 c_86 (by omega) (Or.inr (by unfold io; exact c_77))
                      exact ih n 0 (by omega) (by omega) (by omega) (by rw [if_pos (by omega), show nuI x2 lim n = n by rw [nuI, if_neg (fun z => absurd z.2 (by rw [hgo]; decide))]] at hQ; rw [if_neg (by decide)]; exact hQ) _ (lv_sub hl [4, 5, 6, 0, 1] rfl)
                    · have c_95 := mt (nI_eq (a := 0) (b := 0) (by omega) (by omega)).mpr c_95
                      omega
                  · have c_94 := mt (nI_eq (a := 0) (b := 0) (by omega) (by omega)).mpr c_94
                    omega
          · have c_77 := mt (b2i_z (ioG 3 (rb x2 lim (n - 1)) 65 0 false)).mpr c_77
            refine lv_iconst (v := nI 1) hx hb dX1_tokenSizeAt_225 (by decide) ?_
            refine lv_goto (tgt := 230) hx hb dX1_tokenSizeAt_226 (by decide) ?_
            refine lv_istore (lv' := [(8, .int (nI 1)), (7, .int (bI (rb x2 lim n))), (0, .ref (ad 0)), (1, .int (nI g)), (2, .int (nI lim)), (5, .int (nI n)), (6, .int (nI t))]) hx hb dX1_tokenSizeAt_230 hl (by decide) rfl (fun ls hl => ?_)
            refine lv_iload hx hb dX1_tokenSizeAt_232 (lv_at hl 1 rfl) ?_
            refine vp_callSi (va_Run.run (va_runS (As := [.int (bI (rb x2 lim n))]) (rest := []) ⟨hx, hb, hml, hown, hts⟩ (r_isDigit l (rb x2 lim n)) (cwS 1 hts (gS (fun _ h => h) ml_X1_99 sm_X1_isDigit ini_X1 co_X1_isDigit) rfl rfl rfl pd_X1_isDigit ⟨Nat.le_of_ble_eq_true rfl, Nat.le_of_ble_eq_true rfl⟩) st_pre rfl rfl hl.1 rfl (lv_room (Nat.le_of_ble_eq_true rfl)) dX1_tokenSizeAt_234 ⟨Nat.zero_le _, Nat.zero_le _⟩)) (fun r_96 (e_97 : r_96 = b2i (isD (rb x2 lim n))) => ?_)
            subst e_97
            refine lv_if_ne (tgt := 260) hx hb dX1_tokenSizeAt_237 (by decide) (fun c_98 => ?_) (fun c_98 => ?_)
            · have c_98 := mt (b2i_z (isD (rb x2 lim n))).mpr c_98
              refine lv_iconst (v := nI 1) hx hb dX1_tokenSizeAt_260 (by decide) ?_
              refine lv_goto (tgt := 265) hx hb dX1_tokenSizeAt_261 (by decide) ?_
              refine lv_istore (lv' := [(6, .int (nI 1)), (8, .int (nI 1)), (7, .int (bI (rb x2 lim n))), (0, .ref (ad 0)), (1, .int (nI g)), (2, .int (nI lim)), (5, .int (nI n))]) hx hb dX1_tokenSizeAt_265 hl (by decide) rfl (fun ls hl => ?_)
              refine lv_iload hx hb dX1_tokenSizeAt_267 (lv_at hl 0 rfl) ?_
              refine lv_if_eq (tgt := 279) hx hb dX1_tokenSizeAt_269 (by decide) (fun c_99 => ?_) (fun c_99 => ?_)
              · have c_99 := (nI_eq (a := 1) (b := 0) (by omega) (by omega)).mp c_99
                omega
              · have c_99 := mt (nI_eq (a := 1) (b := 0) (by omega) (by omega)).mpr c_99
                refine lv_iload hx hb dX1_tokenSizeAt_272 (lv_at hl 6 rfl) ?_
                refine lv_iconst (v := nI 1) hx hb dX1_tokenSizeAt_274 (by decide) ?_
                refine lv_iadd hx hb dX1_tokenSizeAt_275 ?_
                refine lv_topi (fun x_100 e_101 => ?_)
                obtain rfl : x_100 = nI (n + 1) := e_101.trans (nI_add n 1)
                refine lv_goto (tgt := 281) hx hb dX1_tokenSizeAt_276 (by decide) ?_
                refine lv_istore (lv' := [(5, .int (nI (n + 1))), (6, .int (nI 1)), (8, .int (nI 1)), (7, .int (bI (rb x2 lim n))), (0, .ref (ad 0)), (1, .int (nI g)), (2, .int (nI lim))]) hx hb dX1_tokenSizeAt_281 hl (by decide) rfl (fun ls hl => ?_)
                refine lv_goto (tgt := 174) hx hb dX1_tokenSizeAt_283 (by decide) ?_
                have hgo : goB (rb x2 lim n) (rb x2 lim (n - 1)) = true := goB_d (by simpa using c_98)
                have hbl := goB_lt hgo
                exact ih (n + 1) 1 (by omega) (by omega) (by omega) (by rw [if_pos (by omega), show nuI x2 lim n = nuI x2 lim (n + 1) by rw [nuI, if_pos ⟨by omega, hgo⟩]] at hQ; rw [if_pos rfl]; exact hQ) _ (lv_sub hl [4, 5, 6, 0, 1] rfl)
            · have c_98 := (b2i_z (isD (rb x2 lim n))).mp c_98
              refine lv_iload hx hb dX1_tokenSizeAt_240 (lv_at hl 1 rfl) ?_
              refine vp_callSi (va_Run.run (va_runS (As := [.int (bI (rb x2 lim n))]) (rest := []) ⟨hx, hb, hml, hown, hts⟩ (r_isLetter l (rb x2 lim n)) (cwS 1 hts (gS (fun _ h => h) ml_X1_95 sm_X1_isLetter ini_X1 co_X1_isLetter) rfl rfl rfl pd_X1_isLetter ⟨Nat.le_of_ble_eq_true rfl, Nat.le_of_ble_eq_true rfl⟩) st_pre rfl rfl hl.1 rfl (lv_room (Nat.le_of_ble_eq_true rfl)) dX1_tokenSizeAt_242 ⟨Nat.zero_le _, Nat.zero_le _⟩)) (fun r_102 (e_103 : r_102 = b2i (isL (rb x2 lim n))) => ?_)
              subst e_103
              refine lv_if_ne (tgt := 260) hx hb dX1_tokenSizeAt_245 (by decide) (fun c_104 => ?_) (fun c_104 => ?_)
              · have c_104 := mt (b2i_z (isL (rb x2 lim n))).mpr c_104
                refine lv_iconst (v := nI 1) hx hb dX1_tokenSizeAt_260 (by decide) ?_
                refine lv_goto (tgt := 265) hx hb dX1_tokenSizeAt_261 (by decide) ?_
                refine lv_istore (lv' := [(6, .int (nI 1)), (8, .int (nI 1)), (7, .int (bI (rb x2 lim n))), (0, .ref (ad 0)), (1, .int (nI g)), (2, .int (nI lim)), (5, .int (nI n))]) hx hb dX1_tokenSizeAt_265 hl (by decide) rfl (fun ls hl => ?_)
                refine lv_iload hx hb dX1_tokenSizeAt_267 (lv_at hl 0 rfl) ?_
                refine lv_if_eq (tgt := 279) hx hb dX1_tokenSizeAt_269 (by decide) (fun c_105 => ?_) (fun c_105 => ?_)
                · have c_105 := (nI_eq (a := 1) (b := 0) (by omega) (by omega)).mp c_105
                  omega
                · have c_105 := mt (nI_eq (a := 1) (b := 0) (by omega) (by omega)).mpr c_105
                  refine lv_iload hx hb dX1_tokenSizeAt_272 (lv_at hl 6 rfl) ?_
                  refine lv_iconst (v := nI 1) hx hb dX1_tokenSizeAt_274 (by decide) ?_
                  refine lv_iadd hx hb dX1_tokenSizeAt_275 ?_
                  refine lv_topi (fun x_106 e_107 => ?_)
                  obtain rfl : x_106 = nI (n + 1) := e_107.trans (nI_add n 1)
                  refine lv_goto (tgt := 281) hx hb dX1_tokenSizeAt_276 (by decide) ?_
                  refine lv_istore (lv' := [(5, .int (nI (n + 1))), (6, .int (nI 1)), (8, .int (nI 1)), (7, .int (bI (rb x2 lim n))), (0, .ref (ad 0)), (1, .int (nI g)), (2, .int (nI lim))]) hx hb dX1_tokenSizeAt_281 hl (by decide) rfl (fun ls hl => ?_)
                  refine lv_goto (tgt := 174) hx hb dX1_tokenSizeAt_283 (by decide) ?_
                  have hgo : goB (rb x2 lim n) (rb x2 lim (n - 1)) = true := goB_l (by simpa using c_104)
                  have hbl := goB_lt hgo
                  exact ih (n + 1) 1 (by omega) (by omega) (by omega) (by rw [if_pos (by omega), show nuI x2 lim n = nuI x2 lim (n + 1) by rw [nuI, if_pos ⟨by omega, hgo⟩]] at hQ; rw [if_pos rfl]; exact hQ) _ (lv_sub hl [4, 5, 6, 0, 1] rfl)
              · have c_104 := (b2i_z (isL (rb x2 lim n))).mp c_104
                refine lv_iload hx hb dX1_tokenSizeAt_248 (lv_at hl 1 rfl) ?_
                refine lv_bipush (v := nI 46) hx hb dX1_tokenSizeAt_250 (by decide) ?_
                refine lv_icmp_eq (tgt := 260) hx hb dX1_tokenSizeAt_252 (by decide) (fun c_108 => ?_) (fun c_108 => ?_)
                · have c_108 := (bI_eqN (k := 46) (by omega)).mp c_108
                  refine lv_iconst (v := nI 1) hx hb dX1_tokenSizeAt_260 (by decide) ?_
                  refine lv_goto (tgt := 265) hx hb dX1_tokenSizeAt_261 (by decide) ?_
                  refine lv_istore (lv' := [(6, .int (nI 1)), (8, .int (nI 1)), (7, .int (bI (rb x2 lim n))), (0, .ref (ad 0)), (1, .int (nI g)), (2, .int (nI lim)), (5, .int (nI n))]) hx hb dX1_tokenSizeAt_265 hl (by decide) rfl (fun ls hl => ?_)
                  refine lv_iload hx hb dX1_tokenSizeAt_267 (lv_at hl 0 rfl) ?_
                  refine lv_if_eq (tgt := 279) hx hb dX1_tokenSizeAt_269 (by decide) (fun c_109 => ?_) (fun c_109 => ?_)
                  · have c_109 := (nI_eq (a := 1) (b := 0) (by omega) (by omega)).mp c_109
                    omega
                  · have c_109 := mt (nI_eq (a := 1) (b := 0) (by omega) (by omega)).mpr c_109
                    refine lv_iload hx hb dX1_tokenSizeAt_272 (lv_at hl 6 rfl) ?_
                    refine lv_iconst (v := nI 1) hx hb dX1_tokenSizeAt_274 (by decide) ?_
                    refine lv_iadd hx hb dX1_tokenSizeAt_275 ?_
                    refine lv_topi (fun x_110 e_111 => ?_)
                    obtain rfl : x_110 = nI (n + 1) := e_111.trans (nI_add n 1)
                    refine lv_goto (tgt := 281) hx hb dX1_tokenSizeAt_276 (by decide) ?_
                    refine lv_istore (lv' := [(5, .int (nI (n + 1))), (6, .int (nI 1)), (8, .int (nI 1)), (7, .int (bI (rb x2 lim n))), (0, .ref (ad 0)), (1, .int (nI g)), (2, .int (nI lim))]) hx hb dX1_tokenSizeAt_281 hl (by decide) rfl (fun ls hl => ?_)
                    refine lv_goto (tgt := 174) hx hb dX1_tokenSizeAt_283 (by decide) ?_
                    have hgo : goB (rb x2 lim n) (rb x2 lim (n - 1)) = true := goB_p (by omega)
                    have hbl := goB_lt hgo
                    exact ih (n + 1) 1 (by omega) (by omega) (by omega) (by rw [if_pos (by omega), show nuI x2 lim n = nuI x2 lim (n + 1) by rw [nuI, if_pos ⟨by omega, hgo⟩]] at hQ; rw [if_pos rfl]; exact hQ) _ (lv_sub hl [4, 5, 6, 0, 1] rfl)
                · have c_108 := mt (bI_eqN (k := 46) (by omega)).mpr c_108
                  refine lv_iload hx hb dX1_tokenSizeAt_255 (lv_at hl 0 rfl) ?_
                  refine lv_if_eq (tgt := 264) hx hb dX1_tokenSizeAt_257 (by decide) (fun c_112 => ?_) (fun c_112 => ?_)
                  · have c_112 := (nI_eq (a := 1) (b := 0) (by omega) (by omega)).mp c_112
                    omega
                  · have c_112 := mt (nI_eq (a := 1) (b := 0) (by omega) (by omega)).mpr c_112
                    refine lv_iconst (v := nI 1) hx hb dX1_tokenSizeAt_260 (by decide) ?_
                    refine lv_goto (tgt := 265) hx hb dX1_tokenSizeAt_261 (by decide) ?_
                    refine lv_istore (lv' := [(6, .int (nI 1)), (8, .int (nI 1)), (7, .int (bI (rb x2 lim n))), (0, .ref (ad 0)), (1, .int (nI g)), (2, .int (nI lim)), (5, .int (nI n))]) hx hb dX1_tokenSizeAt_265 hl (by decide) rfl (fun ls hl => ?_)
                    refine lv_iload hx hb dX1_tokenSizeAt_267 (lv_at hl 0 rfl) ?_
                    refine lv_if_eq (tgt := 279) hx hb dX1_tokenSizeAt_269 (by decide) (fun c_113 => ?_) (fun c_113 => ?_)
                    · have c_113 := (nI_eq (a := 1) (b := 0) (by omega) (by omega)).mp c_113
                      omega
                    · have c_113 := mt (nI_eq (a := 1) (b := 0) (by omega) (by omega)).mpr c_113
                      refine lv_iload hx hb dX1_tokenSizeAt_272 (lv_at hl 6 rfl) ?_
                      refine lv_iconst (v := nI 1) hx hb dX1_tokenSizeAt_274 (by decide) ?_
                      refine lv_iadd hx hb dX1_tokenSizeAt_275 ?_
                      refine lv_topi (fun x_114 e_115 => ?_)
                      obtain rfl : x_114 = nI (n + 1) := e_115.trans (nI_add n 1)
                      refine lv_goto (tgt := 281) hx hb dX1_tokenSizeAt_276 (by decide) ?_
                      refine lv_istore (lv' := [(5, .int (nI (n + 1))), (6, .int (nI 1)), (8, .int (nI 1)), (7, .int (bI (rb x2 lim n))), (0, .ref (ad 0)), (1, .int (nI g)), (2, .int (nI lim))]) hx hb dX1_tokenSizeAt_281 hl (by decide) rfl (fun ls hl => ?_)
                      refine lv_goto (tgt := 174) hx hb dX1_tokenSizeAt_283 (by decide) ?_
                      have hgo : goB (rb x2 lim n) (rb x2 lim (n - 1)) = true := goB_s (by omega) (by simpa [io] using c_77)
                      have hbl := goB_lt hgo
                      exact ih (n + 1) 1 (by omega) (by omega) (by omega) (by rw [if_pos (by omega), show nuI x2 lim n = nuI x2 lim (n + 1) by rw [nuI, if_pos ⟨by omega, hgo⟩]] at hQ; rw [if_pos rfl]; exact hQ) _ (lv_sub hl [4, 5, 6, 0, 1] rfl)
set_option maxHeartbeats 4000000 in
set_option maxRecDepth 100000 in
theorem t_tokenSizeAt_95 {p : Program} {l : Launch} {e : Env} {s : State} {m : MethodId} {args : Array Value} {below : List Frame} {meth : Method} {c : Code} (hx : p.tables.exec = Jvm.exec) (hb : c.code = cX1_tokenSizeAt) (hr : meth.sig.returnType = (some .int)) (hml : c.maxLocals = 9) (hown : s.vm.findClass RX1 = some m.cls) (hts : ∀ w ∈ bw, w.before args s = true) (hlocks : meth.locks = false) {dC : Nat → ClassId} {dI : Nat → Nat → Nat} {ct : Nat → ClassId} {ad : Nat → Nat} {Y x1 x2 x3 x4 x5 x6 x7 x8 x9 : Nat → Nat} (hK : va_K (dC, dI) vwCl (rmT ct) s) (hP : va_P (dC, dI) vwCl (rmW ct ad (Y, x1, x2, x3, x4, x5, x6, x7, x8, x9)) s.heap) {dK dV : Nat → Nat} {A0 : Nat → Prop} (hw : swd dK dV A0 s s.heap) (g lim : Nat) (hg : g < lim) (hlim : lim ≤ 32768) (h2 : ∀ j, x2 j < 256) (P : Int32 → Prop) (hQ : P (nI (ts3 x2 lim g))) (ls : Array Slot) (hl : lv_has ls 9 [(0, .ref (ad 0)), (1, .int (nI g)), (2, .int (nI lim)), (3, .int (bI (rb x2 lim g))), (4, .int (bI (rb x2 lim (g + 1))))]) : W p l e (headSpec wX1_tokenSizeAt ({ frames := 6, cells := 0, slots := 0, locals := 135 })).room s m args below meth c s.heap [] 0 0 (MQ below (vp_Si P) args s 0 0 (fun _ => False)) (F0 m 95 ls []) := by
  have := rb_in h2 lim g
  have := rb_in h2 lim (g + 1)
  refine lv_iload_n hx hb dX1_tokenSizeAt_95 rfl (lv_at hl 1 rfl) ?_
  refine lv_iconst (v := nI 1) hx hb dX1_tokenSizeAt_96 (by decide) ?_
  refine lv_iadd hx hb dX1_tokenSizeAt_97 ?_
  refine lv_topi (fun x_1 e_2 => ?_)
  obtain rfl : x_1 = nI (g + 1) := e_2.trans (nI_add g 1)
  refine lv_istore (lv' := [(5, .int (nI (g + 1))), (0, .ref (ad 0)), (1, .int (nI g)), (2, .int (nI lim)), (3, .int (bI (rb x2 lim g))), (4, .int (bI (rb x2 lim (g + 1))))]) hx hb dX1_tokenSizeAt_98 hl (by decide) rfl (fun ls hl => ?_)
  refine lv_iload_n hx hb dX1_tokenSizeAt_100 rfl (lv_at hl 4 rfl) ?_
  refine vp_callSi (va_Run.run (va_runS (As := [.int (bI (rb x2 lim g))]) (rest := []) ⟨hx, hb, hml, hown, hts⟩ (r_isLetter l (rb x2 lim g)) (cwS 1 hts (gS (fun _ h => h) ml_X1_95 sm_X1_isLetter ini_X1 co_X1_isLetter) rfl rfl rfl pd_X1_isLetter ⟨Nat.le_of_ble_eq_true rfl, Nat.le_of_ble_eq_true rfl⟩) st_pre rfl rfl hl.1 rfl (lv_room (Nat.le_of_ble_eq_true rfl)) dX1_tokenSizeAt_101 ⟨Nat.zero_le _, Nat.zero_le _⟩)) (fun r_3 (e_4 : r_3 = b2i (isL (rb x2 lim g))) => ?_)
  subst e_4
  refine lv_if_eq (tgt := 150) hx hb dX1_tokenSizeAt_104 (by decide) (fun c_5 => ?_) (fun c_5 => ?_)
  · have c_5 := (b2i_z (isL (rb x2 lim g))).mp c_5
    refine lv_iload_n hx hb dX1_tokenSizeAt_150 rfl (lv_at hl 4 rfl) ?_
    refine vp_callSi (va_Run.run (va_runS (As := [.int (bI (rb x2 lim g))]) (rest := []) ⟨hx, hb, hml, hown, hts⟩ (r_isDigit l (rb x2 lim g)) (cwS 1 hts (gS (fun _ h => h) ml_X1_99 sm_X1_isDigit ini_X1 co_X1_isDigit) rfl rfl rfl pd_X1_isDigit ⟨Nat.le_of_ble_eq_true rfl, Nat.le_of_ble_eq_true rfl⟩) st_pre rfl rfl hl.1 rfl (lv_room (Nat.le_of_ble_eq_true rfl)) dX1_tokenSizeAt_151 ⟨Nat.zero_le _, Nat.zero_le _⟩)) (fun r_6 (e_7 : r_6 = b2i (isD (rb x2 lim g))) => ?_)
    subst e_7
    refine lv_if_ne (tgt := 171) hx hb dX1_tokenSizeAt_154 (by decide) (fun c_8 => ?_) (fun c_8 => ?_)
    · have c_8 := mt (b2i_z (isD (rb x2 lim g))).mpr c_8
      refine lv_iconst (v := nI 1) hx hb dX1_tokenSizeAt_171 (by decide) ?_
      refine lv_istore (lv' := [(6, .int (nI 1)), (5, .int (nI (g + 1))), (0, .ref (ad 0)), (1, .int (nI g)), (2, .int (nI lim)), (3, .int (bI (rb x2 lim g))), (4, .int (bI (rb x2 lim (g + 1))))]) hx hb dX1_tokenSizeAt_172 hl (by decide) rfl (fun ls hl => ?_)
      exact q_tokenSizeAt_174 hx hb hr hml hown hts hlocks hK hP hw g lim hg hlim h2 P (lim + 3) (g + 1) 1 (by omega) (by omega) (by decide) (by rw [ts3, if_neg (by rw [c_5]; decide), if_pos (Or.inl (by simpa using c_8))] at hQ; rw [if_pos rfl]; exact hQ) _ (lv_sub hl [2, 3, 4, 1, 0] rfl)
    · have c_8 := (b2i_z (isD (rb x2 lim g))).mp c_8
      refine lv_iload_n hx hb dX1_tokenSizeAt_157 rfl (lv_at hl 4 rfl) ?_
      refine lv_bipush (v := nI 46) hx hb dX1_tokenSizeAt_158 (by decide) ?_
      refine lv_icmp_ne (tgt := 291) hx hb dX1_tokenSizeAt_160 (by decide) (fun c_9 => ?_) (fun c_9 => ?_)
      · have c_9 := mt (bI_eqN (k := 46) (by omega)).mpr c_9
        refine lv_aload_n hx hb dX1_tokenSizeAt_291 rfl (lv_at hl 1 rfl) ?_
        refine lv_iload_n hx hb dX1_tokenSizeAt_292 rfl (lv_at hl 2 rfl) ?_
        refine lv_iload_n hx hb dX1_tokenSizeAt_293 rfl (lv_at hl 3 rfl) ?_
        have hwH := hw
        refine vp_callSi (va_Run.run (va_runV (As := [.int (nI g), .int (nI lim)]) (rest := []) ⟨hx, hb, hml, hown, hts⟩ (r_signSize l dC dI ct ad dK dV A0 Y x1 x2 x3 x4 x5 x6 x7 x8 x9 g lim (show g < lim by omega) (show lim ≤ 32768 by omega) h2) (cwV 2 hts (gV (fun _ h => h) ml_X1_104 im_X1_signSize se_X1_signSize ini_X1 co_X1_signSize) rfl rfl rfl pd_X1_signSize ⟨Nat.le_of_ble_eq_true rfl, Nat.le_of_ble_eq_true rfl⟩) (rm_preRW hK hP hwH) rfl rfl hl.1 rfl (lv_room (Nat.le_of_ble_eq_true rfl)) dX1_tokenSizeAt_294 ⟨Nat.zero_le _, Nat.zero_le _⟩)) (fun r_10 (e_11 : r_10 = nI (sgN (rb x2 lim g) (rb x2 lim (g + 1)) (rb x2 lim (g + 2)))) => ?_)
        subst e_11
        exact W.iret (v := nI (sgN (rb x2 lim g) (rb x2 lim (g + 1)) (rb x2 lim (g + 2)))) hx hb hr (fun t ht hW => ⟨_, rfl, (by rw [ts3, if_neg (by rw [c_5]; decide), if_neg (fun z => by rcases z with z | z; exact absurd z (by rw [c_8]; decide); have := z.1; omega)] at hQ; exact hQ), ht⟩) (fun q h => by cases h) dX1_tokenSizeAt_297
      · have c_9 := (bI_eqN (k := 46) (by omega)).mp c_9
        refine lv_iload hx hb dX1_tokenSizeAt_163 (lv_at hl 5 rfl) ?_
        refine vp_callSi (va_Run.run (va_runS (As := [.int (bI (rb x2 lim (g + 1)))]) (rest := []) ⟨hx, hb, hml, hown, hts⟩ (r_isDigit l (rb x2 lim (g + 1))) (cwS 1 hts (gS (fun _ h => h) ml_X1_99 sm_X1_isDigit ini_X1 co_X1_isDigit) rfl rfl rfl pd_X1_isDigit ⟨Nat.le_of_ble_eq_true rfl, Nat.le_of_ble_eq_true rfl⟩) st_pre rfl rfl hl.1 rfl (lv_room (Nat.le_of_ble_eq_true rfl)) dX1_tokenSizeAt_165 ⟨Nat.zero_le _, Nat.zero_le _⟩)) (fun r_12 (e_13 : r_12 = b2i (isD (rb x2 lim (g + 1)))) => ?_)
        subst e_13
        refine lv_if_eq (tgt := 291) hx hb dX1_tokenSizeAt_168 (by decide) (fun c_14 => ?_) (fun c_14 => ?_)
        · have c_14 := (b2i_z (isD (rb x2 lim (g + 1)))).mp c_14
          refine lv_aload_n hx hb dX1_tokenSizeAt_291 rfl (lv_at hl 1 rfl) ?_
          refine lv_iload_n hx hb dX1_tokenSizeAt_292 rfl (lv_at hl 2 rfl) ?_
          refine lv_iload_n hx hb dX1_tokenSizeAt_293 rfl (lv_at hl 3 rfl) ?_
          have hwH := hw
          refine vp_callSi (va_Run.run (va_runV (As := [.int (nI g), .int (nI lim)]) (rest := []) ⟨hx, hb, hml, hown, hts⟩ (r_signSize l dC dI ct ad dK dV A0 Y x1 x2 x3 x4 x5 x6 x7 x8 x9 g lim (show g < lim by omega) (show lim ≤ 32768 by omega) h2) (cwV 2 hts (gV (fun _ h => h) ml_X1_104 im_X1_signSize se_X1_signSize ini_X1 co_X1_signSize) rfl rfl rfl pd_X1_signSize ⟨Nat.le_of_ble_eq_true rfl, Nat.le_of_ble_eq_true rfl⟩) (rm_preRW hK hP hwH) rfl rfl hl.1 rfl (lv_room (Nat.le_of_ble_eq_true rfl)) dX1_tokenSizeAt_294 ⟨Nat.zero_le _, Nat.zero_le _⟩)) (fun r_15 (e_16 : r_15 = nI (sgN (rb x2 lim g) (rb x2 lim (g + 1)) (rb x2 lim (g + 2)))) => ?_)
          subst e_16
          exact W.iret (v := nI (sgN (rb x2 lim g) (rb x2 lim (g + 1)) (rb x2 lim (g + 2)))) hx hb hr (fun t ht hW => ⟨_, rfl, (by rw [ts3, if_neg (by rw [c_5]; decide), if_neg (fun z => by rcases z with z | z; exact absurd z (by rw [c_8]; decide); exact absurd z.2 (by rw [c_14]; decide))] at hQ; exact hQ), ht⟩) (fun q h => by cases h) dX1_tokenSizeAt_297
        · have c_14 := mt (b2i_z (isD (rb x2 lim (g + 1)))).mpr c_14
          refine lv_iconst (v := nI 1) hx hb dX1_tokenSizeAt_171 (by decide) ?_
          refine lv_istore (lv' := [(6, .int (nI 1)), (5, .int (nI (g + 1))), (0, .ref (ad 0)), (1, .int (nI g)), (2, .int (nI lim)), (3, .int (bI (rb x2 lim g))), (4, .int (bI (rb x2 lim (g + 1))))]) hx hb dX1_tokenSizeAt_172 hl (by decide) rfl (fun ls hl => ?_)
          exact q_tokenSizeAt_174 hx hb hr hml hown hts hlocks hK hP hw g lim hg hlim h2 P (lim + 3) (g + 1) 1 (by omega) (by omega) (by decide) (by rw [ts3, if_neg (by rw [c_5]; decide), if_pos (Or.inr ⟨by omega, by simpa using c_14⟩)] at hQ; rw [if_pos rfl]; exact hQ) _ (lv_sub hl [2, 3, 4, 1, 0] rfl)
  · have c_5 := mt (b2i_z (isL (rb x2 lim g))).mpr c_5
    exact q_tokenSizeAt_107 hx hb hr hml hown hts hlocks hK hP hw g lim hg hlim h2 P (lim + 2) (g + 1) (by omega) (by omega) (by rw [ts3, if_pos (by simpa using c_5)] at hQ; exact hQ) _ (lv_sub hl [1, 2, 3, 0] rfl)
set_option maxHeartbeats 4000000 in
set_option maxRecDepth 100000 in
theorem t_tokenSizeAt_65 {p : Program} {l : Launch} {e : Env} {s : State} {m : MethodId} {args : Array Value} {below : List Frame} {meth : Method} {c : Code} (hx : p.tables.exec = Jvm.exec) (hb : c.code = cX1_tokenSizeAt) (hr : meth.sig.returnType = (some .int)) (hml : c.maxLocals = 9) (hown : s.vm.findClass RX1 = some m.cls) (hts : ∀ w ∈ bw, w.before args s = true) (hlocks : meth.locks = false) {dC : Nat → ClassId} {dI : Nat → Nat → Nat} {ct : Nat → ClassId} {ad : Nat → Nat} {Y x1 x2 x3 x4 x5 x6 x7 x8 x9 : Nat → Nat} (hK : va_K (dC, dI) vwCl (rmT ct) s) (hP : va_P (dC, dI) vwCl (rmW ct ad (Y, x1, x2, x3, x4, x5, x6, x7, x8, x9)) s.heap) {dK dV : Nat → Nat} {A0 : Nat → Prop} (hw : swd dK dV A0 s s.heap) (g lim : Nat) (hg : g < lim) (hlim : lim ≤ 32768) (h2 : ∀ j, x2 j < 256) (P : Int32 → Prop) (hQ : P (nI (ts2 x2 lim g))) (ls : Array Slot) (hl : lv_has ls 9 [(0, .ref (ad 0)), (1, .int (nI g)), (2, .int (nI lim)), (3, .int (bI (rb x2 lim g))), (4, .int (bI (rb x2 lim (g + 1))))]) : W p l e (headSpec wX1_tokenSizeAt ({ frames := 6, cells := 0, slots := 0, locals := 135 })).room s m args below meth c s.heap [] 0 0 (MQ below (vp_Si P) args s 0 0 (fun _ => False)) (F0 m 65 ls []) := by
  have := rb_in h2 lim g
  have := rb_in h2 lim (g + 1)
  refine lv_iload_n hx hb dX1_tokenSizeAt_65 rfl (lv_at hl 3 rfl) ?_
  refine lv_bipush (v := nI 34) hx hb dX1_tokenSizeAt_66 (by decide) ?_
  refine lv_icmp_eq (tgt := 77) hx hb dX1_tokenSizeAt_68 (by decide) (fun c_1 => ?_) (fun c_1 => ?_)
  · have c_1 := (bI_eqN (k := 34) (by omega)).mp c_1
    refine lv_aload_n hx hb dX1_tokenSizeAt_77 rfl (lv_at hl 0 rfl) ?_
    refine lv_iload_n hx hb dX1_tokenSizeAt_78 rfl (lv_at hl 1 rfl) ?_
    refine lv_iload_n hx hb dX1_tokenSizeAt_79 rfl (lv_at hl 2 rfl) ?_
    refine vp_callSi (va_Run.run (va_runV (As := [.int (nI g), .int (nI lim)]) (rest := []) ⟨hx, hb, hml, hown, hts⟩ (r_quotedEnd l dC dI ct ad Y x1 x2 x3 x4 x5 x6 x7 x8 x9 g lim (show g < 32768 by omega) (show lim ≤ 32768 by omega) h2) (cwV 2 hts (gV (fun _ h => h) ml_X1_91 im_X1_quotedEnd se_X1_quotedEnd ini_X1 co_X1_quotedEnd) rfl rfl rfl pd_X1_quotedEnd ⟨Nat.le_of_ble_eq_true rfl, Nat.le_of_ble_eq_true rfl⟩) (rm_preR hK hP) rfl rfl hl.1 rfl (lv_room (Nat.le_of_ble_eq_true rfl)) dX1_tokenSizeAt_80 ⟨Nat.zero_le _, Nat.zero_le _⟩)) (fun r_2 (e_3 : r_2 = oI (qdO x2 lim g)) => ?_)
    subst e_3
    refine lv_if_le (tgt := 95) hx hb dX1_tokenSizeAt_83 (by decide) (fun c_4 => ?_) (fun c_4 => ?_)
    · have ho_5 : qdO x2 lim g = none := (oI_le0 (fun k hk => by have := qdO_b hk; omega)).mp c_4
      exact t_tokenSizeAt_95 hx hb hr hml hown hts hlocks hK hP hw g lim hg hlim h2 P (by rw [ts2_n (fun _ => ho_5)] at hQ; exact hQ) _ (lv_sub hl [0, 1, 2, 3, 4] rfl)
    · obtain ⟨w_7, ho_6⟩ : ∃ k, qdO x2 lim g = some k := Option.ne_none_iff_exists'.mp (fun z => c_4 (by rw [z]; decide))
      have := qdO_b ho_6
      refine lv_aload_n hx hb dX1_tokenSizeAt_86 rfl (lv_at hl 0 rfl) ?_
      refine lv_iload_n hx hb dX1_tokenSizeAt_87 rfl (lv_at hl 1 rfl) ?_
      refine lv_iload_n hx hb dX1_tokenSizeAt_88 rfl (lv_at hl 2 rfl) ?_
      refine vp_callSi (va_Run.run (va_runV (As := [.int (nI g), .int (nI lim)]) (rest := []) ⟨hx, hb, hml, hown, hts⟩ (r_quotedEnd l dC dI ct ad Y x1 x2 x3 x4 x5 x6 x7 x8 x9 g lim (show g < 32768 by omega) (show lim ≤ 32768 by omega) h2) (cwV 2 hts (gV (fun _ h => h) ml_X1_91 im_X1_quotedEnd se_X1_quotedEnd ini_X1 co_X1_quotedEnd) rfl rfl rfl pd_X1_quotedEnd ⟨Nat.le_of_ble_eq_true rfl, Nat.le_of_ble_eq_true rfl⟩) (rm_preR hK hP) rfl rfl hl.1 rfl (lv_room (Nat.le_of_ble_eq_true rfl)) dX1_tokenSizeAt_89 ⟨Nat.zero_le _, Nat.zero_le _⟩)) (fun r_8 (e_9 : r_8 = oI (qdO x2 lim g)) => ?_)
      subst e_9
      refine lv_topi (fun x_10 e_11 => ?_)
      obtain rfl : x_10 = nI w_7 := e_11.trans (by rw [ho_6]; rfl)
      refine lv_iload_n hx hb dX1_tokenSizeAt_92 rfl (lv_at hl 1 rfl) ?_
      refine lv_isub hx hb dX1_tokenSizeAt_93 ?_
      refine lv_topi (fun x_12 e_13 => ?_)
      obtain rfl : x_12 = nI (w_7 - g) := e_13.trans (pk_sub (by omega))
      exact W.iret (v := nI (w_7 - g)) hx hb hr (fun t ht hW => ⟨_, rfl, (by rw [ts2_s (by omega) ho_6] at hQ; exact hQ), ht⟩) (fun q h => by cases h) dX1_tokenSizeAt_94
  · have c_1 := mt (bI_eqN (k := 34) (by omega)).mpr c_1
    refine lv_iload_n hx hb dX1_tokenSizeAt_71 rfl (lv_at hl 3 rfl) ?_
    refine lv_bipush (v := nI 39) hx hb dX1_tokenSizeAt_72 (by decide) ?_
    refine lv_icmp_ne (tgt := 95) hx hb dX1_tokenSizeAt_74 (by decide) (fun c_14 => ?_) (fun c_14 => ?_)
    · have c_14 := mt (bI_eqN (k := 39) (by omega)).mpr c_14
      exact t_tokenSizeAt_95 hx hb hr hml hown hts hlocks hK hP hw g lim hg hlim h2 P (by rw [ts2_n (fun z => by omega)] at hQ; exact hQ) _ (lv_sub hl [0, 1, 2, 3, 4] rfl)
    · have c_14 := (bI_eqN (k := 39) (by omega)).mp c_14
      refine lv_aload_n hx hb dX1_tokenSizeAt_77 rfl (lv_at hl 0 rfl) ?_
      refine lv_iload_n hx hb dX1_tokenSizeAt_78 rfl (lv_at hl 1 rfl) ?_
      refine lv_iload_n hx hb dX1_tokenSizeAt_79 rfl (lv_at hl 2 rfl) ?_
      refine vp_callSi (va_Run.run (va_runV (As := [.int (nI g), .int (nI lim)]) (rest := []) ⟨hx, hb, hml, hown, hts⟩ (r_quotedEnd l dC dI ct ad Y x1 x2 x3 x4 x5 x6 x7 x8 x9 g lim (show g < 32768 by omega) (show lim ≤ 32768 by omega) h2) (cwV 2 hts (gV (fun _ h => h) ml_X1_91 im_X1_quotedEnd se_X1_quotedEnd ini_X1 co_X1_quotedEnd) rfl rfl rfl pd_X1_quotedEnd ⟨Nat.le_of_ble_eq_true rfl, Nat.le_of_ble_eq_true rfl⟩) (rm_preR hK hP) rfl rfl hl.1 rfl (lv_room (Nat.le_of_ble_eq_true rfl)) dX1_tokenSizeAt_80 ⟨Nat.zero_le _, Nat.zero_le _⟩)) (fun r_15 (e_16 : r_15 = oI (qdO x2 lim g)) => ?_)
      subst e_16
      refine lv_if_le (tgt := 95) hx hb dX1_tokenSizeAt_83 (by decide) (fun c_17 => ?_) (fun c_17 => ?_)
      · have ho_18 : qdO x2 lim g = none := (oI_le0 (fun k hk => by have := qdO_b hk; omega)).mp c_17
        exact t_tokenSizeAt_95 hx hb hr hml hown hts hlocks hK hP hw g lim hg hlim h2 P (by rw [ts2_n (fun _ => ho_18)] at hQ; exact hQ) _ (lv_sub hl [0, 1, 2, 3, 4] rfl)
      · obtain ⟨w_20, ho_19⟩ : ∃ k, qdO x2 lim g = some k := Option.ne_none_iff_exists'.mp (fun z => c_17 (by rw [z]; decide))
        have := qdO_b ho_19
        refine lv_aload_n hx hb dX1_tokenSizeAt_86 rfl (lv_at hl 0 rfl) ?_
        refine lv_iload_n hx hb dX1_tokenSizeAt_87 rfl (lv_at hl 1 rfl) ?_
        refine lv_iload_n hx hb dX1_tokenSizeAt_88 rfl (lv_at hl 2 rfl) ?_
        refine vp_callSi (va_Run.run (va_runV (As := [.int (nI g), .int (nI lim)]) (rest := []) ⟨hx, hb, hml, hown, hts⟩ (r_quotedEnd l dC dI ct ad Y x1 x2 x3 x4 x5 x6 x7 x8 x9 g lim (show g < 32768 by omega) (show lim ≤ 32768 by omega) h2) (cwV 2 hts (gV (fun _ h => h) ml_X1_91 im_X1_quotedEnd se_X1_quotedEnd ini_X1 co_X1_quotedEnd) rfl rfl rfl pd_X1_quotedEnd ⟨Nat.le_of_ble_eq_true rfl, Nat.le_of_ble_eq_true rfl⟩) (rm_preR hK hP) rfl rfl hl.1 rfl (lv_room (Nat.le_of_ble_eq_true rfl)) dX1_tokenSizeAt_89 ⟨Nat.zero_le _, Nat.zero_le _⟩)) (fun r_21 (e_22 : r_21 = oI (qdO x2 lim g)) => ?_)
        subst e_22
        refine lv_topi (fun x_23 e_24 => ?_)
        obtain rfl : x_23 = nI w_20 := e_24.trans (by rw [ho_19]; rfl)
        refine lv_iload_n hx hb dX1_tokenSizeAt_92 rfl (lv_at hl 1 rfl) ?_
        refine lv_isub hx hb dX1_tokenSizeAt_93 ?_
        refine lv_topi (fun x_25 e_26 => ?_)
        obtain rfl : x_25 = nI (w_20 - g) := e_26.trans (pk_sub (by omega))
        exact W.iret (v := nI (w_20 - g)) hx hb hr (fun t ht hW => ⟨_, rfl, (by rw [ts2_s (by omega) ho_19] at hQ; exact hQ), ht⟩) (fun q h => by cases h) dX1_tokenSizeAt_94
set_option maxHeartbeats 4000000 in
set_option maxRecDepth 100000 in
theorem r_tokenSizeAt (l : Launch) (dC : Nat → ClassId) (dI : Nat → Nat → Nat) (ct : Nat → ClassId) (ad : Nat → Nat) (dK dV : Nat → Nat) (A0 : Nat → Prop) (Y x1 x2 x3 x4 x5 x6 x7 x8 x9 : Nat → Nat) (g : Nat) (lim : Nat) (hg : g < lim) (hlim : lim ≤ 32768) (h2 : ∀ j, x2 j < 256) : Met l yX1_tokenSizeAt wX1_tokenSizeAt ({ frames := 6, cells := 0, slots := 0, locals := 135 }) (va_Pc [.ref (ad 0), .int (nI g), .int (nI lim)] (fun U => rmR dC dI ct ad (Y, x1, x2, x3, x4, x5, x6, x7, x8, x9) U ∧ swd dK dV A0 U U.heap)) (vp_Si (fun r => r = nI (ts1 x2 lim g))) 0 0 (fun _ => False) := by
  refine Met.ofW (cc := cX1_tokenSizeAt) (maxL := 9) (ret := (some .int)) (by decide) rfl ?_
  intro p e s m args below meth c s₁ B hml hv
  obtain ⟨rfl, ⟨hP, hK⟩, hw⟩ := hv
  have hx := B.exec
  have hb := B.bytes
  have hr := B.returns
  have hts : ∀ w ∈ bw, w.before _ s = true := fun w h => atoms_spec (ws := wX1_tokenSizeAt) B.pre w (bc w h)
  have hown : s.vm.findClass RX1 = some m.cls := findClass_of_methodNamed B.named
  have hlocks := B.notSynchronized
  have hl := lv_entry ([.ref (ad 0), .int (nI g), .int (nI lim)]) (n := 9) (Nat.le_of_ble_eq_true rfl)
  rw [lg_entry_eq]
  generalize (lg_sl ([.ref (ad 0), .int (nI g), .int (nI lim)]) ++ List.replicate (9 - (lg_sl ([.ref (ad 0), .int (nI g), .int (nI lim)])).length) Slot.unset).toArray = ls at hl ⊢
  have hl : lv_has ls 9 [(0, .ref (ad 0)), (1, .int (nI g)), (2, .int (nI lim))] := hl
  refine lv_aload_n hx hb dX1_tokenSizeAt_0 rfl (lv_at hl 0 rfl) ?_
  refine va_get (D := (dC, dI)) (ci := 1) (v := .ref (ad 2)) (C := RX1) (T := TX1) (N := 20) hx hb hts inX1 hown hK hP 0 rfl rfl 9 (by decide) (hts _ fl_X1_14) (fun _ h9 => h9) rfl dX1_tokenSizeAt_1 ?_
  refine lv_iload_n hx hb dX1_tokenSizeAt_4 rfl (lv_at hl 1 rfl) ?_
  refine lv_iload_n hx hb dX1_tokenSizeAt_5 rfl (lv_at hl 2 rfl) ?_
  refine vp_callSi (va_Run.run (va_runS (As := [.ref (ad 2), .int (nI g), .int (nI lim)]) (rest := []) ⟨hx, hb, hml, hown, hts⟩ (r_byteAt l dC dI ct ad Y x1 x2 x3 x4 x5 x6 x7 x8 x9 g lim (show g < 2 ^ 31 by omega) (show lim ≤ 32768 by omega) h2) (cwS 3 hts (gS (fun _ h => h) ml_X1_79 sm_X1_byteAt ini_X1 co_X1_byteAt) rfl rfl rfl pd_X1_byteAt ⟨Nat.le_of_ble_eq_true rfl, Nat.le_of_ble_eq_true rfl⟩) (rm_preRS hK hP) rfl rfl hl.1 rfl (lv_room (Nat.le_of_ble_eq_true rfl)) dX1_tokenSizeAt_6 ⟨Nat.zero_le _, Nat.zero_le _⟩)) (fun r_1 (e_2 : r_1 = bI (rb x2 lim g)) => ?_)
  subst e_2
  have := rb_in h2 lim g
  refine lv_istore_n (lv' := [(3, .int (bI (rb x2 lim g))), (0, .ref (ad 0)), (1, .int (nI g)), (2, .int (nI lim))]) hx hb dX1_tokenSizeAt_9 rfl hl (by decide) rfl (fun ls hl => ?_)
  refine lv_aload_n hx hb dX1_tokenSizeAt_10 rfl (lv_at hl 1 rfl) ?_
  refine va_get (D := (dC, dI)) (ci := 1) (v := .ref (ad 2)) (C := RX1) (T := TX1) (N := 20) hx hb hts inX1 hown hK hP 0 rfl rfl 9 (by decide) (hts _ fl_X1_14) (fun _ h9 => h9) rfl dX1_tokenSizeAt_11 ?_
  refine lv_iload_n hx hb dX1_tokenSizeAt_14 rfl (lv_at hl 2 rfl) ?_
  refine lv_iconst (v := nI 1) hx hb dX1_tokenSizeAt_15 (by decide) ?_
  refine lv_iadd hx hb dX1_tokenSizeAt_16 ?_
  refine lv_topi (fun x_3 e_4 => ?_)
  obtain rfl : x_3 = nI (g + 1) := e_4.trans (nI_add g 1)
  refine lv_iload_n hx hb dX1_tokenSizeAt_17 rfl (lv_at hl 3 rfl) ?_
  refine vp_callSi (va_Run.run (va_runS (As := [.ref (ad 2), .int (nI (g + 1)), .int (nI lim)]) (rest := []) ⟨hx, hb, hml, hown, hts⟩ (r_byteAt l dC dI ct ad Y x1 x2 x3 x4 x5 x6 x7 x8 x9 (g + 1) lim (show g + 1 < 2 ^ 31 by omega) (show lim ≤ 32768 by omega) h2) (cwS 3 hts (gS (fun _ h => h) ml_X1_79 sm_X1_byteAt ini_X1 co_X1_byteAt) rfl rfl rfl pd_X1_byteAt ⟨Nat.le_of_ble_eq_true rfl, Nat.le_of_ble_eq_true rfl⟩) (rm_preRS hK hP) rfl rfl hl.1 rfl (lv_room (Nat.le_of_ble_eq_true rfl)) dX1_tokenSizeAt_18 ⟨Nat.zero_le _, Nat.zero_le _⟩)) (fun r_5 (e_6 : r_5 = bI (rb x2 lim (g + 1))) => ?_)
  subst e_6
  have := rb_in h2 lim (g + 1)
  refine lv_istore (lv' := [(4, .int (bI (rb x2 lim (g + 1)))), (3, .int (bI (rb x2 lim g))), (0, .ref (ad 0)), (1, .int (nI g)), (2, .int (nI lim))]) hx hb dX1_tokenSizeAt_21 hl (by decide) rfl (fun ls hl => ?_)
  refine lv_iload_n hx hb dX1_tokenSizeAt_23 rfl (lv_at hl 1 rfl) ?_
  refine lv_bipush (v := nI 76) hx hb dX1_tokenSizeAt_24 (by decide) ?_
  refine lv_icmp_ne (tgt := 65) hx hb dX1_tokenSizeAt_26 (by decide) (fun c_7 => ?_) (fun c_7 => ?_)
  · have c_7 := mt (bI_eqN (k := 76) (by omega)).mpr c_7
    exact t_tokenSizeAt_65 hx hb hr hml hown hts hlocks hK hP hw g lim hg hlim h2 (fun r => r = nI (ts1 x2 lim g)) (by rw [ts1_n (fun z => by omega)]) _ (lv_sub hl [2, 3, 4, 1, 0] rfl)
  · have c_7 := (bI_eqN (k := 76) (by omega)).mp c_7
    refine lv_iload hx hb dX1_tokenSizeAt_29 (lv_at hl 0 rfl) ?_
    refine lv_bipush (v := nI 34) hx hb dX1_tokenSizeAt_31 (by decide) ?_
    refine lv_icmp_eq (tgt := 43) hx hb dX1_tokenSizeAt_33 (by decide) (fun c_8 => ?_) (fun c_8 => ?_)
    · have c_8 := (bI_eqN (k := 34) (by omega)).mp c_8
      refine lv_aload_n hx hb dX1_tokenSizeAt_43 rfl (lv_at hl 2 rfl) ?_
      refine lv_iload_n hx hb dX1_tokenSizeAt_44 rfl (lv_at hl 3 rfl) ?_
      refine lv_iconst (v := nI 1) hx hb dX1_tokenSizeAt_45 (by decide) ?_
      refine lv_iadd hx hb dX1_tokenSizeAt_46 ?_
      refine lv_topi (fun x_9 e_10 => ?_)
      obtain rfl : x_9 = nI (g + 1) := e_10.trans (nI_add g 1)
      refine lv_iload_n hx hb dX1_tokenSizeAt_47 rfl (lv_at hl 4 rfl) ?_
      refine vp_callSi (va_Run.run (va_runV (As := [.int (nI (g + 1)), .int (nI lim)]) (rest := []) ⟨hx, hb, hml, hown, hts⟩ (r_quotedEnd l dC dI ct ad Y x1 x2 x3 x4 x5 x6 x7 x8 x9 (g + 1) lim (show g + 1 < 32768 by omega) (show lim ≤ 32768 by omega) h2) (cwV 2 hts (gV (fun _ h => h) ml_X1_91 im_X1_quotedEnd se_X1_quotedEnd ini_X1 co_X1_quotedEnd) rfl rfl rfl pd_X1_quotedEnd ⟨Nat.le_of_ble_eq_true rfl, Nat.le_of_ble_eq_true rfl⟩) (rm_preR hK hP) rfl rfl hl.1 rfl (lv_room (Nat.le_of_ble_eq_true rfl)) dX1_tokenSizeAt_48 ⟨Nat.zero_le _, Nat.zero_le _⟩)) (fun r_11 (e_12 : r_11 = oI (qdO x2 lim (g + 1))) => ?_)
      subst e_12
      refine lv_if_le (tgt := 65) hx hb dX1_tokenSizeAt_51 (by decide) (fun c_13 => ?_) (fun c_13 => ?_)
      · have ho_14 : qdO x2 lim (g + 1) = none := (oI_le0 (fun k hk => by have := qdO_b hk; omega)).mp c_13
        exact t_tokenSizeAt_65 hx hb hr hml hown hts hlocks hK hP hw g lim hg hlim h2 (fun r => r = nI (ts1 x2 lim g)) (by rw [ts1_n (fun _ => ho_14)]) _ (lv_sub hl [2, 3, 4, 1, 0] rfl)
      · obtain ⟨w_16, ho_15⟩ : ∃ k, qdO x2 lim (g + 1) = some k := Option.ne_none_iff_exists'.mp (fun z => c_13 (by rw [z]; decide))
        have := qdO_b ho_15
        refine lv_aload_n hx hb dX1_tokenSizeAt_54 rfl (lv_at hl 2 rfl) ?_
        refine lv_iload_n hx hb dX1_tokenSizeAt_55 rfl (lv_at hl 3 rfl) ?_
        refine lv_iconst (v := nI 1) hx hb dX1_tokenSizeAt_56 (by decide) ?_
        refine lv_iadd hx hb dX1_tokenSizeAt_57 ?_
        refine lv_topi (fun x_17 e_18 => ?_)
        obtain rfl : x_17 = nI (g + 1) := e_18.trans (nI_add g 1)
        refine lv_iload_n hx hb dX1_tokenSizeAt_58 rfl (lv_at hl 4 rfl) ?_
        refine vp_callSi (va_Run.run (va_runV (As := [.int (nI (g + 1)), .int (nI lim)]) (rest := []) ⟨hx, hb, hml, hown, hts⟩ (r_quotedEnd l dC dI ct ad Y x1 x2 x3 x4 x5 x6 x7 x8 x9 (g + 1) lim (show g + 1 < 32768 by omega) (show lim ≤ 32768 by omega) h2) (cwV 2 hts (gV (fun _ h => h) ml_X1_91 im_X1_quotedEnd se_X1_quotedEnd ini_X1 co_X1_quotedEnd) rfl rfl rfl pd_X1_quotedEnd ⟨Nat.le_of_ble_eq_true rfl, Nat.le_of_ble_eq_true rfl⟩) (rm_preR hK hP) rfl rfl hl.1 rfl (lv_room (Nat.le_of_ble_eq_true rfl)) dX1_tokenSizeAt_59 ⟨Nat.zero_le _, Nat.zero_le _⟩)) (fun r_19 (e_20 : r_19 = oI (qdO x2 lim (g + 1))) => ?_)
        subst e_20
        refine lv_topi (fun x_21 e_22 => ?_)
        obtain rfl : x_21 = nI w_16 := e_22.trans (by rw [ho_15]; rfl)
        refine lv_iload_n hx hb dX1_tokenSizeAt_62 rfl (lv_at hl 3 rfl) ?_
        refine lv_isub hx hb dX1_tokenSizeAt_63 ?_
        refine lv_topi (fun x_23 e_24 => ?_)
        obtain rfl : x_23 = nI (w_16 - g) := e_24.trans (pk_sub (by omega))
        exact W.iret (v := nI (w_16 - g)) hx hb hr (fun t ht hW => ⟨_, rfl, (by rw [ts1_s (by omega) ho_15]), ht⟩) (fun q h => by cases h) dX1_tokenSizeAt_64
    · have c_8 := mt (bI_eqN (k := 34) (by omega)).mpr c_8
      refine lv_iload hx hb dX1_tokenSizeAt_36 (lv_at hl 0 rfl) ?_
      refine lv_bipush (v := nI 39) hx hb dX1_tokenSizeAt_38 (by decide) ?_
      refine lv_icmp_ne (tgt := 65) hx hb dX1_tokenSizeAt_40 (by decide) (fun c_25 => ?_) (fun c_25 => ?_)
      · have c_25 := mt (bI_eqN (k := 39) (by omega)).mpr c_25
        exact t_tokenSizeAt_65 hx hb hr hml hown hts hlocks hK hP hw g lim hg hlim h2 (fun r => r = nI (ts1 x2 lim g)) (by rw [ts1_n (fun z => by omega)]) _ (lv_sub hl [2, 3, 4, 1, 0] rfl)
      · have c_25 := (bI_eqN (k := 39) (by omega)).mp c_25
        refine lv_aload_n hx hb dX1_tokenSizeAt_43 rfl (lv_at hl 2 rfl) ?_
        refine lv_iload_n hx hb dX1_tokenSizeAt_44 rfl (lv_at hl 3 rfl) ?_
        refine lv_iconst (v := nI 1) hx hb dX1_tokenSizeAt_45 (by decide) ?_
        refine lv_iadd hx hb dX1_tokenSizeAt_46 ?_
        refine lv_topi (fun x_26 e_27 => ?_)
        obtain rfl : x_26 = nI (g + 1) := e_27.trans (nI_add g 1)
        refine lv_iload_n hx hb dX1_tokenSizeAt_47 rfl (lv_at hl 4 rfl) ?_
        refine vp_callSi (va_Run.run (va_runV (As := [.int (nI (g + 1)), .int (nI lim)]) (rest := []) ⟨hx, hb, hml, hown, hts⟩ (r_quotedEnd l dC dI ct ad Y x1 x2 x3 x4 x5 x6 x7 x8 x9 (g + 1) lim (show g + 1 < 32768 by omega) (show lim ≤ 32768 by omega) h2) (cwV 2 hts (gV (fun _ h => h) ml_X1_91 im_X1_quotedEnd se_X1_quotedEnd ini_X1 co_X1_quotedEnd) rfl rfl rfl pd_X1_quotedEnd ⟨Nat.le_of_ble_eq_true rfl, Nat.le_of_ble_eq_true rfl⟩) (rm_preR hK hP) rfl rfl hl.1 rfl (lv_room (Nat.le_of_ble_eq_true rfl)) dX1_tokenSizeAt_48 ⟨Nat.zero_le _, Nat.zero_le _⟩)) (fun r_28 (e_29 : r_28 = oI (qdO x2 lim (g + 1))) => ?_)
        subst e_29
        refine lv_if_le (tgt := 65) hx hb dX1_tokenSizeAt_51 (by decide) (fun c_30 => ?_) (fun c_30 => ?_)
        · have ho_31 : qdO x2 lim (g + 1) = none := (oI_le0 (fun k hk => by have := qdO_b hk; omega)).mp c_30
          exact t_tokenSizeAt_65 hx hb hr hml hown hts hlocks hK hP hw g lim hg hlim h2 (fun r => r = nI (ts1 x2 lim g)) (by rw [ts1_n (fun _ => ho_31)]) _ (lv_sub hl [2, 3, 4, 1, 0] rfl)
        · obtain ⟨w_33, ho_32⟩ : ∃ k, qdO x2 lim (g + 1) = some k := Option.ne_none_iff_exists'.mp (fun z => c_30 (by rw [z]; decide))
          have := qdO_b ho_32
          refine lv_aload_n hx hb dX1_tokenSizeAt_54 rfl (lv_at hl 2 rfl) ?_
          refine lv_iload_n hx hb dX1_tokenSizeAt_55 rfl (lv_at hl 3 rfl) ?_
          refine lv_iconst (v := nI 1) hx hb dX1_tokenSizeAt_56 (by decide) ?_
          refine lv_iadd hx hb dX1_tokenSizeAt_57 ?_
          refine lv_topi (fun x_34 e_35 => ?_)
          obtain rfl : x_34 = nI (g + 1) := e_35.trans (nI_add g 1)
          refine lv_iload_n hx hb dX1_tokenSizeAt_58 rfl (lv_at hl 4 rfl) ?_
          refine vp_callSi (va_Run.run (va_runV (As := [.int (nI (g + 1)), .int (nI lim)]) (rest := []) ⟨hx, hb, hml, hown, hts⟩ (r_quotedEnd l dC dI ct ad Y x1 x2 x3 x4 x5 x6 x7 x8 x9 (g + 1) lim (show g + 1 < 32768 by omega) (show lim ≤ 32768 by omega) h2) (cwV 2 hts (gV (fun _ h => h) ml_X1_91 im_X1_quotedEnd se_X1_quotedEnd ini_X1 co_X1_quotedEnd) rfl rfl rfl pd_X1_quotedEnd ⟨Nat.le_of_ble_eq_true rfl, Nat.le_of_ble_eq_true rfl⟩) (rm_preR hK hP) rfl rfl hl.1 rfl (lv_room (Nat.le_of_ble_eq_true rfl)) dX1_tokenSizeAt_59 ⟨Nat.zero_le _, Nat.zero_le _⟩)) (fun r_36 (e_37 : r_36 = oI (qdO x2 lim (g + 1))) => ?_)
          subst e_37
          refine lv_topi (fun x_38 e_39 => ?_)
          obtain rfl : x_38 = nI w_33 := e_39.trans (by rw [ho_32]; rfl)
          refine lv_iload_n hx hb dX1_tokenSizeAt_62 rfl (lv_at hl 3 rfl) ?_
          refine lv_isub hx hb dX1_tokenSizeAt_63 ?_
          refine lv_topi (fun x_40 e_41 => ?_)
          obtain rfl : x_40 = nI (w_33 - g) := e_41.trans (pk_sub (by omega))
          exact W.iret (v := nI (w_33 - g)) hx hb hr (fun t ht hW => ⟨_, rfl, (by rw [ts1_s (by omega) ho_32]), ht⟩) (fun q h => by cases h) dX1_tokenSizeAt_64
