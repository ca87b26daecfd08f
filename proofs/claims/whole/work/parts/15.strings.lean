/-! the String constants (by their number), and what the JDK's String methods answer of them -/
def lS : List Nat := [9, 40, 25, 4, 8, 12, 25]
def bS : List (List Int32) := [[46, 46, 46, 60, 60, 61, 62, 62, 61], [45, 62, 43, 43, 45, 45, 60, 60, 62, 62, 60, 61, 62, 61, 61, 61, 33, 61, 38, 38, 124, 124, 42, 61, 47, 61, 37, 61, 43, 61, 45, 61, 38, 61, 94, 61, 124, 61, 35, 35], [35, 91, 93, 40, 41, 123, 125, 46, 38, 42, 43, 45, 126, 33, 47, 37, 60, 62, 94, 124, 63, 58, 59, 61, 44], [101, 69, 112, 80], [43, 45, 60, 62, 61, 38, 124, 35], [60, 62, 61, 33, 42, 47, 37, 43, 45, 38, 94, 124], [35, 91, 93, 40, 41, 123, 125, 46, 38, 42, 43, 45, 126, 33, 47, 37, 60, 62, 94, 124, 63, 58, 61, 44, 59]]
def nS : List (List Nat) := [[46, 46, 46, 60, 60, 61, 62, 62, 61], [45, 62, 43, 43, 45, 45, 60, 60, 62, 62, 60, 61, 62, 61, 61, 61, 33, 61, 38, 38, 124, 124, 42, 61, 47, 61, 37, 61, 43, 61, 45, 61, 38, 61, 94, 61, 124, 61, 35, 35], [35, 91, 93, 40, 41, 123, 125, 46, 38, 42, 43, 45, 126, 33, 47, 37, 60, 62, 94, 124, 63, 58, 59, 61, 44], [101, 69, 112, 80], [43, 45, 60, 62, 61, 38, 124, 35], [60, 62, 61, 33, 42, 47, 37, 43, 45, 38, 94, 124], [35, 91, 93, 40, 41, 123, 125, 46, 38, 42, 43, 45, 126, 33, 47, 37, 60, 62, 94, 124, 63, 58, 61, 44, 59]]
def cS (i j : Nat) : Nat := (nS.getD i []).getD j 0
theorem bS_n : ∀ i, i < 7 → ∀ j, j < lS.getD i 0 → (bS.getD i []).getD j 0 = nI (cS i j) ∧ cS i j < 128 := by decide +kernel
theorem lS_b : ∀ i, i < 7 → lS.getD i 0 < 64 := by decide +kernel
def swd (dK dV : Nat → Nat) (A0 : Nat → Prop) (U : State) (H : Heap) : Prop := vk_S 7 lS bS dK dV A0 U H ∧ va_Z "java/lang/String" "COMPACT_STRINGS" "Z" (.int 1) A0 U H ∧ va_Zq "jdk/internal/util/Preconditions" "SIOOBE_FORMATTER" "Ljava/util/function/BiFunction;" A0 U H ∧ vk_R RX0 161 "...<<=>>=" (dK 0) U ∧ vk_R RX0 167 "->++--<<>><=>===!=&&||*=/=%=+=-=&=^=|=##" (dK 1) U ∧ vk_R RX0 169 "#[](){}.&*+-~!/%<>^|?:;=," (dK 2) U ∧ vk_R RX1 102 "eEpP" (dK 3) U ∧ vk_R RX1 83 "+-<>=&|#" (dK 4) U ∧ vk_R RX1 89 "<>=!*/%+-&^|" (dK 5) U ∧ vk_R RX1 139 "#[](){}.&*+-~!/%<>^|?:=,;" (dK 6) U
theorem swd.warm {dK dV : Nat → Nat} {A0 : Nat → Prop} {s U : State} {H : Heap} (hW : s.WarmedH U.vm) (h : swd dK dV A0 s H) : swd dK dV A0 U H := by
  obtain ⟨h1, h2, h3, r0, r1, r2, r3, r4, r5, r6⟩ := h
  exact ⟨h1.moved hW.alike, h2.moved hW.alike, h3.moved hW.alike, r0.warm hW, r1.warm hW, r2.warm hW, r3.warm hW, r4.warm hW, r5.warm hW, r6.warm hW⟩
theorem swd.call {dK dV : Nat → Nat} {A0 : Nat → Prop} {U : State} {g : JFrame} {mk : MethodId} {a : Array Value} {H : Heap} (h : swd dK dV A0 U H) : swd dK dV A0 (U.calling g mk a) H := by
  obtain ⟨h1, h2, h3, r0, r1, r2, r3, r4, r5, r6⟩ := h
  have al := Vm.Alike.refl U.vm
  exact ⟨vk_S.moved (u := U) (U := U.calling g mk a) al h1, va_Z.moved (u := U) (U := U.calling g mk a) al h2, va_Zq.moved (u := U) (U := U.calling g mk a) al h3, r0.same rfl, r1.same rfl, r2.same rfl, r3.same rfl, r4.same rfl, r5.same rfl, r6.same rfl⟩
theorem swd.kept {dK dV : Nat → Nat} {A0 : Nat → Prop} {U : State} {H H1 : Heap} (h : swd dK dV A0 U H) (hq : ∀ a : Nat, a < H.size → ¬ A0 a → H1[a]? = H[a]?) : swd dK dV A0 U H1 := by
  obtain ⟨h1, h2, h3, hr⟩ := h
  exact ⟨h1.kept hq, h2.kept hq, h3.kept hq, hr⟩
theorem sw_preS {dK dV : Nat → Nat} {A0 : Nat → Prop} {s : State} {H : Heap} {As : List Value} (h : swd dK dV A0 s H) : PreS s H (va_Pc As (fun U => swd dK dV A0 U U.heap)) As :=
  ⟨fun a U g mk q => ⟨q.1, q.2.call⟩, fun U hU hW => ⟨rfl, by show swd dK dV A0 U U.heap; rw [hU]; exact h.warm hW⟩⟩
theorem sw_preV {dK dV : Nat → Nat} {A0 : Nat → Prop} {s : State} {H : Heap} {As : List Value} (h : swd dK dV A0 s H) {i : Nat} (hi : i < 7) : PreV s H RJ0 (dK i) (va_Pc (.ref (dK i) :: As) (fun U => swd dK dV A0 U U.heap)) As :=
  ⟨fun a U g mk q => ⟨q.1, q.2.call⟩, by obtain ⟨cell, h1, h2, h3, -⟩ := (h.1.1 i hi).1; exact ⟨cell, h1, h2, h3⟩, fun U hU hW => ⟨rfl, by show swd dK dV A0 U U.heap; rw [hU]; exact h.warm hW⟩⟩
theorem gT {Ts : List Cond} (hT : ∀ w ∈ bw, w ∈ Ts) {own : String} {idx n : Nat} {y : MethodName} {c : ByteArray} {r : Option FieldType} (h1 : Cond.methodLink own idx y ∈ bw) (h2 : Cond.static y ∈ bw) (h4 : Cond.initialized y.cls ∈ bw) (h5 : Cond.code y c n r ∈ bw) : GoodIn Ts (va_wsS own idx y (Cond.code y c n r :: bw)) := by
  intro w h
  unfold va_wsS at h
  rcases List.mem_append.mp h with h | h
  · have hw : w ∈ bw := by
      rcases List.mem_cons.mp h with rfl | h
      · exact h1
      rcases List.mem_cons.mp h with rfl | h
      · exact h2
      rcases List.mem_cons.mp h with rfl | h
      · exact h4
      cases h
    exact ⟨hT w hw, bw_good hw⟩
  · exact gC hT h5 w h
theorem chr_n {n : Nat} (h : n < 256) : ((nI n &&& nI 255).toUInt32 % 65536).toInt32 = nI n := by
  rw [nI_mask n 8 (P := 256) (by decide) (by decide), Nat.mod_eq_of_lt h, pk_char, pk_tn (by omega), Nat.mod_eq_of_lt (by omega)]
theorem lm_preW {s : State} {H : Heap} {dC : Nat → ClassId} {dI : Nat → Nat → Nat} {cA : ClassId} {a0 a1 a2 : Nat} {u : lmU} {A : Nat → Prop} {dK dV : Nat → Nat} {A0 : Nat → Prop} {As : List Value} (hK : va_K (dC, dI) vwCl [(cA, .long)] s) (hP : va_P (dC, dI) vwCl (lmW cA a0 a1 a2 u) H) (hD : va_D A (lmW cA a0 a1 a2 u)) (hw : swd dK dV A0 s H) : PreV s H RX0 a0 (va_Pc (.ref a0 :: As) (fun U => lmP dC dI cA a0 a1 a2 H.size u U ∧ swd dK dV A0 U U.heap)) As :=
  ⟨fun a U g mk q => by obtain ⟨q0, ⟨q1, qP, qK, qD⟩, qw⟩ := q; exact ⟨q0, ⟨q1, qP, va_K.moved (u := U) (U := U.calling g mk a) (Vm.Alike.refl U.vm) qK, qD⟩, qw.call⟩, va_recv hK hP (ci := 0) (q0 := 0) rfl rfl, fun U hU hW => ⟨rfl, ⟨by rw [hU], by rw [hU]; exact hP, va_K.moved hW.alike hK, hD.weaken (fun _ _ _ _ => trivial)⟩, by rw [hU]; exact hw.warm hW⟩⟩
set_option maxHeartbeats 4000000 in
set_option maxRecDepth 100000 in
theorem cj_J0_coder (l : Launch) (dK dV : Nat → Nat) (A0 : Nat → Prop) (i : Nat) (hi : i < 7) : Met l yJ0_coder wJ0_coder ({ frames := 0, cells := 0, slots := 0, locals := 0 }) (va_Pc [.ref (dK i)] (fun U => swd dK dV A0 U U.heap)) (vp_Si (fun r => r = 0)) 0 0 (fun _ => False) := by
  refine Met.ofW (cc := cJ0_coder) (maxL := 1) (ret := (some .byte)) (by decide) rfl ?_
  intro p e s m args below meth c s₁ B hml hv
  obtain ⟨rfl, hw⟩ := hv
  have hx := B.exec
  have hb := B.bytes
  have hr := B.returns
  have hts : ∀ w ∈ bw, w.before _ s = true := fun w h => atoms_spec (ws := wJ0_coder) B.pre w (bc w h)
  have hown : s.vm.findClass RJ0 = some m.cls := findClass_of_methodNamed B.named
  have hlocks := B.notSynchronized
  have hl := lv_entry ([.ref (dK i)]) (n := 1) (Nat.le_of_ble_eq_true rfl)
  rw [lg_entry_eq]
  generalize (lg_sl ([.ref (dK i)]) ++ List.replicate (1 - (lg_sl ([.ref (dK i)])).length) Slot.unset).toArray = ls at hl ⊢
  have hl : lv_has ls 1 [(0, .ref (dK i))] := hl
  refine va_gets (A := A0) hx hb hw.2.1 va_S.rf hown (hts _ fl_J0_38) (fun _ h9 => h9) dJ0_coder_0 ?_
  refine lv_if_eq (tgt := 13) hx hb dJ0_coder_3 (by decide) (fun c_1 => absurd c_1 (by decide)) (fun c_1 => ?_)
  refine lv_aload_n hx hb dJ0_coder_6 rfl (lv_at hl 0 rfl) ?_
  refine vk_getf (A := A0) hx hb (hw.1.1 i hi).2.1 va_S.rf hown (hts _ fl_J0_15) (fun _ h9 => h9) dJ0_coder_7 ?_
  refine lv_goto (tgt := 14) hx hb dJ0_coder_10 (by decide) ?_
  exact W.zret (v := 0) hx hb hr rfl (fun t ht hW => ⟨_, rfl, rfl, ht⟩) (fun q h => by cases h) dJ0_coder_14
set_option maxHeartbeats 4000000 in
set_option maxRecDepth 100000 in
theorem cj_J0_isLatin1 (l : Launch) (dK dV : Nat → Nat) (A0 : Nat → Prop) (i : Nat) (hi : i < 7) : Met l yJ0_isLatin1 wJ0_isLatin1 ({ frames := 0, cells := 0, slots := 0, locals := 0 }) (va_Pc [.ref (dK i)] (fun U => swd dK dV A0 U U.heap)) (vp_Si (fun r => r = 1)) 0 0 (fun _ => False) := by
  refine Met.ofW (cc := cJ0_isLatin1) (maxL := 1) (ret := (some .boolean)) (by decide) rfl ?_
  intro p e s m args below meth c s₁ B hml hv
  obtain ⟨rfl, hw⟩ := hv
  have hx := B.exec
  have hb := B.bytes
  have hr := B.returns
  have hts : ∀ w ∈ bw, w.before _ s = true := fun w h => atoms_spec (ws := wJ0_isLatin1) B.pre w (bc w h)
  have hown : s.vm.findClass RJ0 = some m.cls := findClass_of_methodNamed B.named
  have hlocks := B.notSynchronized
  have hl := lv_entry ([.ref (dK i)]) (n := 1) (Nat.le_of_ble_eq_true rfl)
  rw [lg_entry_eq]
  generalize (lg_sl ([.ref (dK i)]) ++ List.replicate (1 - (lg_sl ([.ref (dK i)])).length) Slot.unset).toArray = ls at hl ⊢
  have hl : lv_has ls 1 [(0, .ref (dK i))] := hl
  refine va_gets (A := A0) hx hb hw.2.1 va_S.rf hown (hts _ fl_J0_38) (fun _ h9 => h9) dJ0_isLatin1_0 ?_
  refine lv_if_eq (tgt := 17) hx hb dJ0_isLatin1_3 (by decide) (fun c_1 => absurd c_1 (by decide)) (fun c_1 => ?_)
  refine lv_aload_n hx hb dJ0_isLatin1_6 rfl (lv_at hl 0 rfl) ?_
  refine vk_getf (A := A0) hx hb (hw.1.1 i hi).2.1 va_S.rf hown (hts _ fl_J0_15) (fun _ h9 => h9) dJ0_isLatin1_7 ?_
  refine lv_if_ne (tgt := 17) hx hb dJ0_isLatin1_10 (by decide) (fun c_2 => absurd rfl c_2) (fun c_2 => ?_)
  refine lv_iconst (v := 1) hx hb dJ0_isLatin1_13 (by decide) ?_
  refine lv_goto (tgt := 18) hx hb dJ0_isLatin1_14 (by decide) ?_
  exact W.zret (v := 1) hx hb hr rfl (fun t ht hW => ⟨_, rfl, rfl, ht⟩) (fun q h => by cases h) dJ0_isLatin1_18
set_option maxHeartbeats 4000000 in
set_option maxRecDepth 100000 in
theorem cj_J0_length (l : Launch) (dK dV : Nat → Nat) (A0 : Nat → Prop) (i : Nat) (hi : i < 7) : Met l yJ0_length wJ0_length ({ frames := 1, cells := 0, slots := 0, locals := 20 }) (va_Pc [.ref (dK i)] (fun U => swd dK dV A0 U U.heap)) (vp_Si (fun r => r = nI (lS.getD i 0))) 0 0 (fun _ => False) := by
  refine Met.ofW (cc := cJ0_length) (maxL := 1) (ret := (some .int)) (by decide) rfl ?_
  intro p e s m args below meth c s₁ B hml hv
  obtain ⟨rfl, hw⟩ := hv
  have hx := B.exec
  have hb := B.bytes
  have hr := B.returns
  have hts : ∀ w ∈ bw, w.before _ s = true := fun w h => atoms_spec (ws := wJ0_length) B.pre w (bc w h)
  have hown : s.vm.findClass RJ0 = some m.cls := findClass_of_methodNamed B.named
  have hlocks := B.notSynchronized
  have hl := lv_entry ([.ref (dK i)]) (n := 1) (Nat.le_of_ble_eq_true rfl)
  rw [lg_entry_eq]
  generalize (lg_sl ([.ref (dK i)]) ++ List.replicate (1 - (lg_sl ([.ref (dK i)])).length) Slot.unset).toArray = ls at hl ⊢
  have hl : lv_has ls 1 [(0, .ref (dK i))] := hl
  have hlb := lS_b i hi
  refine lv_aload_n hx hb dJ0_length_0 rfl (lv_at hl 0 rfl) ?_
  refine vk_getf (A := A0) hx hb (hw.1.1 i hi).2.2.1 va_S.rf hown (hts _ fl_J0_9) (fun _ h9 => h9) dJ0_length_1 ?_
  refine va_tlen (A := A0) hx hb (hw.1.1 i hi).2.2.2 va_S.rf (v := nI (lS.getD i 0)) rfl dJ0_length_4 ?_
  refine lv_aload_n hx hb dJ0_length_5 rfl (lv_at hl 0 rfl) ?_
  refine vp_callSi (va_Run.run (va_runV (As := []) (rest := [.int (nI (lS.getD i 0))]) ⟨hx, hb, hml, hown, hts⟩ (cj_J0_coder l dK dV A0 i hi) (cwV 0 hts (gV (fun _ h => h) ml_J0_335 im_J0_coder se_J0_coder ini_J0 co_J0_coder) rfl rfl rfl pd_J0_coder ⟨Nat.le_of_ble_eq_true rfl, Nat.le_of_ble_eq_true rfl⟩) (sw_preV hw hi) rfl rfl hl.1 rfl (lv_room (Nat.le_of_ble_eq_true rfl)) dJ0_length_6 ⟨Nat.zero_le _, Nat.zero_le _⟩)) (fun r_1 (e_1 : r_1 = 0) => ?_)
  subst e_1
  refine lv_ishr hx hb dJ0_length_9 ?_
  exact W.iret (v := nI (lS.getD i 0) >>> ((0 : Int32) &&& 31)) hx hb hr (fun t ht hW => ⟨_, rfl, sc_shr0 (by omega), ht⟩) (fun q h => by cases h) dJ0_length_10
set_option maxHeartbeats 4000000 in
set_option maxRecDepth 100000 in
theorem cj_J3_checkIndexN (l : Launch) (dK dV : Nat → Nat) (A0 : Nat → Prop) (j n : Nat) (hj : j < n) (hn : n < 2 ^ 31) : Met l yJ3_checkIndex wJ3_checkIndex ({ frames := 0, cells := 0, slots := 0, locals := 0 }) (va_Pc [.int (nI j), .int (nI n), .null] (fun _ => True)) (vp_Si (fun r => r = nI j)) 0 0 (fun _ => False) := by
  refine Met.ofW (cc := cJ3_checkIndex) (maxL := 3) (ret := (some .int)) (by decide) rfl ?_
  intro p e s m args below meth c s₁ B hml hv
  obtain ⟨rfl, hw⟩ := hv
  have hx := B.exec
  have hb := B.bytes
  have hr := B.returns
  have hts : ∀ w ∈ bw, w.before _ s = true := fun w h => atoms_spec (ws := wJ3_checkIndex) B.pre w (bc w h)
  have hown : s.vm.findClass RJ3 = some m.cls := findClass_of_methodNamed B.named
  have hlocks := B.notSynchronized
  have hl := lv_entry ([.int (nI j), .int (nI n), .null]) (n := 3) (Nat.le_of_ble_eq_true rfl)
  rw [lg_entry_eq]
  generalize (lg_sl ([.int (nI j), .int (nI n), .null]) ++ List.replicate (3 - (lg_sl ([.int (nI j), .int (nI n), .null])).length) Slot.unset).toArray = ls at hl ⊢
  have hl : lv_has ls 3 [(0, .int (nI j)), (1, .int (nI n)), (2, .null)] := hl
  refine lv_iload_n hx hb dJ3_checkIndex_0 rfl (lv_at hl 0 rfl) ?_
  refine lv_if_lt (tgt := 9) hx hb dJ3_checkIndex_1 (by decide) (fun c_1 => absurd c_1 (nI_pos (by omega))) (fun c_1 => ?_)
  refine lv_iload_n hx hb dJ3_checkIndex_4 rfl (lv_at hl 0 rfl) ?_
  refine lv_iload_n hx hb dJ3_checkIndex_5 rfl (lv_at hl 1 rfl) ?_
  refine lv_icmp_lt (tgt := 16) hx hb dJ3_checkIndex_6 (by decide) (fun c_2 => ?_) (fun c_2 => absurd (nI_lt hj hn) c_2)
  refine lv_iload_n hx hb dJ3_checkIndex_16 rfl (lv_at hl 0 rfl) ?_
  exact W.iret (v := nI j) hx hb hr (fun t ht hW => ⟨_, rfl, rfl, ht⟩) (fun q h => by cases h) dJ3_checkIndex_17
set_option maxHeartbeats 4000000 in
set_option maxRecDepth 100000 in
theorem cj_J3_checkIndexR (l : Launch) (dK dV : Nat → Nat) (A0 : Nat → Prop) (j n : Nat) (t0 : Nat) (hj : j < n) (hn : n < 2 ^ 31) : Met l yJ3_checkIndex wJ3_checkIndex ({ frames := 0, cells := 0, slots := 0, locals := 0 }) (va_Pc [.int (nI j), .int (nI n), .ref t0] (fun _ => True)) (vp_Si (fun r => r = nI j)) 0 0 (fun _ => False) := by
  refine Met.ofW (cc := cJ3_checkIndex) (maxL := 3) (ret := (some .int)) (by decide) rfl ?_
  intro p e s m args below meth c s₁ B hml hv
  obtain ⟨rfl, hw⟩ := hv
  have hx := B.exec
  have hb := B.bytes
  have hr := B.returns
  have hts : ∀ w ∈ bw, w.before _ s = true := fun w h => atoms_spec (ws := wJ3_checkIndex) B.pre w (bc w h)
  have hown : s.vm.findClass RJ3 = some m.cls := findClass_of_methodNamed B.named
  have hlocks := B.notSynchronized
  have hl := lv_entry ([.int (nI j), .int (nI n), .ref t0]) (n := 3) (Nat.le_of_ble_eq_true rfl)
  rw [lg_entry_eq]
  generalize (lg_sl ([.int (nI j), .int (nI n), .ref t0]) ++ List.replicate (3 - (lg_sl ([.int (nI j), .int (nI n), .ref t0])).length) Slot.unset).toArray = ls at hl ⊢
  have hl : lv_has ls 3 [(0, .int (nI j)), (1, .int (nI n)), (2, .ref t0)] := hl
  refine lv_iload_n hx hb dJ3_checkIndex_0 rfl (lv_at hl 0 rfl) ?_
  refine lv_if_lt (tgt := 9) hx hb dJ3_checkIndex_1 (by decide) (fun c_1 => absurd c_1 (nI_pos (by omega))) (fun c_1 => ?_)
  refine lv_iload_n hx hb dJ3_checkIndex_4 rfl (lv_at hl 0 rfl) ?_
  refine lv_iload_n hx hb dJ3_checkIndex_5 rfl (lv_at hl 1 rfl) ?_
  refine lv_icmp_lt (tgt := 16) hx hb dJ3_checkIndex_6 (by decide) (fun c_2 => ?_) (fun c_2 => absurd (nI_lt hj hn) c_2)
  refine lv_iload_n hx hb dJ3_checkIndex_16 rfl (lv_at hl 0 rfl) ?_
  exact W.iret (v := nI j) hx hb hr (fun t ht hW => ⟨_, rfl, rfl, ht⟩) (fun q h => by cases h) dJ3_checkIndex_17
set_option maxHeartbeats 4000000 in
set_option maxRecDepth 100000 in
theorem cj_J0_checkIndex (l : Launch) (dK dV : Nat → Nat) (A0 : Nat → Prop) (j n : Nat) (hj : j < n) (hn : n < 2 ^ 31) : Met l yJ0_checkIndex wJ0_checkIndex ({ frames := 1, cells := 0, slots := 0, locals := 22 }) (va_Pc [.int (nI j), .int (nI n)] (fun U => swd dK dV A0 U U.heap)) (va_Sv (fun _ => True)) 0 0 (fun _ => False) := by
  refine Met.ofW (cc := cJ0_checkIndex) (maxL := 2) (ret := none) (by decide) rfl ?_
  intro p e s m args below meth c s₁ B hml hv
  obtain ⟨rfl, hw⟩ := hv
  have hx := B.exec
  have hb := B.bytes
  have hr := B.returns
  have hts : ∀ w ∈ bw, w.before _ s = true := fun w h => atoms_spec (ws := wJ0_checkIndex) B.pre w (bc w h)
  have hown : s.vm.findClass RJ0 = some m.cls := findClass_of_methodNamed B.named
  have hlocks := B.notSynchronized
  have hl := lv_entry ([.int (nI j), .int (nI n)]) (n := 2) (Nat.le_of_ble_eq_true rfl)
  rw [lg_entry_eq]
  generalize (lg_sl ([.int (nI j), .int (nI n)]) ++ List.replicate (2 - (lg_sl ([.int (nI j), .int (nI n)])).length) Slot.unset).toArray = ls at hl ⊢
  have hl : lv_has ls 2 [(0, .int (nI j)), (1, .int (nI n))] := hl
  refine lv_iload_n hx hb dJ0_checkIndex_0 rfl (lv_at hl 0 rfl) ?_
  refine lv_iload_n hx hb dJ0_checkIndex_1 rfl (lv_at hl 1 rfl) ?_
  rcases hw.2.2.1 with hZ | ⟨t0, hZ⟩
  · refine va_gets (A := A0) hx hb hZ va_S.rf hown (hts _ fl_J0_1053) (fun _ h9 => h9) dJ0_checkIndex_2 ?_
    refine vp_callSi (va_Run.run (va_runS (As := [.int (nI j), .int (nI n), .null]) (rest := []) ⟨hx, hb, hml, hown, hts⟩ (cj_J3_checkIndexN l dK dV A0 j n hj hn) (va_cwS 3 hts (gT (fun _ h => h) ml_J0_1059 sm_J3_checkIndex ini_J3 co_J3_checkIndex) rfl rfl rfl pd_J3_checkIndex.2 ⟨Nat.le_of_ble_eq_true rfl, Nat.le_of_ble_eq_true rfl⟩) st_pre rfl rfl hl.1 rfl (lv_room (Nat.le_of_ble_eq_true rfl)) dJ0_checkIndex_5 ⟨Nat.zero_le _, Nat.zero_le _⟩)) (fun r_1 (e_1 : r_1 = nI j) => ?_)
    refine lv_pop hx hb dJ0_checkIndex_8 rfl ?_
    exact W.vret hx hb hr (fun t ht hW => ⟨rfl, trivial, ht⟩) (fun q h => by cases h) dJ0_checkIndex_9
  · refine va_gets (A := A0) hx hb hZ va_S.rf hown (hts _ fl_J0_1053) (fun _ h9 => h9) dJ0_checkIndex_2 ?_
    refine vp_callSi (va_Run.run (va_runS (As := [.int (nI j), .int (nI n), .ref t0]) (rest := []) ⟨hx, hb, hml, hown, hts⟩ (cj_J3_checkIndexR l dK dV A0 j n t0 hj hn) (va_cwS 3 hts (gT (fun _ h => h) ml_J0_1059 sm_J3_checkIndex ini_J3 co_J3_checkIndex) rfl rfl rfl pd_J3_checkIndex.2 ⟨Nat.le_of_ble_eq_true rfl, Nat.le_of_ble_eq_true rfl⟩) st_pre rfl rfl hl.1 rfl (lv_room (Nat.le_of_ble_eq_true rfl)) dJ0_checkIndex_5 ⟨Nat.zero_le _, Nat.zero_le _⟩)) (fun r_1 (e_1 : r_1 = nI j) => ?_)
    refine lv_pop hx hb dJ0_checkIndex_8 rfl ?_
    exact W.vret hx hb hr (fun t ht hW => ⟨rfl, trivial, ht⟩) (fun q h => by cases h) dJ0_checkIndex_9

set_option maxHeartbeats 4000000 in
set_option maxRecDepth 100000 in
theorem cj_J1_charAt (l : Launch) (dK dV : Nat → Nat) (A0 : Nat → Prop) (i j : Nat) (hi : i < 7) (hj : j < lS.getD i 0) : Met l yJ1_charAt wJ1_charAt ({ frames := 2, cells := 0, slots := 0, locals := 43 }) (va_Pc [.ref (dV i), .int (nI j)] (fun U => swd dK dV A0 U U.heap)) (vp_Si (fun r => r = nI (cS i j))) 0 0 (fun _ => False) := by
  refine Met.ofW (cc := cJ1_charAt) (maxL := 2) (ret := (some .char)) (by decide) rfl ?_
  intro p e s m args below meth c s₁ B hml hv
  obtain ⟨rfl, hw⟩ := hv
  have hx := B.exec
  have hb := B.bytes
  have hr := B.returns
  have hts : ∀ w ∈ bw, w.before _ s = true := fun w h => atoms_spec (ws := wJ1_charAt) B.pre w (bc w h)
  have hown : s.vm.findClass RJ1 = some m.cls := findClass_of_methodNamed B.named
  have hlocks := B.notSynchronized
  have hl := lv_entry ([.ref (dV i), .int (nI j)]) (n := 2) (Nat.le_of_ble_eq_true rfl)
  rw [lg_entry_eq]
  generalize (lg_sl ([.ref (dV i), .int (nI j)]) ++ List.replicate (2 - (lg_sl ([.ref (dV i), .int (nI j)])).length) Slot.unset).toArray = ls at hl ⊢
  have hl : lv_has ls 2 [(0, .ref (dV i)), (1, .int (nI j))] := hl
  have hlb := lS_b i hi
  obtain ⟨hc1, hc2⟩ := bS_n i hi j hj
  refine lv_iload_n hx hb dJ1_charAt_0 rfl (lv_at hl 1 rfl) ?_
  refine lv_aload_n hx hb dJ1_charAt_1 rfl (lv_at hl 0 rfl) ?_
  refine va_tlen (A := A0) hx hb (hw.1.1 i hi).2.2.2 va_S.rf (v := nI (lS.getD i 0)) rfl dJ1_charAt_2 ?_
  refine va_csv (va_Run.run (va_runS (As := [.int (nI j), .int (nI (lS.getD i 0))]) (rest := []) ⟨hx, hb, hml, hown, hts⟩ (cj_J0_checkIndex l dK dV A0 j (lS.getD i 0) hj (by omega)) (va_cwS 2 hts (gT (fun _ h => h) ml_J1_9 sm_J0_checkIndex ini_J0 co_J0_checkIndex) rfl rfl rfl pd_J0_checkIndex.2 ⟨Nat.le_of_ble_eq_true rfl, Nat.le_of_ble_eq_true rfl⟩) (sw_preS hw) rfl rfl hl.1 rfl (lv_room (Nat.le_of_ble_eq_true rfl)) dJ1_charAt_3 ⟨Nat.zero_le _, Nat.zero_le _⟩)) (fun _ => ?_)
  refine lv_aload_n hx hb dJ1_charAt_6 rfl (lv_at hl 0 rfl) ?_
  refine lv_iload_n hx hb dJ1_charAt_7 rfl (lv_at hl 1 rfl) ?_
  refine va_tb (A := A0) hx hb (hw.1.1 i hi).2.2.2 va_S.rf (vp_in_nI hj (by omega)) (v := .int (nI (cS i j))) (by rw [nI_clamp (by omega), hc1]) dJ1_charAt_8 ?_
  refine lv_sipush (v := nI 255) hx hb dJ1_charAt_9 (by decide) ?_
  refine lv_iand hx hb dJ1_charAt_12 ?_
  refine lv_i2c (v := nI (cS i j)) hx hb dJ1_charAt_13 (chr_n (by omega)) ?_
  exact W.zret (v := nI (cS i j)) hx hb hr (pk_charN (by omega)).1 (fun t ht hW => ⟨_, rfl, rfl, ht⟩) (fun q h => by cases h) dJ1_charAt_14
set_option maxHeartbeats 4000000 in
set_option maxRecDepth 100000 in
theorem cj_J0_charAt (l : Launch) (dK dV : Nat → Nat) (A0 : Nat → Prop) (i j : Nat) (hi : i < 7) (hj : j < lS.getD i 0) : Met l yJ0_charAt wJ0_charAt ({ frames := 3, cells := 0, slots := 0, locals := 64 }) (va_Pc [.ref (dK i), .int (nI j)] (fun U => swd dK dV A0 U U.heap)) (vp_Si (fun r => r = nI (cS i j))) 0 0 (fun _ => False) := by
  refine Met.ofW (cc := cJ0_charAt) (maxL := 2) (ret := (some .char)) (by decide) rfl ?_
  intro p e s m args below meth c s₁ B hml hv
  obtain ⟨rfl, hw⟩ := hv
  have hx := B.exec
  have hb := B.bytes
  have hr := B.returns
  have hts : ∀ w ∈ bw, w.before _ s = true := fun w h => atoms_spec (ws := wJ0_charAt) B.pre w (bc w h)
  have hown : s.vm.findClass RJ0 = some m.cls := findClass_of_methodNamed B.named
  have hlocks := B.notSynchronized
  have hl := lv_entry ([.ref (dK i), .int (nI j)]) (n := 2) (Nat.le_of_ble_eq_true rfl)
  rw [lg_entry_eq]
  generalize (lg_sl ([.ref (dK i), .int (nI j)]) ++ List.replicate (2 - (lg_sl ([.ref (dK i), .int (nI j)])).length) Slot.unset).toArray = ls at hl ⊢
  have hl : lv_has ls 2 [(0, .ref (dK i)), (1, .int (nI j))] := hl
  have hlb := lS_b i hi
  obtain ⟨hc1, hc2⟩ := bS_n i hi j hj
  refine lv_aload_n hx hb dJ0_charAt_0 rfl (lv_at hl 0 rfl) ?_
  refine vp_callSi (va_Run.run (va_runV (As := []) (rest := []) ⟨hx, hb, hml, hown, hts⟩ (cj_J0_isLatin1 l dK dV A0 i hi) (cwV 0 hts (gV (fun _ h => h) ml_J0_492 im_J0_isLatin1 se_J0_isLatin1 ini_J0 co_J0_isLatin1) rfl rfl rfl pd_J0_isLatin1 ⟨Nat.le_of_ble_eq_true rfl, Nat.le_of_ble_eq_true rfl⟩) (sw_preV hw hi) rfl rfl hl.1 rfl (lv_room (Nat.le_of_ble_eq_true rfl)) dJ0_charAt_1 ⟨Nat.zero_le _, Nat.zero_le _⟩)) (fun r_1 (e_1 : r_1 = 1) => ?_)
  subst e_1
  refine lv_if_eq (tgt := 16) hx hb dJ0_charAt_4 (by decide) (fun c_1 => absurd c_1 (by decide)) (fun c_1 => ?_)
  refine lv_aload_n hx hb dJ0_charAt_7 rfl (lv_at hl 0 rfl) ?_
  refine vk_getf (A := A0) hx hb (hw.1.1 i hi).2.2.1 va_S.rf hown (hts _ fl_J0_9) (fun _ h9 => h9) dJ0_charAt_8 ?_
  refine lv_iload_n hx hb dJ0_charAt_11 rfl (lv_at hl 1 rfl) ?_
  refine vp_callSi (va_Run.run (va_runS (As := [.ref (dV i), .int (nI j)]) (rest := []) ⟨hx, hb, hml, hown, hts⟩ (cj_J1_charAt l dK dV A0 i j hi hj) (va_cwS 2 hts (gT (fun _ h => h) ml_J0_495 sm_J1_charAt ini_J1 co_J1_charAt) rfl rfl rfl pd_J1_charAt.2 ⟨Nat.le_of_ble_eq_true rfl, Nat.le_of_ble_eq_true rfl⟩) (sw_preS hw) rfl rfl hl.1 rfl (lv_room (Nat.le_of_ble_eq_true rfl)) dJ0_charAt_12 ⟨Nat.zero_le _, Nat.zero_le _⟩)) (fun r_2 (e_2 : r_2 = nI (cS i j)) => ?_)
  subst e_2
  exact W.zret (v := nI (cS i j)) hx hb hr (pk_charN (by omega)).1 (fun t ht hW => ⟨_, rfl, rfl, ht⟩) (fun q h => by cases h) dJ0_charAt_15
