/-- a byte as it goes into a word of a spelling -/
def bb (x : Nat) : Nat := if x < 256 then x else 255
theorem bb_lt (x : Nat) : bb x < 256 := by unfold bb; split <;> omega
theorem bb_l (x : Nat) : (bI x).toInt64 &&& lN 255 = lN (bb x) := by
  unfold bb
  by_cases h : x < 256
  · rw [if_pos h, bI_lo h, nI_l (by omega)]
    have g := wb_mask (n := x) (k := 8) (by omega) (by decide)
    rw [Nat.mod_eq_of_lt (show x < 2 ^ 8 by omega)] at g
    exact g
  · rw [if_neg h, bI_hi (by omega)]; decide
theorem bb_sh {b j : Nat} (hb : b < 256) (hj : j < 8) : b * 2 ^ (8 * j) < 2 ^ 64 := by
  have h1 : 2 ^ (8 * j) * 256 ≤ 2 ^ 64 := by
    rw [show (256 : Nat) = 2 ^ 8 by decide, ← Nat.pow_add]
    exact Nat.pow_le_pow_right (by decide) (by omega)
  have h2 : b * 2 ^ (8 * j) < 256 * 2 ^ (8 * j) := Nat.mul_lt_mul_of_pos_right hb (Nat.two_pow_pos _)
  have h3 := Nat.mul_comm 256 (2 ^ (8 * j))
  omega
theorem bb_acc {a b j : Nat} (ha : a < 2 ^ (8 * j)) (hb : b < 256) : a + b * 2 ^ (8 * j) < 2 ^ (8 * (j + 1)) := by
  have h1 : 2 ^ (8 * (j + 1)) = 256 * 2 ^ (8 * j) := by
    rw [show 8 * (j + 1) = 8 + 8 * j by omega, Nat.pow_add]
  have h2 : (b + 1) * 2 ^ (8 * j) ≤ 256 * 2 ^ (8 * j) := Nat.mul_le_mul_right _ (by omega)
  rw [Nat.add_mul, Nat.one_mul] at h2
  omega
/-- spelling's second loop -/
def wdF (T : Nat → Int64) (n q B : Nat) : Nat → Nat → Nat → Nat → Nat
  | 0, _, acc, _ => acc
  | k + 1, g, acc, j => if j < 8 ∧ 8 * q + j < B then wdF T n q B k (lf T n (g + 1)) (acc + bb (gb T n g) * 2 ^ (8 * j)) (j + 1) else acc
/-- its first -/
def skF (T : Nat → Int64) (n q : Nat) : Nat → Nat → Nat → Nat
  | 0, g, _ => g
  | k + 1, g, s => if s < 8 * q then skF T n q k (lf T n (g + 1)) (s + 1) else g
def spA (T : Nat → Int64) (Z : Nat → Nat) (K : Nat → Int64) (j q : Nat) : Nat := if tkB K j / 8 < q then 0 else wdF T (Z 2) q (tkB K j) 9 (skF T (Z 2) q (8 * q + 1) (tkS K j) 0) 0 0
set_option maxHeartbeats 4000000 in
set_option maxRecDepth 100000 in
theorem k_spelling_79 {p : Program} {l : Launch} {e : Env} {s : State} {m : MethodId} {args : Array Value} {below : List Frame} {meth : Method} {c : Code} (hx : p.tables.exec = Jvm.exec) (hb : c.code = cX0_spelling) (hr : meth.sig.returnType = (some .long)) (hml : c.maxLocals = 8) (hown : s.vm.findClass RX0 = some m.cls) (hts : ∀ w ∈ bw, w.before args s = true) (hlocks : meth.locks = false) {dC : Nat → ClassId} {dI : Nat → Nat → Nat} {cA : ClassId} {a0 a1 a2 : Nat} {Z : Nat → Nat} {T K : Nat → Int64} (hK : va_K (dC, dI) vwCl [(cA, .long)] s) (hP : va_P (dC, dI) vwCl (lmW cA a0 a1 a2 (Z, T, K)) s.heap) (q B : Nat) (hn : Z 2 ≤ 32768) (hq : q < 2 ^ 20) (hB : B < 65536) (P : Int64 → Prop) : ∀ (k : Nat) (g : Nat) (a : Nat) (j : Nat), 8 - j < k → g < 2 ^ 20 + j → j ≤ 8 → a < 2 ^ (8 * j) → P (lN (wdF T (Z 2) q B k g a j)) → ∀ ls, lv_has ls 8 [(0, .ref a0), (2, .int (nI q)), (3, .int (nI B)), (4, .int (nI g)), (5, .long (lN a)), (7, .int (nI j))] → W p l e (headSpec wX0_spelling ({ frames := 2, cells := 0, slots := 0, locals := 44 })).room s m args below meth c s.heap [] 0 0 (MQ below (vp_Sl P) args s 0 0 (fun _ => False)) (F0 m 79 ls []) := by
  intro k
  induction k with
  | zero => intro g a j hk; exact absurd hk (by omega)
  | succ k ih =>
    intro g a j hk hg hj8 hac hQ ls hl
    refine lv_iload hx hb dX0_spelling_79 (lv_at hl 5 rfl) ?_
    refine lv_bipush (v := nI 8) hx hb dX0_spelling_81 (by decide) ?_
    refine lv_icmp_ge (tgt := 135) hx hb dX0_spelling_83 (by decide) (fun c_1 => ?_) (fun c_1 => ?_)
    · have c_1 := (nI_leI (a := 8) (b := j) (by omega) (by omega)).mp c_1
      refine lv_lload hx hb dX0_spelling_135 (lv_at hl 4 rfl) ?_
      exact W.lret (v := lN a) hx hb hr (fun t ht hW => ⟨_, rfl, (by rw [wdF, if_neg (by omega)] at hQ; exact hQ), ht⟩) (fun q h => by cases h) dX0_spelling_137
    · have c_1 := mt (nI_leI (a := 8) (b := j) (by omega) (by omega)).mpr c_1
      refine lv_bipush (v := nI 8) hx hb dX0_spelling_86 (by decide) ?_
      refine lv_iload_n hx hb dX0_spelling_88 rfl (lv_at hl 1 rfl) ?_
      refine lv_imul hx hb dX0_spelling_89 ?_
      refine lv_topi (fun x_2 e_3 => ?_)
      obtain rfl : x_2 = nI (8 * q) := e_3.trans (pk_mul 8 q)
      refine lv_iload hx hb dX0_spelling_90 (lv_at hl 5 rfl) ?_
      refine lv_iadd hx hb dX0_spelling_92 ?_
      refine lv_topi (fun x_4 e_5 => ?_)
      obtain rfl : x_4 = nI (8 * q + j) := e_5.trans (nI_add (8 * q) j)
      refine lv_iload_n hx hb dX0_spelling_93 rfl (lv_at hl 2 rfl) ?_
      refine lv_icmp_ge (tgt := 135) hx hb dX0_spelling_94 (by decide) (fun c_6 => ?_) (fun c_6 => ?_)
      · have c_6 := (nI_leI (a := B) (b := 8 * q + j) (by omega) (by omega)).mp c_6
        refine lv_lload hx hb dX0_spelling_135 (lv_at hl 4 rfl) ?_
        exact W.lret (v := lN a) hx hb hr (fun t ht hW => ⟨_, rfl, (by rw [wdF, if_neg (by omega)] at hQ; exact hQ), ht⟩) (fun q h => by cases h) dX0_spelling_137
      · have c_6 := mt (nI_leI (a := B) (b := 8 * q + j) (by omega) (by omega)).mpr c_6
        refine lv_lload hx hb dX0_spelling_97 (lv_at hl 4 rfl) ?_
        refine lv_aload_n hx hb dX0_spelling_99 rfl (lv_at hl 0 rfl) ?_
        refine lv_iload hx hb dX0_spelling_100 (lv_at hl 3 rfl) ?_
        refine vp_callSi (va_Run.run (va_runV (As := [.int (nI g)]) (rest := [.long (lN a)]) ⟨hx, hb, hml, hown, hts⟩ (c_byteAt l dC dI cA a0 a1 a2 Z T K g (show Z 2 ≤ 32768 by omega) (show g < 2 ^ 31 by omega)) (cwV 1 hts (gV (fun _ h => h) ml_X0_28 im_X0_byteAt se_X0_byteAt ini_X0 co_X0_byteAt) rfl rfl rfl pd_X0_byteAt ⟨Nat.le_of_ble_eq_true rfl, Nat.le_of_ble_eq_true rfl⟩) (lm_preR hK hP) rfl rfl hl.1 rfl (lv_room (Nat.le_of_ble_eq_true rfl)) dX0_spelling_102 ⟨Nat.zero_le _, Nat.zero_le _⟩)) (fun r_7 (e_8 : r_7 = bI (gb T (Z 2) g)) => ?_)
        subst e_8
        have := gb_in T (Z 2) g
        refine lv_i2l hx hb dX0_spelling_105 rfl ?_
        refine lv_ldc2 (v := lN 255) hx hb hown (hts _ cn_X0_83) dX0_spelling_106 ?_
        refine lv_land hx hb dX0_spelling_109 ?_
        refine lv_topl (fun x_9 e_10 => ?_)
        obtain rfl : x_9 = lN (bb (gb T (Z 2) g)) := e_10.trans (bb_l _)
        refine lv_bipush (v := nI 8) hx hb dX0_spelling_110 (by decide) ?_
        refine lv_iload hx hb dX0_spelling_112 (lv_at hl 5 rfl) ?_
        refine lv_imul hx hb dX0_spelling_114 ?_
        refine lv_topi (fun x_11 e_12 => ?_)
        obtain rfl : x_11 = nI (8 * j) := e_12.trans (pk_mul 8 j)
        refine lv_lshl (v := lN ((bb (gb T (Z 2) g)) * 2 ^ (8 * j))) hx hb dX0_spelling_115 (wb_shl _ (by omega)) ?_
        refine lv_lor hx hb dX0_spelling_116 ?_
        refine lv_topl (fun x_13 e_14 => ?_)
        obtain rfl : x_13 = lN (a + bb (gb T (Z 2) g) * 2 ^ (8 * j)) := e_14.trans (lor_add (k := 8 * j) (by omega) hac (bb_sh (bb_lt _) (by omega)))
        refine lv_lstore (lv' := [(5, .long (lN (a + bb (gb T (Z 2) g) * 2 ^ (8 * j)))), (0, .ref a0), (2, .int (nI q)), (3, .int (nI B)), (4, .int (nI g)), (7, .int (nI j))]) hx hb dX0_spelling_117 hl (by decide) rfl (fun ls hl => ?_)
        refine lv_aload_n hx hb dX0_spelling_119 rfl (lv_at hl 1 rfl) ?_
        refine lv_iload hx hb dX0_spelling_120 (lv_at hl 4 rfl) ?_
        refine lv_iconst (v := nI 1) hx hb dX0_spelling_122 (by decide) ?_
        refine lv_iadd hx hb dX0_spelling_123 ?_
        refine lv_topi (fun x_15 e_16 => ?_)
        obtain rfl : x_15 = nI (g + 1) := e_16.trans (nI_add g 1)
        refine vp_callSi (va_Run.run (va_runV (As := [.int (nI (g + 1))]) (rest := []) ⟨hx, hb, hml, hown, hts⟩ (c_leftFrom l dC dI cA a0 a1 a2 Z T K (g + 1) (show Z 2 ≤ 32768 by omega) (show g + 1 < 2 ^ 30 by omega)) (cwV 1 hts (gV (fun _ h => h) ml_X0_42 im_X0_leftFrom se_X0_leftFrom ini_X0 co_X0_leftFrom) rfl rfl rfl pd_X0_leftFrom ⟨Nat.le_of_ble_eq_true rfl, Nat.le_of_ble_eq_true rfl⟩) (lm_preR hK hP) rfl rfl hl.1 rfl (lv_room (Nat.le_of_ble_eq_true rfl)) dX0_spelling_124 ⟨Nat.zero_le _, Nat.zero_le _⟩)) (fun r_17 (e_18 : r_17 = nI (lf T (Z 2) (g + 1))) => ?_)
        subst e_18
        have := lf_b T (Z 2) (g + 1)
        refine lv_istore (lv' := [(4, .int (nI (lf T (Z 2) (g + 1)))), (5, .long (lN (a + bb (gb T (Z 2) g) * 2 ^ (8 * j)))), (0, .ref a0), (2, .int (nI q)), (3, .int (nI B)), (7, .int (nI j))]) hx hb dX0_spelling_127 hl (by decide) rfl (fun ls hl => ?_)
        refine lv_iinc (v := nI (j + 1)) (lv' := [(7, .int (nI (j + 1))), (4, .int (nI (lf T (Z 2) (g + 1)))), (5, .long (lN (a + bb (gb T (Z 2) g) * 2 ^ (8 * j)))), (0, .ref a0), (2, .int (nI q)), (3, .int (nI B))]) hx hb dX0_spelling_129 hl (k := 5) rfl (by exact nI_add j 1) (by decide) rfl (fun ls hl => ?_)
        refine lv_goto (tgt := 79) hx hb dX0_spelling_132 (by decide) ?_
        exact ih (lf T (Z 2) (g + 1)) (a + bb (gb T (Z 2) g) * 2 ^ (8 * j)) (j + 1) (by omega) (by omega) (by omega) (bb_acc hac (bb_lt _)) (by rw [wdF, if_pos (by omega)] at hQ; exact hQ) _ (lv_sub hl [3, 4, 5, 1, 2, 0] rfl)
set_option maxHeartbeats 4000000 in
set_option maxRecDepth 100000 in
theorem k_spelling_48 {p : Program} {l : Launch} {e : Env} {s : State} {m : MethodId} {args : Array Value} {below : List Frame} {meth : Method} {c : Code} (hx : p.tables.exec = Jvm.exec) (hb : c.code = cX0_spelling) (hr : meth.sig.returnType = (some .long)) (hml : c.maxLocals = 8) (hown : s.vm.findClass RX0 = some m.cls) (hts : ∀ w ∈ bw, w.before args s = true) (hlocks : meth.locks = false) {dC : Nat → ClassId} {dI : Nat → Nat → Nat} {cA : ClassId} {a0 a1 a2 : Nat} {Z : Nat → Nat} {T K : Nat → Int64} (hK : va_K (dC, dI) vwCl [(cA, .long)] s) (hP : va_P (dC, dI) vwCl (lmW cA a0 a1 a2 (Z, T, K)) s.heap) (q B : Nat) (hn : Z 2 ≤ 32768) (hq : q < 2 ^ 14) (hB : B < 65536) (P : Int64 → Prop) : ∀ (k : Nat) (g : Nat) (s0 : Nat), 8 * q - s0 < k → g < 2 ^ 18 + s0 → s0 ≤ 8 * q → P (lN (wdF T (Z 2) q B 9 (skF T (Z 2) q k g s0) 0 0)) → ∀ ls, lv_has ls 8 [(0, .ref a0), (2, .int (nI q)), (3, .int (nI B)), (4, .int (nI g)), (5, .int (nI s0))] → W p l e (headSpec wX0_spelling ({ frames := 2, cells := 0, slots := 0, locals := 44 })).room s m args below meth c s.heap [] 0 0 (MQ below (vp_Sl P) args s 0 0 (fun _ => False)) (F0 m 48 ls []) := by
  intro k
  induction k with
  | zero => intro g s0 hk; exact absurd hk (by omega)
  | succ k ih =>
    intro g s0 hk hg hs hQ ls hl
    refine lv_iload hx hb dX0_spelling_48 (lv_at hl 4 rfl) ?_
    refine lv_bipush (v := nI 8) hx hb dX0_spelling_50 (by decide) ?_
    refine lv_iload_n hx hb dX0_spelling_52 rfl (lv_at hl 1 rfl) ?_
    refine lv_imul hx hb dX0_spelling_53 ?_
    refine lv_topi (fun x_1 e_2 => ?_)
    obtain rfl : x_1 = nI (8 * q) := e_2.trans (pk_mul 8 q)
    refine lv_icmp_ge (tgt := 73) hx hb dX0_spelling_54 (by decide) (fun c_3 => ?_) (fun c_3 => ?_)
    · have c_3 := (nI_leI (a := 8 * q) (b := s0) (by omega) (by omega)).mp c_3
      refine lv_lconst (v := lN 0) hx hb dX0_spelling_73 (by decide) ?_
      refine lv_lstore (lv' := [(5, .long (lN 0)), (0, .ref a0), (2, .int (nI q)), (3, .int (nI B)), (4, .int (nI g))]) hx hb dX0_spelling_74 hl (by decide) rfl (fun ls hl => ?_)
      refine lv_iconst (v := nI 0) hx hb dX0_spelling_76 (by decide) ?_
      refine lv_istore (lv' := [(7, .int (nI 0)), (5, .long (lN 0)), (0, .ref a0), (2, .int (nI q)), (3, .int (nI B)), (4, .int (nI g))]) hx hb dX0_spelling_77 hl (by decide) rfl (fun ls hl => ?_)
      exact k_spelling_79 hx hb hr hml hown hts hlocks hK hP q B hn (by omega) hB P 9 g 0 0 (by omega) (by omega) (by omega) (by decide) (by rw [skF, if_neg (by omega)] at hQ; exact hQ) _ (lv_sub hl [2, 3, 4, 5, 1, 0] rfl)
    · have c_3 := mt (nI_leI (a := 8 * q) (b := s0) (by omega) (by omega)).mpr c_3
      refine lv_aload_n hx hb dX0_spelling_57 rfl (lv_at hl 0 rfl) ?_
      refine lv_iload hx hb dX0_spelling_58 (lv_at hl 3 rfl) ?_
      refine lv_iconst (v := nI 1) hx hb dX0_spelling_60 (by decide) ?_
      refine lv_iadd hx hb dX0_spelling_61 ?_
      refine lv_topi (fun x_4 e_5 => ?_)
      obtain rfl : x_4 = nI (g + 1) := e_5.trans (nI_add g 1)
      refine vp_callSi (va_Run.run (va_runV (As := [.int (nI (g + 1))]) (rest := []) ⟨hx, hb, hml, hown, hts⟩ (c_leftFrom l dC dI cA a0 a1 a2 Z T K (g + 1) (show Z 2 ≤ 32768 by omega) (show g + 1 < 2 ^ 30 by omega)) (cwV 1 hts (gV (fun _ h => h) ml_X0_42 im_X0_leftFrom se_X0_leftFrom ini_X0 co_X0_leftFrom) rfl rfl rfl pd_X0_leftFrom ⟨Nat.le_of_ble_eq_true rfl, Nat.le_of_ble_eq_true rfl⟩) (lm_preR hK hP) rfl rfl hl.1 rfl (lv_room (Nat.le_of_ble_eq_true rfl)) dX0_spelling_62 ⟨Nat.zero_le _, Nat.zero_le _⟩)) (fun r_6 (e_7 : r_6 = nI (lf T (Z 2) (g + 1))) => ?_)
      subst e_7
      have := lf_b T (Z 2) (g + 1)
      refine lv_istore (lv' := [(4, .int (nI (lf T (Z 2) (g + 1)))), (0, .ref a0), (2, .int (nI q)), (3, .int (nI B)), (5, .int (nI s0))]) hx hb dX0_spelling_65 hl (by decide) rfl (fun ls hl => ?_)
      refine lv_iinc (v := nI (s0 + 1)) (lv' := [(5, .int (nI (s0 + 1))), (4, .int (nI (lf T (Z 2) (g + 1)))), (0, .ref a0), (2, .int (nI q)), (3, .int (nI B))]) hx hb dX0_spelling_67 hl (k := 4) rfl (by exact nI_add s0 1) (by decide) rfl (fun ls hl => ?_)
      refine lv_goto (tgt := 48) hx hb dX0_spelling_70 (by decide) ?_
      exact ih (lf T (Z 2) (g + 1)) (s0 + 1) (by omega) (by omega) (by omega) (by rw [skF, if_pos (by omega)] at hQ; exact hQ) _ (lv_sub hl [2, 3, 4, 1, 0] rfl)
set_option maxHeartbeats 4000000 in
set_option maxRecDepth 100000 in
theorem c_spelling_out (l : Launch) (dC : Nat → ClassId) (dI : Nat → Nat → Nat) (cA : ClassId) (a0 a1 a2 : Nat) (Z : Nat → Nat) (T K : Nat → Int64) (i : Int32) (w : Int32) (h9 : Z 9 ≤ 8000) (h : i < 0 ∨ nI (Z 9) ≤ i) : Met l yX0_spelling wX0_spelling ({ frames := 2, cells := 0, slots := 0, locals := 44 }) (va_Pc [.ref a0, .int (i), .int (w)] (lmR dC dI cA a0 a1 a2 (Z, T, K))) (vp_Sl (fun r => r = lN 0)) 0 0 (fun _ => False) := by
  refine Met.ofW (cc := cX0_spelling) (maxL := 8) (ret := (some .long)) (by decide) rfl ?_
  intro p e s m args below meth c s₁ B hml hv
  obtain ⟨rfl, hP, hK⟩ := hv
  have hx := B.exec
  have hb := B.bytes
  have hr := B.returns
  have hts : ∀ w ∈ bw, w.before _ s = true := fun w h => atoms_spec (ws := wX0_spelling) B.pre w (bc w h)
  have hown : s.vm.findClass RX0 = some m.cls := findClass_of_methodNamed B.named
  have hlocks := B.notSynchronized
  have hl := lv_entry ([.ref a0, .int (i), .int (w)]) (n := 8) (Nat.le_of_ble_eq_true rfl)
  rw [lg_entry_eq]
  generalize (lg_sl ([.ref a0, .int (i), .int (w)]) ++ List.replicate (8 - (lg_sl ([.ref a0, .int (i), .int (w)])).length) Slot.unset).toArray = ls at hl ⊢
  have hl : lv_has ls 8 [(0, .ref a0), (1, .int (i)), (2, .int (w))] := hl
  refine lv_aload_n hx hb dX0_spelling_0 rfl (lv_at hl 0 rfl) ?_
  refine lv_iload_n hx hb dX0_spelling_1 rfl (lv_at hl 1 rfl) ?_
  refine vp_callSi (va_Run.run (va_runV (As := [.int (i)]) (rest := []) ⟨hx, hb, hml, hown, hts⟩ (c_isAtHand_out l dC dI cA a0 a1 a2 Z T K i h9 h) (cwV 1 hts (gV (fun _ h => h) ml_X0_71 im_X0_isAtHand se_X0_isAtHand ini_X0 co_X0_isAtHand) rfl rfl rfl pd_X0_isAtHand ⟨Nat.le_of_ble_eq_true rfl, Nat.le_of_ble_eq_true rfl⟩) (lm_preR hK hP) rfl rfl hl.1 rfl (lv_room (Nat.le_of_ble_eq_true rfl)) dX0_spelling_2 ⟨Nat.zero_le _, Nat.zero_le _⟩)) (fun r_1 (e_2 : r_1 = nI 0) => ?_)
  subst e_2
  refine lv_if_eq (tgt := 12) hx hb dX0_spelling_5 (by decide) (fun c_3 => ?_) (fun c_3 => ?_)
  · have c_3 := (nI_eq (a := 0) (b := 0) (by omega) (by omega)).mp c_3
    refine lv_lconst (v := lN 0) hx hb dX0_spelling_12 (by decide) ?_
    exact W.lret (v := lN 0) hx hb hr (fun t ht hW => ⟨_, rfl, rfl, ht⟩) (fun q h => by cases h) dX0_spelling_13
  · have c_3 := mt (nI_eq (a := 0) (b := 0) (by omega) (by omega)).mpr c_3
    omega
set_option maxHeartbeats 4000000 in
set_option maxRecDepth 100000 in
theorem c_spelling_neg (l : Launch) (dC : Nat → ClassId) (dI : Nat → Nat → Nat) (cA : ClassId) (a0 a1 a2 : Nat) (Z : Nat → Nat) (T K : Nat → Int64) (j : Nat) (w : Int32) (h9 : Z 9 ≤ 8000) (hj : j < Z 9) (h : w < 0) : Met l yX0_spelling wX0_spelling ({ frames := 2, cells := 0, slots := 0, locals := 44 }) (va_Pc [.ref a0, .int (nI j), .int (w)] (lmR dC dI cA a0 a1 a2 (Z, T, K))) (vp_Sl (fun r => r = lN 0)) 0 0 (fun _ => False) := by
  refine Met.ofW (cc := cX0_spelling) (maxL := 8) (ret := (some .long)) (by decide) rfl ?_
  intro p e s m args below meth c s₁ B hml hv
  obtain ⟨rfl, hP, hK⟩ := hv
  have hx := B.exec
  have hb := B.bytes
  have hr := B.returns
  have hts : ∀ w ∈ bw, w.before _ s = true := fun w h => atoms_spec (ws := wX0_spelling) B.pre w (bc w h)
  have hown : s.vm.findClass RX0 = some m.cls := findClass_of_methodNamed B.named
  have hlocks := B.notSynchronized
  have hl := lv_entry ([.ref a0, .int (nI j), .int (w)]) (n := 8) (Nat.le_of_ble_eq_true rfl)
  rw [lg_entry_eq]
  generalize (lg_sl ([.ref a0, .int (nI j), .int (w)]) ++ List.replicate (8 - (lg_sl ([.ref a0, .int (nI j), .int (w)])).length) Slot.unset).toArray = ls at hl ⊢
  have hl : lv_has ls 8 [(0, .ref a0), (1, .int (nI j)), (2, .int (w))] := hl
  refine lv_aload_n hx hb dX0_spelling_0 rfl (lv_at hl 0 rfl) ?_
  refine lv_iload_n hx hb dX0_spelling_1 rfl (lv_at hl 1 rfl) ?_
  refine vp_callSi (va_Run.run (va_runV (As := [.int (nI j)]) (rest := []) ⟨hx, hb, hml, hown, hts⟩ (c_isAtHand_in l dC dI cA a0 a1 a2 Z T K j h9 hj) (cwV 1 hts (gV (fun _ h => h) ml_X0_71 im_X0_isAtHand se_X0_isAtHand ini_X0 co_X0_isAtHand) rfl rfl rfl pd_X0_isAtHand ⟨Nat.le_of_ble_eq_true rfl, Nat.le_of_ble_eq_true rfl⟩) (lm_preR hK hP) rfl rfl hl.1 rfl (lv_room (Nat.le_of_ble_eq_true rfl)) dX0_spelling_2 ⟨Nat.zero_le _, Nat.zero_le _⟩)) (fun r_1 (e_2 : r_1 = nI 1) => ?_)
  subst e_2
  refine lv_if_eq (tgt := 12) hx hb dX0_spelling_5 (by decide) (fun c_3 => ?_) (fun c_3 => ?_)
  · have c_3 := (nI_eq (a := 1) (b := 0) (by omega) (by omega)).mp c_3
    omega
  · have c_3 := mt (nI_eq (a := 1) (b := 0) (by omega) (by omega)).mpr c_3
    refine lv_iload_n hx hb dX0_spelling_8 rfl (lv_at hl 2 rfl) ?_
    refine lv_if_ge (tgt := 14) hx hb dX0_spelling_9 (by decide) (fun c_4 => ?_) (fun c_4 => ?_)
    · exact absurd h (Int32.not_lt.mpr c_4)
    · refine lv_lconst (v := lN 0) hx hb dX0_spelling_12 (by decide) ?_
      exact W.lret (v := lN 0) hx hb hr (fun t ht hW => ⟨_, rfl, rfl, ht⟩) (fun q h => by cases h) dX0_spelling_13
set_option maxHeartbeats 4000000 in
set_option maxRecDepth 100000 in
theorem c_spelling_in (l : Launch) (dC : Nat → ClassId) (dI : Nat → Nat → Nat) (cA : ClassId) (a0 a1 a2 : Nat) (Z : Nat → Nat) (T K : Nat → Int64) (j : Nat) (q : Nat) (hn : Z 2 ≤ 32768) (h9 : Z 9 ≤ 8000) (hj : j < Z 9) (hq : q < 2 ^ 31) : Met l yX0_spelling wX0_spelling ({ frames := 2, cells := 0, slots := 0, locals := 44 }) (va_Pc [.ref a0, .int (nI j), .int (nI q)] (lmR dC dI cA a0 a1 a2 (Z, T, K))) (vp_Sl (fun r => r = lN (spA T Z K j q))) 0 0 (fun _ => False) := by
  refine Met.ofW (cc := cX0_spelling) (maxL := 8) (ret := (some .long)) (by decide) rfl ?_
  intro p e s m args below meth c s₁ B hml hv
  obtain ⟨rfl, hP, hK⟩ := hv
  have hx := B.exec
  have hb := B.bytes
  have hr := B.returns
  have hts : ∀ w ∈ bw, w.before _ s = true := fun w h => atoms_spec (ws := wX0_spelling) B.pre w (bc w h)
  have hown : s.vm.findClass RX0 = some m.cls := findClass_of_methodNamed B.named
  have hlocks := B.notSynchronized
  have hl := lv_entry ([.ref a0, .int (nI j), .int (nI q)]) (n := 8) (Nat.le_of_ble_eq_true rfl)
  rw [lg_entry_eq]
  generalize (lg_sl ([.ref a0, .int (nI j), .int (nI q)]) ++ List.replicate (8 - (lg_sl ([.ref a0, .int (nI j), .int (nI q)])).length) Slot.unset).toArray = ls at hl ⊢
  have hl : lv_has ls 8 [(0, .ref a0), (1, .int (nI j)), (2, .int (nI q))] := hl
  refine lv_aload_n hx hb dX0_spelling_0 rfl (lv_at hl 0 rfl) ?_
  refine lv_iload_n hx hb dX0_spelling_1 rfl (lv_at hl 1 rfl) ?_
  refine vp_callSi (va_Run.run (va_runV (As := [.int (nI j)]) (rest := []) ⟨hx, hb, hml, hown, hts⟩ (c_isAtHand_in l dC dI cA a0 a1 a2 Z T K j h9 hj) (cwV 1 hts (gV (fun _ h => h) ml_X0_71 im_X0_isAtHand se_X0_isAtHand ini_X0 co_X0_isAtHand) rfl rfl rfl pd_X0_isAtHand ⟨Nat.le_of_ble_eq_true rfl, Nat.le_of_ble_eq_true rfl⟩) (lm_preR hK hP) rfl rfl hl.1 rfl (lv_room (Nat.le_of_ble_eq_true rfl)) dX0_spelling_2 ⟨Nat.zero_le _, Nat.zero_le _⟩)) (fun r_1 (e_2 : r_1 = nI 1) => ?_)
  subst e_2
  refine lv_if_eq (tgt := 12) hx hb dX0_spelling_5 (by decide) (fun c_3 => ?_) (fun c_3 => ?_)
  · have c_3 := (nI_eq (a := 1) (b := 0) (by omega) (by omega)).mp c_3
    omega
  · have c_3 := mt (nI_eq (a := 1) (b := 0) (by omega) (by omega)).mpr c_3
    refine lv_iload_n hx hb dX0_spelling_8 rfl (lv_at hl 2 rfl) ?_
    refine lv_if_ge (tgt := 14) hx hb dX0_spelling_9 (by decide) (fun c_4 => ?_) (fun c_4 => ?_)
    · have c_4 := (nI_leI (a := 0) (b := q) (by omega) (by omega)).mp c_4
      refine lv_aload_n hx hb dX0_spelling_14 rfl (lv_at hl 0 rfl) ?_
      refine va_get (D := (dC, dI)) (ci := 0) (v := .ref a2) (C := RX0) (T := TX0) (N := 16) hx hb hts inX0 hown hK hP 0 rfl rfl 1 (by decide) (hts _ fl_X0_13) (fun _ h9 => h9) rfl dX0_spelling_15 ?_
      refine lv_iload_n hx hb dX0_spelling_18 rfl (lv_at hl 1 rfl) ?_
      refine va_lald hx hb hK hP 2 0 rfl rfl (vp_in_nI (by omega) (by decide)) dX0_spelling_19 ?_
      refine lv_topl (fun x_5 e_6 => ?_)
      obtain rfl : x_5 = lN (tn (K j)) := e_6.trans (by rw [nI_clamp (by omega), tn_lN])
      refine vp_callSi (va_Run.run (va_runS (As := [.long (lN (tn (K j)))]) (rest := []) ⟨hx, hb, hml, hown, hts⟩ (c_bytesOf l (tn (K j)) (tn_lt _)) (cwS 1 hts (gS (fun _ h => h) ml_X0_76 sm_X0_bytesOf ini_X0 co_X0_bytesOf) rfl rfl rfl pd_X0_bytesOf ⟨Nat.le_of_ble_eq_true rfl, Nat.le_of_ble_eq_true rfl⟩) st_pre rfl rfl hl.1 rfl (lv_room (Nat.le_of_ble_eq_true rfl)) dX0_spelling_20 ⟨Nat.zero_le _, Nat.zero_le _⟩)) (fun r_7 (e_8 : r_7 = nI ((tn (K j)) / 2 ^ 16 % 65536)) => ?_)
      subst e_8
      refine lv_istore_n (lv' := [(3, .int (nI ((tn (K j)) / 2 ^ 16 % 65536))), (0, .ref a0), (1, .int (nI j)), (2, .int (nI q))]) hx hb dX0_spelling_23 rfl hl (by decide) rfl (fun ls hl => ?_)
      refine lv_iload_n hx hb dX0_spelling_24 rfl (lv_at hl 3 rfl) ?_
      refine lv_iload_n hx hb dX0_spelling_25 rfl (lv_at hl 0 rfl) ?_
      refine lv_bipush (v := nI 8) hx hb dX0_spelling_26 (by decide) ?_
      refine lv_idiv hx hb dX0_spelling_28 (by decide) ?_
      refine lv_topi (fun x_9 e_10 => ?_)
      obtain rfl : x_9 = nI (((tn (K j)) / 2 ^ 16 % 65536) / 8) := e_10.trans (pk_div (by omega) (by decide) (by decide))
      refine lv_icmp_le (tgt := 34) hx hb dX0_spelling_29 (by decide) (fun c_11 => ?_) (fun c_11 => ?_)
      · have c_11 := (nI_leI (a := q) (b := ((tn (K j)) / 2 ^ 16 % 65536) / 8) (by omega) (by omega)).mp c_11
        refine lv_aload_n hx hb dX0_spelling_34 rfl (lv_at hl 1 rfl) ?_
        refine va_get (D := (dC, dI)) (ci := 0) (v := .ref a2) (C := RX0) (T := TX0) (N := 16) hx hb hts inX0 hown hK hP 0 rfl rfl 1 (by decide) (hts _ fl_X0_13) (fun _ h9 => h9) rfl dX0_spelling_35 ?_
        refine lv_iload_n hx hb dX0_spelling_38 rfl (lv_at hl 2 rfl) ?_
        refine va_lald hx hb hK hP 2 0 rfl rfl (vp_in_nI (by omega) (by decide)) dX0_spelling_39 ?_
        refine lv_topl (fun x_12 e_13 => ?_)
        obtain rfl : x_12 = lN (tn (K j)) := e_13.trans (by rw [nI_clamp (by omega), tn_lN])
        refine vp_callSi (va_Run.run (va_runS (As := [.long (lN (tn (K j)))]) (rest := []) ⟨hx, hb, hml, hown, hts⟩ (c_startOf l (tn (K j))) (cwS 1 hts (gS (fun _ h => h) ml_X0_80 sm_X0_startOf ini_X0 co_X0_startOf) rfl rfl rfl pd_X0_startOf ⟨Nat.le_of_ble_eq_true rfl, Nat.le_of_ble_eq_true rfl⟩) st_pre rfl rfl hl.1 rfl (lv_room (Nat.le_of_ble_eq_true rfl)) dX0_spelling_40 ⟨Nat.zero_le _, Nat.zero_le _⟩)) (fun r_14 (e_15 : r_14 = nI ((tn (K j)) % 65536)) => ?_)
        subst e_15
        refine lv_istore (lv' := [(4, .int (nI ((tn (K j)) % 65536))), (3, .int (nI ((tn (K j)) / 2 ^ 16 % 65536))), (0, .ref a0), (1, .int (nI j)), (2, .int (nI q))]) hx hb dX0_spelling_43 hl (by decide) rfl (fun ls hl => ?_)
        refine lv_iconst (v := nI 0) hx hb dX0_spelling_45 (by decide) ?_
        refine lv_istore (lv' := [(5, .int (nI 0)), (4, .int (nI ((tn (K j)) % 65536))), (3, .int (nI ((tn (K j)) / 2 ^ 16 % 65536))), (0, .ref a0), (1, .int (nI j)), (2, .int (nI q))]) hx hb dX0_spelling_46 hl (by decide) rfl (fun ls hl => ?_)
        have hbB : tkB K j < 65536 := Nat.mod_lt _ (by decide)
        have hbS : tkS K j < 65536 := Nat.mod_lt _ (by decide)
        exact k_spelling_48 hx hb hr hml hown hts hlocks hK hP q (tkB K j) hn (by unfold tkB at hbB; omega) hbB (fun r => r = lN (spA T Z K j q)) (8 * q + 1) (tkS K j) 0 (by omega) (by omega) (by omega) (by rw [spA, if_neg (by unfold tkB; omega)]) _ (lv_sub hl [3, 5, 2, 1, 0] rfl)
      · have c_11 := mt (nI_leI (a := q) (b := ((tn (K j)) / 2 ^ 16 % 65536) / 8) (by omega) (by omega)).mpr c_11
        refine lv_lconst (v := lN 0) hx hb dX0_spelling_32 (by decide) ?_
        exact W.lret (v := lN 0) hx hb hr (fun t ht hW => ⟨_, rfl, (by rw [spA, if_pos (by unfold tkB; omega)]), ht⟩) (fun q h => by cases h) dX0_spelling_33
    · have c_4 := mt (nI_leI (a := 0) (b := q) (by omega) (by omega)).mpr c_4
      omega
