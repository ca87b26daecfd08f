/-! the law's eight cases, each from its own start on to 303 -/
def fdL (x y : Int32) : Int64 := (x.toInt64 <<< ((nI 32).toInt64 &&& 63)) ||| (y.toInt64 &&& lN 4294967295)
set_option maxHeartbeats 4000000 in
set_option maxRecDepth 100000 in
theorem lc_feed {p : Program} {l : Launch} {e : Env} {s : State} {m : MethodId} {below : List Frame} {meth : Method} {c : Code} {b L : Nat} {xs : Nat → Int32} (hL : L ≤ 2048) (C0 : lw_At p s m meth c b L xs) {dC : Nat → ClassId} {dI : Nat → Nat → Nat} {cA : ClassId} {a0 a1 a2 : Nat} {ct : Nat → ClassId} {ad : Nat → Nat} (hK : va_K (dC, dI) vwCl (wwT cA ct) s) {i : Nat} (hi : i + 4 ≤ L) {u : lmU} {v : rmU} {H : Heap} {locs : List Loc} (hP : va_P (dC, dI) vwCl (wwW cA a0 a1 a2 ct ad u v) H) (hD : va_D (fun q : Nat => s.heap.size ≤ q) (wwW cA a0 a1 a2 ct ad u v)) (hS : va_S (fun q : Nat => s.heap.size ≤ q) s.heap H locs) {ls : Array Slot} (hl : lv_has ls 4 [(0, .ref b), (1, .ref a0), (2, .ref (ad 0)), (3, .int (nI i))]) {pX : Int32 → lmU → Prop} {pM : Int32 → rmU → Prop} (Cx : ∀ sz : Nat, Met l yX0_feed wX0_feed ({ frames := 1, cells := 0, slots := 0, locals := 23 }) (va_Pc [.ref a0, .long (lN (tn (fdL (xs (i + 1)) (xs (i + 2))))), .int (xs (i + 3))] (lmP dC dI cA a0 a1 a2 sz u)) (va_Qi pX (lmB dC dI cA a0 a1 a2 (va_A (lmW cA a0 a1 a2 u) sz)) (va_A (lmW cA a0 a1 a2 u) sz)) 0 0 (va_A (lmW cA a0 a1 a2 u) sz)) (Cm : ∀ sz : Nat, Met l yX1_feed wX1_feed ({ frames := 0, cells := 0, slots := 0, locals := 0 }) (va_Pc [.ref (ad 0), .long (lN (tn (fdL (xs (i + 1)) (xs (i + 2))))), .int (xs (i + 3))] (rmP dC dI ct ad sz v)) (va_Qi pM (rmB dC dI ct ad (va_A (rmW ct ad v) sz)) (va_A (rmW ct ad v) sz)) 0 0 (va_A (rmW ct ad v) sz)) (hpq : ∀ (r : Int32) (u1 : lmU) (r2 : Int32) (v1 : rmU), pX r u1 → pM r2 v1 → r = r2 ∧ EQV u1 v1) (kk : ∀ (u1 : lmU) (v1 : rmU) (H1 : Heap) (locs1 : List Loc), EQV u1 v1 → va_P (dC, dI) vwCl (wwW cA a0 a1 a2 ct ad u1 v1) H1 → va_D (fun q : Nat => s.heap.size ≤ q) (wwW cA a0 a1 a2 ct ad u1 v1) → va_S (fun q : Nat => s.heap.size ≤ q) s.heap H1 locs1 → W p l e room_1 s m #[Value.ref b] below meth c H1 locs1 13 207972 (lw_Z below #[Value.ref b] s) (F0 m 303 ls [])) : W p l e room_1 s m #[Value.ref b] below meth c H locs 13 207972 (lw_Z below #[Value.ref b] s) (F0 m 80 ls []) := by
  obtain ⟨hx, hb, hr, hml, hown, hts0, hX, hbl, hlocks, hgv⟩ := C0
  have hown : s.vm.findClass RL = some m.cls := hown
  have hts : ∀ w ∈ bw, w.before #[Value.ref b] s = true := fun w h => hts0 w (bw_in h)
  have hA : ∀ q : Nat, s.heap.size ≤ q → (fun q : Nat => s.heap.size ≤ q) q := fun _ h => h
  have hbA : ¬ (fun q : Nat => s.heap.size ≤ q) b := Nat.not_le.mpr hbl
  refine lv_aload_n hx hb dL_law_80 rfl (lv_at hl 1 rfl) ?_
  refine lv_aload_n hx hb dL_law_81 rfl (lv_at hl 0 rfl) ?_
  refine lv_iload_n hx hb dL_law_82 rfl (lv_at hl 3 rfl) ?_
  refine lv_iconst (v := nI 1) hx hb dL_law_83 (by decide) ?_
  refine lv_iadd hx hb dL_law_84 ?_
  refine lv_topi (fun x_2 e_2 => ?_)
  obtain rfl : x_2 = nI (i + 1) := e_2.trans (nI_add i 1)
  refine va_sld hx hb hX hbl hbA hS (vp_in_nI (by omega) (by omega)) dL_law_85 ?_
  refine lv_topi (fun x_3 e_3 => ?_)
  obtain rfl : x_3 = xs (i + 1) := e_3.trans (by rw [nI_clamp (by omega)])
  refine lv_i2l (v := (xs (i + 1)).toInt64) hx hb dL_law_86 rfl ?_
  refine lv_bipush (v := nI 32) hx hb dL_law_87 (by decide) ?_
  refine lv_lshl (v := (xs (i + 1)).toInt64 <<< ((nI 32).toInt64 &&& 63)) hx hb dL_law_89 rfl ?_
  refine lv_aload_n hx hb dL_law_90 rfl (lv_at hl 0 rfl) ?_
  refine lv_iload_n hx hb dL_law_91 rfl (lv_at hl 3 rfl) ?_
  refine lv_iconst (v := nI 2) hx hb dL_law_92 (by decide) ?_
  refine lv_iadd hx hb dL_law_93 ?_
  refine lv_topi (fun x_4 e_4 => ?_)
  obtain rfl : x_4 = nI (i + 2) := e_4.trans (nI_add i 2)
  refine va_sld hx hb hX hbl hbA hS (vp_in_nI (by omega) (by omega)) dL_law_94 ?_
  refine lv_topi (fun x_5 e_5 => ?_)
  obtain rfl : x_5 = xs (i + 2) := e_5.trans (by rw [nI_clamp (by omega)])
  refine lv_i2l (v := (xs (i + 2)).toInt64) hx hb dL_law_95 rfl ?_
  refine lv_ldc2 (v := lN 4294967295) hx hb hown (hts _ cn_L_13) dL_law_96 ?_
  refine lv_land hx hb dL_law_99 ?_
  refine lv_lor hx hb dL_law_100 ?_
  refine lv_topl (fun x_1 e_1 => ?_)
  obtain rfl : x_1 = lN (tn (fdL (xs (i + 1)) (xs (i + 2)))) := e_1.trans (tn_lN _).symm
  refine lv_aload_n hx hb dL_law_101 rfl (lv_at hl 0 rfl) ?_
  refine lv_iload_n hx hb dL_law_102 rfl (lv_at hl 3 rfl) ?_
  refine lv_iconst (v := nI 3) hx hb dL_law_103 (by decide) ?_
  refine lv_iadd hx hb dL_law_104 ?_
  refine lv_topi (fun x_6 e_6 => ?_)
  obtain rfl : x_6 = nI (i + 3) := e_6.trans (nI_add i 3)
  refine va_sld hx hb hX hbl hbA hS (vp_in_nI (by omega) (by omega)) dL_law_105 ?_
  refine lv_topi (fun x_7 e_7 => ?_)
  obtain rfl : x_7 = xs (i + 3) := e_7.trans (by rw [nI_clamp (by omega)])
  refine ww_xi (va_runV (As := [.long (lN (tn (fdL (xs (i + 1)) (xs (i + 2))))), .int (xs (i + 3))]) (rest := []) ⟨hx, hb, hml, hown, hts⟩ (Cx H.size) (cwV 2 hts (gV (fun _ h => h) ml_L_15 im_X0_feed se_X0_feed ini_X0 co_X0_feed) rfl rfl rfl pd_X0_feed ⟨Nat.le_of_ble_eq_true rfl, Nat.le_of_ble_eq_true rfl⟩) (lm_preS (ww_Kx hK) (ww_Px hP) (ww_Dx hD)) rfl rfl hl.1 rfl (lv_room (Nat.le_of_ble_eq_true rfl)) dL_law_106 ⟨Nat.le_of_ble_eq_true rfl, Nat.le_of_ble_eq_true rfl⟩) hP hD hS hA (fun r1 u1 H locs q1 hP hD hS => ?_)
  refine lv_aload_n hx hb dL_law_109 rfl (lv_at hl 2 rfl) ?_
  refine lv_aload_n hx hb dL_law_110 rfl (lv_at hl 0 rfl) ?_
  refine lv_iload_n hx hb dL_law_111 rfl (lv_at hl 3 rfl) ?_
  refine lv_iconst (v := nI 1) hx hb dL_law_112 (by decide) ?_
  refine lv_iadd hx hb dL_law_113 ?_
  refine lv_topi (fun x_9 e_9 => ?_)
  obtain rfl : x_9 = nI (i + 1) := e_9.trans (nI_add i 1)
  refine va_sld hx hb hX hbl hbA hS (vp_in_nI (by omega) (by omega)) dL_law_114 ?_
  refine lv_topi (fun x_10 e_10 => ?_)
  obtain rfl : x_10 = xs (i + 1) := e_10.trans (by rw [nI_clamp (by omega)])
  refine lv_i2l (v := (xs (i + 1)).toInt64) hx hb dL_law_115 rfl ?_
  refine lv_bipush (v := nI 32) hx hb dL_law_116 (by decide) ?_
  refine lv_lshl (v := (xs (i + 1)).toInt64 <<< ((nI 32).toInt64 &&& 63)) hx hb dL_law_118 rfl ?_
  refine lv_aload_n hx hb dL_law_119 rfl (lv_at hl 0 rfl) ?_
  refine lv_iload_n hx hb dL_law_120 rfl (lv_at hl 3 rfl) ?_
  refine lv_iconst (v := nI 2) hx hb dL_law_121 (by decide) ?_
  refine lv_iadd hx hb dL_law_122 ?_
  refine lv_topi (fun x_11 e_11 => ?_)
  obtain rfl : x_11 = nI (i + 2) := e_11.trans (nI_add i 2)
  refine va_sld hx hb hX hbl hbA hS (vp_in_nI (by omega) (by omega)) dL_law_123 ?_
  refine lv_topi (fun x_12 e_12 => ?_)
  obtain rfl : x_12 = xs (i + 2) := e_12.trans (by rw [nI_clamp (by omega)])
  refine lv_i2l (v := (xs (i + 2)).toInt64) hx hb dL_law_124 rfl ?_
  refine lv_ldc2 (v := lN 4294967295) hx hb hown (hts _ cn_L_13) dL_law_125 ?_
  refine lv_land hx hb dL_law_128 ?_
  refine lv_lor hx hb dL_law_129 ?_
  refine lv_topl (fun x_8 e_8 => ?_)
  obtain rfl : x_8 = lN (tn (fdL (xs (i + 1)) (xs (i + 2)))) := e_8.trans (tn_lN _).symm
  refine lv_aload_n hx hb dL_law_130 rfl (lv_at hl 0 rfl) ?_
  refine lv_iload_n hx hb dL_law_131 rfl (lv_at hl 3 rfl) ?_
  refine lv_iconst (v := nI 3) hx hb dL_law_132 (by decide) ?_
  refine lv_iadd hx hb dL_law_133 ?_
  refine lv_topi (fun x_13 e_13 => ?_)
  obtain rfl : x_13 = nI (i + 3) := e_13.trans (nI_add i 3)
  refine va_sld hx hb hX hbl hbA hS (vp_in_nI (by omega) (by omega)) dL_law_134 ?_
  refine lv_topi (fun x_14 e_14 => ?_)
  obtain rfl : x_14 = xs (i + 3) := e_14.trans (by rw [nI_clamp (by omega)])
  refine ww_mi (va_runV (As := [.long (lN (tn (fdL (xs (i + 1)) (xs (i + 2))))), .int (xs (i + 3))]) (rest := [.int r1]) ⟨hx, hb, hml, hown, hts⟩ (Cm H.size) (cwV 2 hts (gV (fun _ h => h) ml_L_19 im_X1_feed se_X1_feed ini_X1 co_X1_feed) rfl rfl rfl pd_X1_feed ⟨Nat.le_of_ble_eq_true rfl, Nat.le_of_ble_eq_true rfl⟩) (rm_preS (ww_Km hK) (ww_Pm hP) (ww_Dm hD)) rfl rfl hl.1 rfl (lv_room (Nat.le_of_ble_eq_true rfl)) dL_law_135 ⟨Nat.le_of_ble_eq_true rfl, Nat.le_of_ble_eq_true rfl⟩) hP hD hS hA (fun r2 v1 H locs q2 hP hD hS => ?_)
  obtain ⟨h1, h2⟩ := hpq r1 u1 r2 v1 q1 q2
  refine lv_icmp_eq (tgt := 303) hx hb dL_law_138 (by decide) (fun _ => ?_) (fun z => absurd h1 z)
  exact kk u1 v1 H locs h2 hP hD hS
set_option maxHeartbeats 4000000 in
set_option maxRecDepth 100000 in
theorem lc_again {p : Program} {l : Launch} {e : Env} {s : State} {m : MethodId} {below : List Frame} {meth : Method} {c : Code} {b L : Nat} {xs : Nat → Int32} (hL : L ≤ 2048) (C0 : lw_At p s m meth c b L xs) {dC : Nat → ClassId} {dI : Nat → Nat → Nat} {cA : ClassId} {a0 a1 a2 : Nat} {ct : Nat → ClassId} {ad : Nat → Nat} (hK : va_K (dC, dI) vwCl (wwT cA ct) s) {i : Nat} (hi : i + 4 ≤ L) {u : lmU} {v : rmU} {H : Heap} {locs : List Loc} (hP : va_P (dC, dI) vwCl (wwW cA a0 a1 a2 ct ad u v) H) (hD : va_D (fun q : Nat => s.heap.size ≤ q) (wwW cA a0 a1 a2 ct ad u v)) (hS : va_S (fun q : Nat => s.heap.size ≤ q) s.heap H locs) {ls : Array Slot} (hl : lv_has ls 4 [(0, .ref b), (1, .ref a0), (2, .ref (ad 0)), (3, .int (nI i))]) {pX : Int32 → lmU → Prop} {pM : Int32 → rmU → Prop} (Cx : ∀ sz : Nat, Met l yX0_again wX0_again ({ frames := 1, cells := 0, slots := 0, locals := 23 }) (va_Pc [.ref a0, .int (xs (i + 1)), .int (xs (i + 2))] (lmP dC dI cA a0 a1 a2 sz u)) (va_Qi pX (lmB dC dI cA a0 a1 a2 (va_A (lmW cA a0 a1 a2 u) sz)) (va_A (lmW cA a0 a1 a2 u) sz)) 0 0 (va_A (lmW cA a0 a1 a2 u) sz)) (Cm : ∀ sz : Nat, Met l yX1_again wX1_again ({ frames := 0, cells := 0, slots := 0, locals := 0 }) (va_Pc [.ref (ad 0), .int (xs (i + 1)), .int (xs (i + 2))] (rmP dC dI ct ad sz v)) (va_Qi pM (rmB dC dI ct ad (va_A (rmW ct ad v) sz)) (va_A (rmW ct ad v) sz)) 0 0 (va_A (rmW ct ad v) sz)) (hpq : ∀ (r : Int32) (u1 : lmU) (r2 : Int32) (v1 : rmU), pX r u1 → pM r2 v1 → r = r2 ∧ EQV u1 v1) (kk : ∀ (u1 : lmU) (v1 : rmU) (H1 : Heap) (locs1 : List Loc), EQV u1 v1 → va_P (dC, dI) vwCl (wwW cA a0 a1 a2 ct ad u1 v1) H1 → va_D (fun q : Nat => s.heap.size ≤ q) (wwW cA a0 a1 a2 ct ad u1 v1) → va_S (fun q : Nat => s.heap.size ≤ q) s.heap H1 locs1 → W p l e room_1 s m #[Value.ref b] below meth c H1 locs1 13 207972 (lw_Z below #[Value.ref b] s) (F0 m 303 ls [])) : W p l e room_1 s m #[Value.ref b] below meth c H locs 13 207972 (lw_Z below #[Value.ref b] s) (F0 m 143 ls []) := by
  obtain ⟨hx, hb, hr, hml, hown, hts0, hX, hbl, hlocks, hgv⟩ := C0
  have hown : s.vm.findClass RL = some m.cls := hown
  have hts : ∀ w ∈ bw, w.before #[Value.ref b] s = true := fun w h => hts0 w (bw_in h)
  have hA : ∀ q : Nat, s.heap.size ≤ q → (fun q : Nat => s.heap.size ≤ q) q := fun _ h => h
  have hbA : ¬ (fun q : Nat => s.heap.size ≤ q) b := Nat.not_le.mpr hbl
  refine lv_aload_n hx hb dL_law_143 rfl (lv_at hl 1 rfl) ?_
  refine lv_aload_n hx hb dL_law_144 rfl (lv_at hl 0 rfl) ?_
  refine lv_iload_n hx hb dL_law_145 rfl (lv_at hl 3 rfl) ?_
  refine lv_iconst (v := nI 1) hx hb dL_law_146 (by decide) ?_
  refine lv_iadd hx hb dL_law_147 ?_
  refine lv_topi (fun x_15 e_15 => ?_)
  obtain rfl : x_15 = nI (i + 1) := e_15.trans (nI_add i 1)
  refine va_sld hx hb hX hbl hbA hS (vp_in_nI (by omega) (by omega)) dL_law_148 ?_
  refine lv_topi (fun x_16 e_16 => ?_)
  obtain rfl : x_16 = xs (i + 1) := e_16.trans (by rw [nI_clamp (by omega)])
  refine lv_aload_n hx hb dL_law_149 rfl (lv_at hl 0 rfl) ?_
  refine lv_iload_n hx hb dL_law_150 rfl (lv_at hl 3 rfl) ?_
  refine lv_iconst (v := nI 2) hx hb dL_law_151 (by decide) ?_
  refine lv_iadd hx hb dL_law_152 ?_
  refine lv_topi (fun x_17 e_17 => ?_)
  obtain rfl : x_17 = nI (i + 2) := e_17.trans (nI_add i 2)
  refine va_sld hx hb hX hbl hbA hS (vp_in_nI (by omega) (by omega)) dL_law_153 ?_
  refine lv_topi (fun x_18 e_18 => ?_)
  obtain rfl : x_18 = xs (i + 2) := e_18.trans (by rw [nI_clamp (by omega)])
  refine ww_xi (va_runV (As := [.int (xs (i + 1)), .int (xs (i + 2))]) (rest := []) ⟨hx, hb, hml, hown, hts⟩ (Cx H.size) (cwV 2 hts (gV (fun _ h => h) ml_L_20 im_X0_again se_X0_again ini_X0 co_X0_again) rfl rfl rfl pd_X0_again ⟨Nat.le_of_ble_eq_true rfl, Nat.le_of_ble_eq_true rfl⟩) (lm_preS (ww_Kx hK) (ww_Px hP) (ww_Dx hD)) rfl rfl hl.1 rfl (lv_room (Nat.le_of_ble_eq_true rfl)) dL_law_154 ⟨Nat.le_of_ble_eq_true rfl, Nat.le_of_ble_eq_true rfl⟩) hP hD hS hA (fun r1 u1 H locs q1 hP hD hS => ?_)
  refine lv_aload_n hx hb dL_law_157 rfl (lv_at hl 2 rfl) ?_
  refine lv_aload_n hx hb dL_law_158 rfl (lv_at hl 0 rfl) ?_
  refine lv_iload_n hx hb dL_law_159 rfl (lv_at hl 3 rfl) ?_
  refine lv_iconst (v := nI 1) hx hb dL_law_160 (by decide) ?_
  refine lv_iadd hx hb dL_law_161 ?_
  refine lv_topi (fun x_19 e_19 => ?_)
  obtain rfl : x_19 = nI (i + 1) := e_19.trans (nI_add i 1)
  refine va_sld hx hb hX hbl hbA hS (vp_in_nI (by omega) (by omega)) dL_law_162 ?_
  refine lv_topi (fun x_20 e_20 => ?_)
  obtain rfl : x_20 = xs (i + 1) := e_20.trans (by rw [nI_clamp (by omega)])
  refine lv_aload_n hx hb dL_law_163 rfl (lv_at hl 0 rfl) ?_
  refine lv_iload_n hx hb dL_law_164 rfl (lv_at hl 3 rfl) ?_
  refine lv_iconst (v := nI 2) hx hb dL_law_165 (by decide) ?_
  refine lv_iadd hx hb dL_law_166 ?_
  refine lv_topi (fun x_21 e_21 => ?_)
  obtain rfl : x_21 = nI (i + 2) := e_21.trans (nI_add i 2)
  refine va_sld hx hb hX hbl hbA hS (vp_in_nI (by omega) (by omega)) dL_law_167 ?_
  refine lv_topi (fun x_22 e_22 => ?_)
  obtain rfl : x_22 = xs (i + 2) := e_22.trans (by rw [nI_clamp (by omega)])
  refine ww_mi (va_runV (As := [.int (xs (i + 1)), .int (xs (i + 2))]) (rest := [.int r1]) ⟨hx, hb, hml, hown, hts⟩ (Cm H.size) (cwV 2 hts (gV (fun _ h => h) ml_L_24 im_X1_again se_X1_again ini_X1 co_X1_again) rfl rfl rfl pd_X1_again ⟨Nat.le_of_ble_eq_true rfl, Nat.le_of_ble_eq_true rfl⟩) (rm_preS (ww_Km hK) (ww_Pm hP) (ww_Dm hD)) rfl rfl hl.1 rfl (lv_room (Nat.le_of_ble_eq_true rfl)) dL_law_168 ⟨Nat.le_of_ble_eq_true rfl, Nat.le_of_ble_eq_true rfl⟩) hP hD hS hA (fun r2 v1 H locs q2 hP hD hS => ?_)
  obtain ⟨h1, h2⟩ := hpq r1 u1 r2 v1 q1 q2
  refine lv_icmp_eq (tgt := 303) hx hb dL_law_171 (by decide) (fun _ => ?_) (fun z => absurd h1 z)
  exact kk u1 v1 H locs h2 hP hD hS
set_option maxHeartbeats 4000000 in
set_option maxRecDepth 100000 in
theorem lc_clear {p : Program} {l : Launch} {e : Env} {s : State} {m : MethodId} {below : List Frame} {meth : Method} {c : Code} {b L : Nat} {xs : Nat → Int32} (hL : L ≤ 2048) (C0 : lw_At p s m meth c b L xs) {dC : Nat → ClassId} {dI : Nat → Nat → Nat} {cA : ClassId} {a0 a1 a2 : Nat} {ct : Nat → ClassId} {ad : Nat → Nat} (hK : va_K (dC, dI) vwCl (wwT cA ct) s) {i : Nat} (hi : i + 4 ≤ L) {u : lmU} {v : rmU} {H : Heap} {locs : List Loc} (hP : va_P (dC, dI) vwCl (wwW cA a0 a1 a2 ct ad u v) H) (hD : va_D (fun q : Nat => s.heap.size ≤ q) (wwW cA a0 a1 a2 ct ad u v)) (hS : va_S (fun q : Nat => s.heap.size ≤ q) s.heap H locs) {ls : Array Slot} (hl : lv_has ls 4 [(0, .ref b), (1, .ref a0), (2, .ref (ad 0)), (3, .int (nI i))]) {pX : Int32 → lmU → Prop} {pM : Int32 → rmU → Prop} (Cx : ∀ sz : Nat, Met l yX0_clear wX0_clear ({ frames := 1, cells := 0, slots := 0, locals := 20 }) (va_Pc [.ref a0] (lmP dC dI cA a0 a1 a2 sz u)) (va_Qi pX (lmB dC dI cA a0 a1 a2 (va_A (lmW cA a0 a1 a2 u) sz)) (va_A (lmW cA a0 a1 a2 u) sz)) 0 0 (va_A (lmW cA a0 a1 a2 u) sz)) (Cm : ∀ sz : Nat, Met l yX1_clear wX1_clear ({ frames := 1, cells := 0, slots := 0, locals := 20 }) (va_Pc [.ref (ad 0)] (rmP dC dI ct ad sz v)) (va_Qi pM (rmB dC dI ct ad (va_A (rmW ct ad v) sz)) (va_A (rmW ct ad v) sz)) 0 0 (va_A (rmW ct ad v) sz)) (hpq : ∀ (r : Int32) (u1 : lmU) (r2 : Int32) (v1 : rmU), pX r u1 → pM r2 v1 → r = r2 ∧ EQV u1 v1) (kk : ∀ (u1 : lmU) (v1 : rmU) (H1 : Heap) (locs1 : List Loc), EQV u1 v1 → va_P (dC, dI) vwCl (wwW cA a0 a1 a2 ct ad u1 v1) H1 → va_D (fun q : Nat => s.heap.size ≤ q) (wwW cA a0 a1 a2 ct ad u1 v1) → va_S (fun q : Nat => s.heap.size ≤ q) s.heap H1 locs1 → W p l e room_1 s m #[Value.ref b] below meth c H1 locs1 13 207972 (lw_Z below #[Value.ref b] s) (F0 m 303 ls [])) : W p l e room_1 s m #[Value.ref b] below meth c H locs 13 207972 (lw_Z below #[Value.ref b] s) (F0 m 176 ls []) := by
  obtain ⟨hx, hb, hr, hml, hown, hts0, hX, hbl, hlocks, hgv⟩ := C0
  have hown : s.vm.findClass RL = some m.cls := hown
  have hts : ∀ w ∈ bw, w.before #[Value.ref b] s = true := fun w h => hts0 w (bw_in h)
  have hA : ∀ q : Nat, s.heap.size ≤ q → (fun q : Nat => s.heap.size ≤ q) q := fun _ h => h
  have hbA : ¬ (fun q : Nat => s.heap.size ≤ q) b := Nat.not_le.mpr hbl
  refine lv_aload_n hx hb dL_law_176 rfl (lv_at hl 1 rfl) ?_
  refine ww_xi (va_runV (As := []) (rest := []) ⟨hx, hb, hml, hown, hts⟩ (Cx H.size) (cwV 0 hts (gV (fun _ h => h) ml_L_25 im_X0_clear se_X0_clear ini_X0 co_X0_clear) rfl rfl rfl pd_X0_clear ⟨Nat.le_of_ble_eq_true rfl, Nat.le_of_ble_eq_true rfl⟩) (lm_preS (ww_Kx hK) (ww_Px hP) (ww_Dx hD)) rfl rfl hl.1 rfl (lv_room (Nat.le_of_ble_eq_true rfl)) dL_law_177 ⟨Nat.le_of_ble_eq_true rfl, Nat.le_of_ble_eq_true rfl⟩) hP hD hS hA (fun r1 u1 H locs q1 hP hD hS => ?_)
  refine lv_aload_n hx hb dL_law_180 rfl (lv_at hl 2 rfl) ?_
  refine ww_mi (va_runV (As := []) (rest := [.int r1]) ⟨hx, hb, hml, hown, hts⟩ (Cm H.size) (cwV 0 hts (gV (fun _ h => h) ml_L_29 im_X1_clear se_X1_clear ini_X1 co_X1_clear) rfl rfl rfl pd_X1_clear ⟨Nat.le_of_ble_eq_true rfl, Nat.le_of_ble_eq_true rfl⟩) (rm_preS (ww_Km hK) (ww_Pm hP) (ww_Dm hD)) rfl rfl hl.1 rfl (lv_room (Nat.le_of_ble_eq_true rfl)) dL_law_181 ⟨Nat.le_of_ble_eq_true rfl, Nat.le_of_ble_eq_true rfl⟩) hP hD hS hA (fun r2 v1 H locs q2 hP hD hS => ?_)
  obtain ⟨h1, h2⟩ := hpq r1 u1 r2 v1 q1 q2
  refine lv_icmp_eq (tgt := 303) hx hb dL_law_184 (by decide) (fun _ => ?_) (fun z => absurd h1 z)
  exact kk u1 v1 H locs h2 hP hD hS
set_option maxHeartbeats 4000000 in
set_option maxRecDepth 100000 in
theorem lc_begin {p : Program} {l : Launch} {e : Env} {s : State} {m : MethodId} {below : List Frame} {meth : Method} {c : Code} {b L : Nat} {xs : Nat → Int32} (hL : L ≤ 2048) (C0 : lw_At p s m meth c b L xs) {dC : Nat → ClassId} {dI : Nat → Nat → Nat} {cA : ClassId} {a0 a1 a2 : Nat} {ct : Nat → ClassId} {ad : Nat → Nat} (hK : va_K (dC, dI) vwCl (wwT cA ct) s) {i : Nat} (hi : i + 4 ≤ L) {u : lmU} {v : rmU} {H : Heap} {locs : List Loc} (hP : va_P (dC, dI) vwCl (wwW cA a0 a1 a2 ct ad u v) H) (hD : va_D (fun q : Nat => s.heap.size ≤ q) (wwW cA a0 a1 a2 ct ad u v)) (hS : va_S (fun q : Nat => s.heap.size ≤ q) s.heap H locs) {ls : Array Slot} (hl : lv_has ls 4 [(0, .ref b), (1, .ref a0), (2, .ref (ad 0)), (3, .int (nI i))]) {pX : lmU → Prop} {pM : rmU → Prop} (Cx : ∀ sz : Nat, Met l yX0_begin wX0_begin ({ frames := 1, cells := 0, slots := 0, locals := 20 }) (va_Pc [.ref a0] (lmP dC dI cA a0 a1 a2 sz u)) (va_Qv pX (lmB dC dI cA a0 a1 a2 (va_A (lmW cA a0 a1 a2 u) sz)) (va_A (lmW cA a0 a1 a2 u) sz)) 0 0 (va_A (lmW cA a0 a1 a2 u) sz)) (Cm : ∀ sz : Nat, Met l yX1_begin wX1_begin ({ frames := 0, cells := 0, slots := 0, locals := 0 }) (va_Pc [.ref (ad 0)] (rmP dC dI ct ad sz v)) (va_Qv pM (rmB dC dI ct ad (va_A (rmW ct ad v) sz)) (va_A (rmW ct ad v) sz)) 0 0 (va_A (rmW ct ad v) sz)) (hpq : ∀ (u1 : lmU) (v1 : rmU), pX u1 → pM v1 → EQV u1 v1) (kk : ∀ (u1 : lmU) (v1 : rmU) (H1 : Heap) (locs1 : List Loc), EQV u1 v1 → va_P (dC, dI) vwCl (wwW cA a0 a1 a2 ct ad u1 v1) H1 → va_D (fun q : Nat => s.heap.size ≤ q) (wwW cA a0 a1 a2 ct ad u1 v1) → va_S (fun q : Nat => s.heap.size ≤ q) s.heap H1 locs1 → W p l e room_1 s m #[Value.ref b] below meth c H1 locs1 13 207972 (lw_Z below #[Value.ref b] s) (F0 m 303 ls [])) : W p l e room_1 s m #[Value.ref b] below meth c H locs 13 207972 (lw_Z below #[Value.ref b] s) (F0 m 189 ls []) := by
  obtain ⟨hx, hb, hr, hml, hown, hts0, hX, hbl, hlocks, hgv⟩ := C0
  have hown : s.vm.findClass RL = some m.cls := hown
  have hts : ∀ w ∈ bw, w.before #[Value.ref b] s = true := fun w h => hts0 w (bw_in h)
  have hA : ∀ q : Nat, s.heap.size ≤ q → (fun q : Nat => s.heap.size ≤ q) q := fun _ h => h
  have hbA : ¬ (fun q : Nat => s.heap.size ≤ q) b := Nat.not_le.mpr hbl
  refine lv_aload_n hx hb dL_law_189 rfl (lv_at hl 1 rfl) ?_
  refine ww_xv (va_runV (As := []) (rest := []) ⟨hx, hb, hml, hown, hts⟩ (Cx H.size) (cwV 0 hts (gV (fun _ h => h) ml_L_30 im_X0_begin se_X0_begin ini_X0 co_X0_begin) rfl rfl rfl pd_X0_begin ⟨Nat.le_of_ble_eq_true rfl, Nat.le_of_ble_eq_true rfl⟩) (lm_preS (ww_Kx hK) (ww_Px hP) (ww_Dx hD)) rfl rfl hl.1 rfl (lv_room (Nat.le_of_ble_eq_true rfl)) dL_law_190 ⟨Nat.le_of_ble_eq_true rfl, Nat.le_of_ble_eq_true rfl⟩) hP hD hS hA (fun u1 H locs q1 hP hD hS => ?_)
  refine lv_aload_n hx hb dL_law_193 rfl (lv_at hl 2 rfl) ?_
  refine ww_mv (va_runV (As := []) (rest := []) ⟨hx, hb, hml, hown, hts⟩ (Cm H.size) (cwV 0 hts (gV (fun _ h => h) ml_L_33 im_X1_begin se_X1_begin ini_X1 co_X1_begin) rfl rfl rfl pd_X1_begin ⟨Nat.le_of_ble_eq_true rfl, Nat.le_of_ble_eq_true rfl⟩) (rm_preS (ww_Km hK) (ww_Pm hP) (ww_Dm hD)) rfl rfl hl.1 rfl (lv_room (Nat.le_of_ble_eq_true rfl)) dL_law_194 ⟨Nat.le_of_ble_eq_true rfl, Nat.le_of_ble_eq_true rfl⟩) hP hD hS hA (fun v1 H locs q2 hP hD hS => ?_)
  refine lv_goto (tgt := 303) hx hb dL_law_197 (by decide) ?_
  exact kk u1 v1 H locs (hpq u1 v1 q1 q2) hP hD hS
set_option maxHeartbeats 4000000 in
set_option maxRecDepth 100000 in
theorem lc_next {p : Program} {l : Launch} {e : Env} {s : State} {m : MethodId} {below : List Frame} {meth : Method} {c : Code} {b L : Nat} {xs : Nat → Int32} (hL : L ≤ 2048) (C0 : lw_At p s m meth c b L xs) {dC : Nat → ClassId} {dI : Nat → Nat → Nat} {cA : ClassId} {a0 a1 a2 : Nat} {ct : Nat → ClassId} {ad : Nat → Nat} (hK : va_K (dC, dI) vwCl (wwT cA ct) s) {i : Nat} (hi : i + 4 ≤ L) {u : lmU} {v : rmU} {H : Heap} {locs : List Loc} (hP : va_P (dC, dI) vwCl (wwW cA a0 a1 a2 ct ad u v) H) (hD : va_D (fun q : Nat => s.heap.size ≤ q) (wwW cA a0 a1 a2 ct ad u v)) (hS : va_S (fun q : Nat => s.heap.size ≤ q) s.heap H locs) {ls : Array Slot} (hl : lv_has ls 4 [(0, .ref b), (1, .ref a0), (2, .ref (ad 0)), (3, .int (nI i))]) {dK dV : Nat → Nat} (hw : swd dK dV (fun q : Nat => s.heap.size ≤ q) s s.heap) (hE : EQV u v) (kk : ∀ (u1 : lmU) (v1 : rmU) (H1 : Heap) (locs1 : List Loc), EQV u1 v1 → va_P (dC, dI) vwCl (wwW cA a0 a1 a2 ct ad u1 v1) H1 → va_D (fun q : Nat => s.heap.size ≤ q) (wwW cA a0 a1 a2 ct ad u1 v1) → va_S (fun q : Nat => s.heap.size ≤ q) s.heap H1 locs1 → W p l e room_1 s m #[Value.ref b] below meth c H1 locs1 13 207972 (lw_Z below #[Value.ref b] s) (F0 m 303 ls [])) : W p l e room_1 s m #[Value.ref b] below meth c H locs 13 207972 (lw_Z below #[Value.ref b] s) (F0 m 200 ls []) := by
  obtain ⟨hx, hb, hr, hml, hown, hts0, hX, hbl, hlocks, hgv⟩ := C0
  have hown : s.vm.findClass RL = some m.cls := hown
  have hts : ∀ w ∈ bw, w.before #[Value.ref b] s = true := fun w h => hts0 w (bw_in h)
  have hA : ∀ q : Nat, s.heap.size ≤ q → (fun q : Nat => s.heap.size ≤ q) q := fun _ h => h
  have hbA : ¬ (fun q : Nat => s.heap.size ≤ q) b := Nat.not_le.mpr hbl
  obtain ⟨Z, T, K⟩ := u
  obtain ⟨Y, x1, x2, x3, x4, x5, x6, x7, x8, x9⟩ := v
  have hE : RZ Z T K Y x1 x2 x5 x6 x7 x8 x9 := hE
  have hN := eq_next (x3 := x3) (x4 := x4) hE
  obtain ⟨⟨⟨r1, r2, r3, r4, r5, r6⟩, ⟨hI, r7⟩, ⟨r8, r9, r10⟩, r11⟩, ht, h1, h2⟩ := hE
  have hI2 := hI
  unfold lmI at hI2
  refine lv_aload_n hx hb dL_law_200 rfl (lv_at hl 1 rfl) ?_
  refine ww_xi (va_runV (As := []) (rest := []) ⟨hx, hb, hml, hown, hts⟩ (c_next l dC dI cA a0 a1 a2 dK dV (fun q : Nat => s.heap.size ≤ q) H.size Z T K hI (va_free (wc := lmW cA a0 a1 a2 (Z, T, K)) hD hS hA [0, 1, 2] rfl)) (cwV 0 hts (gV (fun _ h => h) ml_L_34 im_X0_next se_X0_next ini_X0 co_X0_next) rfl rfl rfl pd_X0_next ⟨Nat.le_of_ble_eq_true rfl, Nat.le_of_ble_eq_true rfl⟩) (lm_preW (ww_Kx hK) (ww_Px hP) (ww_Dx hD) (hw.kept hS.2.1)) rfl rfl hl.1 rfl (lv_room (Nat.le_of_ble_eq_true rfl)) dL_law_201 ⟨Nat.le_of_ble_eq_true rfl, Nat.le_of_ble_eq_true rfl⟩) hP hD hS hA (fun r1 u1 H locs q1 hP hD hS => ?_)
  refine lv_aload_n hx hb dL_law_204 rfl (lv_at hl 2 rfl) ?_
  refine ww_mi (va_runV (As := []) (rest := [.int r1]) ⟨hx, hb, hml, hown, hts⟩ (r_next l dC dI ct ad dK dV (fun q : Nat => s.heap.size ≤ q) H.size Y x1 x2 x3 x4 x5 x6 x7 x8 x9 (by omega) (by omega) (by omega) (by omega) (fun z => by have := (r2 (by omega)).2.2; omega) h1 h2 (va_free (wc := rmW ct ad (Y, x1, x2, x3, x4, x5, x6, x7, x8, x9)) hD hS hA [3, 4, 5, 6, 7, 8, 9, 10, 11, 12] rfl)) (cwV 0 hts (gV (fun _ h => h) ml_L_37 im_X1_next se_X1_next ini_X1 co_X1_next) rfl rfl rfl pd_X1_next ⟨Nat.le_of_ble_eq_true rfl, Nat.le_of_ble_eq_true rfl⟩) (rm_preW (ww_Km hK) (ww_Pm hP) (ww_Dm hD) (hw.kept hS.2.1)) rfl rfl hl.1 rfl (lv_room (Nat.le_of_ble_eq_true rfl)) dL_law_205 ⟨Nat.le_of_ble_eq_true rfl, Nat.le_of_ble_eq_true rfl⟩) hP hD hS hA (fun r2 v1 H locs q2 hP hD hS => ?_)
  obtain ⟨q1a, q1b⟩ := q1
  obtain ⟨q2a, q2b⟩ := q2
  obtain ⟨n1, n2⟩ := hN
  refine lv_icmp_eq (tgt := 303) hx hb dL_law_208 (by decide) (fun _ => ?_) (fun z => absurd (by rw [q1a, q2a]; exact n1) z)
  refine kk u1 v1 H locs ?_ hP hD hS
  rw [q1b, q2b]
  exact n2
set_option maxHeartbeats 4000000 in
set_option maxRecDepth 100000 in
theorem lc_told {p : Program} {l : Launch} {e : Env} {s : State} {m : MethodId} {below : List Frame} {meth : Method} {c : Code} {b L : Nat} {xs : Nat → Int32} (hL : L ≤ 2048) (C0 : lw_At p s m meth c b L xs) {dC : Nat → ClassId} {dI : Nat → Nat → Nat} {cA : ClassId} {a0 a1 a2 : Nat} {ct : Nat → ClassId} {ad : Nat → Nat} (hK : va_K (dC, dI) vwCl (wwT cA ct) s) {i : Nat} (hi : i + 4 ≤ L) {u : lmU} {v : rmU} {H : Heap} {locs : List Loc} (hP : va_P (dC, dI) vwCl (wwW cA a0 a1 a2 ct ad u v) H) (hD : va_D (fun q : Nat => s.heap.size ≤ q) (wwW cA a0 a1 a2 ct ad u v)) (hS : va_S (fun q : Nat => s.heap.size ≤ q) s.heap H locs) {ls : Array Slot} (hl : lv_has ls 4 [(0, .ref b), (1, .ref a0), (2, .ref (ad 0)), (3, .int (nI i))])  (hE : EQV u v) {pX pM : Int32 → Prop} (Cx : Met l yX0_told wX0_told ({ frames := 2, cells := 0, slots := 0, locals := 42 }) (va_Pc [.ref a0, .int (xs (i + 1))] (lmR dC dI cA a0 a1 a2 u)) (vp_Si pX) 0 0 (fun _ => False)) (Cm : Met l yX1_told wX1_told ({ frames := 0, cells := 0, slots := 0, locals := 0 }) (va_Pc [.ref (ad 0), .int (xs (i + 1))] (rmR dC dI ct ad v)) (vp_Si pM) 0 0 (fun _ => False)) (hpq : ∀ r r2 : Int32, pX r → pM r2 → r = r2) (kk : ∀ (u1 : lmU) (v1 : rmU) (H1 : Heap) (locs1 : List Loc), EQV u1 v1 → va_P (dC, dI) vwCl (wwW cA a0 a1 a2 ct ad u1 v1) H1 → va_D (fun q : Nat => s.heap.size ≤ q) (wwW cA a0 a1 a2 ct ad u1 v1) → va_S (fun q : Nat => s.heap.size ≤ q) s.heap H1 locs1 → W p l e room_1 s m #[Value.ref b] below meth c H1 locs1 13 207972 (lw_Z below #[Value.ref b] s) (F0 m 303 ls [])) : W p l e room_1 s m #[Value.ref b] below meth c H locs 13 207972 (lw_Z below #[Value.ref b] s) (F0 m 213 ls []) := by
  obtain ⟨hx, hb, hr, hml, hown, hts0, hX, hbl, hlocks, hgv⟩ := C0
  have hown : s.vm.findClass RL = some m.cls := hown
  have hts : ∀ w ∈ bw, w.before #[Value.ref b] s = true := fun w h => hts0 w (bw_in h)
  have hA : ∀ q : Nat, s.heap.size ≤ q → (fun q : Nat => s.heap.size ≤ q) q := fun _ h => h
  have hbA : ¬ (fun q : Nat => s.heap.size ≤ q) b := Nat.not_le.mpr hbl
  refine lv_aload_n hx hb dL_law_213 rfl (lv_at hl 1 rfl) ?_
  refine lv_aload_n hx hb dL_law_214 rfl (lv_at hl 0 rfl) ?_
  refine lv_iload_n hx hb dL_law_215 rfl (lv_at hl 3 rfl) ?_
  refine lv_iconst (v := nI 1) hx hb dL_law_216 (by decide) ?_
  refine lv_iadd hx hb dL_law_217 ?_
  refine lv_topi (fun x_23 e_23 => ?_)
  obtain rfl : x_23 = nI (i + 1) := e_23.trans (nI_add i 1)
  refine va_sld hx hb hX hbl hbA hS (vp_in_nI (by omega) (by omega)) dL_law_218 ?_
  refine lv_topi (fun x_24 e_24 => ?_)
  obtain rfl : x_24 = xs (i + 1) := e_24.trans (by rw [nI_clamp (by omega)])
  refine vp_callSi (va_Run.run (va_runV (As := [.int (xs (i + 1))]) (rest := []) ⟨hx, hb, hml, hown, hts⟩ Cx (cwV 1 hts (gV (fun _ h => h) ml_L_38 im_X0_told se_X0_told ini_X0 co_X0_told) rfl rfl rfl pd_X0_told ⟨Nat.le_of_ble_eq_true rfl, Nat.le_of_ble_eq_true rfl⟩) (lm_preR (ww_Kx hK) (ww_Px hP)) rfl rfl hl.1 rfl (lv_room (Nat.le_of_ble_eq_true rfl)) dL_law_219 ⟨Nat.le_of_ble_eq_true rfl, Nat.le_of_ble_eq_true rfl⟩)) (fun r1 q1 => ?_)
  refine lv_aload_n hx hb dL_law_222 rfl (lv_at hl 2 rfl) ?_
  refine lv_aload_n hx hb dL_law_223 rfl (lv_at hl 0 rfl) ?_
  refine lv_iload_n hx hb dL_law_224 rfl (lv_at hl 3 rfl) ?_
  refine lv_iconst (v := nI 1) hx hb dL_law_225 (by decide) ?_
  refine lv_iadd hx hb dL_law_226 ?_
  refine lv_topi (fun x_25 e_25 => ?_)
  obtain rfl : x_25 = nI (i + 1) := e_25.trans (nI_add i 1)
  refine va_sld hx hb hX hbl hbA hS (vp_in_nI (by omega) (by omega)) dL_law_227 ?_
  refine lv_topi (fun x_26 e_26 => ?_)
  obtain rfl : x_26 = xs (i + 1) := e_26.trans (by rw [nI_clamp (by omega)])
  refine vp_callSi (va_Run.run (va_runV (As := [.int (xs (i + 1))]) (rest := [.int r1]) ⟨hx, hb, hml, hown, hts⟩ Cm (cwV 1 hts (gV (fun _ h => h) ml_L_42 im_X1_told se_X1_told ini_X1 co_X1_told) rfl rfl rfl pd_X1_told ⟨Nat.le_of_ble_eq_true rfl, Nat.le_of_ble_eq_true rfl⟩) (rm_preR (ww_Km hK) (ww_Pm hP)) rfl rfl hl.1 rfl (lv_room (Nat.le_of_ble_eq_true rfl)) dL_law_228 ⟨Nat.le_of_ble_eq_true rfl, Nat.le_of_ble_eq_true rfl⟩)) (fun r2 q2 => ?_)
  have h1 := hpq r1 r2 q1 q2
  refine lv_icmp_eq (tgt := 303) hx hb dL_law_231 (by decide) (fun _ => ?_) (fun z => absurd h1 z)
  exact kk u v H locs hE hP hD hS
set_option maxHeartbeats 4000000 in
set_option maxRecDepth 100000 in
theorem lc_token {p : Program} {l : Launch} {e : Env} {s : State} {m : MethodId} {below : List Frame} {meth : Method} {c : Code} {b L : Nat} {xs : Nat → Int32} (hL : L ≤ 2048) (C0 : lw_At p s m meth c b L xs) {dC : Nat → ClassId} {dI : Nat → Nat → Nat} {cA : ClassId} {a0 a1 a2 : Nat} {ct : Nat → ClassId} {ad : Nat → Nat} (hK : va_K (dC, dI) vwCl (wwT cA ct) s) {i : Nat} (hi : i + 4 ≤ L) {u : lmU} {v : rmU} {H : Heap} {locs : List Loc} (hP : va_P (dC, dI) vwCl (wwW cA a0 a1 a2 ct ad u v) H) (hD : va_D (fun q : Nat => s.heap.size ≤ q) (wwW cA a0 a1 a2 ct ad u v)) (hS : va_S (fun q : Nat => s.heap.size ≤ q) s.heap H locs) {ls : Array Slot} (hl : lv_has ls 4 [(0, .ref b), (1, .ref a0), (2, .ref (ad 0)), (3, .int (nI i))]) {dK dV : Nat → Nat} (hw : swd dK dV (fun q : Nat => s.heap.size ≤ q) s s.heap) (hE : EQV u v) {pX pM : Int32 → Prop} (Cx : Met l yX0_token wX0_token ({ frames := 1, cells := 0, slots := 0, locals := 21 }) (va_Pc [.ref a0, .int (xs (i + 1)), .int (xs (i + 2))] (lmR dC dI cA a0 a1 a2 u)) (vp_Si pX) 0 0 (fun _ => False)) (Cm : Met l yX1_token wX1_token ({ frames := 6, cells := 0, slots := 0, locals := 132 }) (va_Pc [.ref (ad 0), .int (xs (i + 1)), .int (xs (i + 2))] (fun U => rmR dC dI ct ad v U ∧ swd dK dV (fun q : Nat => s.heap.size ≤ q) U U.heap)) (vp_Si pM) 0 0 (fun _ => False)) (hpq : ∀ r r2 : Int32, pX r → pM r2 → r = r2) (kk : ∀ (u1 : lmU) (v1 : rmU) (H1 : Heap) (locs1 : List Loc), EQV u1 v1 → va_P (dC, dI) vwCl (wwW cA a0 a1 a2 ct ad u1 v1) H1 → va_D (fun q : Nat => s.heap.size ≤ q) (wwW cA a0 a1 a2 ct ad u1 v1) → va_S (fun q : Nat => s.heap.size ≤ q) s.heap H1 locs1 → W p l e room_1 s m #[Value.ref b] below meth c H1 locs1 13 207972 (lw_Z below #[Value.ref b] s) (F0 m 303 ls [])) : W p l e room_1 s m #[Value.ref b] below meth c H locs 13 207972 (lw_Z below #[Value.ref b] s) (F0 m 236 ls []) := by
  obtain ⟨hx, hb, hr, hml, hown, hts0, hX, hbl, hlocks, hgv⟩ := C0
  have hown : s.vm.findClass RL = some m.cls := hown
  have hts : ∀ w ∈ bw, w.before #[Value.ref b] s = true := fun w h => hts0 w (bw_in h)
  have hA : ∀ q : Nat, s.heap.size ≤ q → (fun q : Nat => s.heap.size ≤ q) q := fun _ h => h
  have hbA : ¬ (fun q : Nat => s.heap.size ≤ q) b := Nat.not_le.mpr hbl
  refine lv_aload_n hx hb dL_law_236 rfl (lv_at hl 1 rfl) ?_
  refine lv_aload_n hx hb dL_law_237 rfl (lv_at hl 0 rfl) ?_
  refine lv_iload_n hx hb dL_law_238 rfl (lv_at hl 3 rfl) ?_
  refine lv_iconst (v := nI 1) hx hb dL_law_239 (by decide) ?_
  refine lv_iadd hx hb dL_law_240 ?_
  refine lv_topi (fun x_27 e_27 => ?_)
  obtain rfl : x_27 = nI (i + 1) := e_27.trans (nI_add i 1)
  refine va_sld hx hb hX hbl hbA hS (vp_in_nI (by omega) (by omega)) dL_law_241 ?_
  refine lv_topi (fun x_28 e_28 => ?_)
  obtain rfl : x_28 = xs (i + 1) := e_28.trans (by rw [nI_clamp (by omega)])
  refine lv_aload_n hx hb dL_law_242 rfl (lv_at hl 0 rfl) ?_
  refine lv_iload_n hx hb dL_law_243 rfl (lv_at hl 3 rfl) ?_
  refine lv_iconst (v := nI 2) hx hb dL_law_244 (by decide) ?_
  refine lv_iadd hx hb dL_law_245 ?_
  refine lv_topi (fun x_29 e_29 => ?_)
  obtain rfl : x_29 = nI (i + 2) := e_29.trans (nI_add i 2)
  refine va_sld hx hb hX hbl hbA hS (vp_in_nI (by omega) (by omega)) dL_law_246 ?_
  refine lv_topi (fun x_30 e_30 => ?_)
  obtain rfl : x_30 = xs (i + 2) := e_30.trans (by rw [nI_clamp (by omega)])
  refine vp_callSi (va_Run.run (va_runV (As := [.int (xs (i + 1)), .int (xs (i + 2))]) (rest := []) ⟨hx, hb, hml, hown, hts⟩ Cx (cwV 2 hts (gV (fun _ h => h) ml_L_43 im_X0_token se_X0_token ini_X0 co_X0_token) rfl rfl rfl pd_X0_token ⟨Nat.le_of_ble_eq_true rfl, Nat.le_of_ble_eq_true rfl⟩) (lm_preR (ww_Kx hK) (ww_Px hP)) rfl rfl hl.1 rfl (lv_room (Nat.le_of_ble_eq_true rfl)) dL_law_247 ⟨Nat.le_of_ble_eq_true rfl, Nat.le_of_ble_eq_true rfl⟩)) (fun r1 q1 => ?_)
  refine lv_aload_n hx hb dL_law_250 rfl (lv_at hl 2 rfl) ?_
  refine lv_aload_n hx hb dL_law_251 rfl (lv_at hl 0 rfl) ?_
  refine lv_iload_n hx hb dL_law_252 rfl (lv_at hl 3 rfl) ?_
  refine lv_iconst (v := nI 1) hx hb dL_law_253 (by decide) ?_
  refine lv_iadd hx hb dL_law_254 ?_
  refine lv_topi (fun x_31 e_31 => ?_)
  obtain rfl : x_31 = nI (i + 1) := e_31.trans (nI_add i 1)
  refine va_sld hx hb hX hbl hbA hS (vp_in_nI (by omega) (by omega)) dL_law_255 ?_
  refine lv_topi (fun x_32 e_32 => ?_)
  obtain rfl : x_32 = xs (i + 1) := e_32.trans (by rw [nI_clamp (by omega)])
  refine lv_aload_n hx hb dL_law_256 rfl (lv_at hl 0 rfl) ?_
  refine lv_iload_n hx hb dL_law_257 rfl (lv_at hl 3 rfl) ?_
  refine lv_iconst (v := nI 2) hx hb dL_law_258 (by decide) ?_
  refine lv_iadd hx hb dL_law_259 ?_
  refine lv_topi (fun x_33 e_33 => ?_)
  obtain rfl : x_33 = nI (i + 2) := e_33.trans (nI_add i 2)
  refine va_sld hx hb hX hbl hbA hS (vp_in_nI (by omega) (by omega)) dL_law_260 ?_
  refine lv_topi (fun x_34 e_34 => ?_)
  obtain rfl : x_34 = xs (i + 2) := e_34.trans (by rw [nI_clamp (by omega)])
  refine vp_callSi (va_Run.run (va_runV (As := [.int (xs (i + 1)), .int (xs (i + 2))]) (rest := [.int r1]) ⟨hx, hb, hml, hown, hts⟩ Cm (cwV 2 hts (gV (fun _ h => h) ml_L_46 im_X1_token se_X1_token ini_X1 co_X1_token) rfl rfl rfl pd_X1_token ⟨Nat.le_of_ble_eq_true rfl, Nat.le_of_ble_eq_true rfl⟩) (rm_preRW (ww_Km hK) (ww_Pm hP) (hw.kept hS.2.1)) rfl rfl hl.1 rfl (lv_room (Nat.le_of_ble_eq_true rfl)) dL_law_261 ⟨Nat.le_of_ble_eq_true rfl, Nat.le_of_ble_eq_true rfl⟩)) (fun r2 q2 => ?_)
  have h1 := hpq r1 r2 q1 q2
  refine lv_icmp_eq (tgt := 303) hx hb dL_law_264 (by decide) (fun _ => ?_) (fun z => absurd h1 z)
  exact kk u v H locs hE hP hD hS
set_option maxHeartbeats 4000000 in
set_option maxRecDepth 100000 in
theorem lc_spelling {p : Program} {l : Launch} {e : Env} {s : State} {m : MethodId} {below : List Frame} {meth : Method} {c : Code} {b L : Nat} {xs : Nat → Int32} (hL : L ≤ 2048) (C0 : lw_At p s m meth c b L xs) {dC : Nat → ClassId} {dI : Nat → Nat → Nat} {cA : ClassId} {a0 a1 a2 : Nat} {ct : Nat → ClassId} {ad : Nat → Nat} (hK : va_K (dC, dI) vwCl (wwT cA ct) s) {i : Nat} (hi : i + 4 ≤ L) {u : lmU} {v : rmU} {H : Heap} {locs : List Loc} (hP : va_P (dC, dI) vwCl (wwW cA a0 a1 a2 ct ad u v) H) (hD : va_D (fun q : Nat => s.heap.size ≤ q) (wwW cA a0 a1 a2 ct ad u v)) (hS : va_S (fun q : Nat => s.heap.size ≤ q) s.heap H locs) {ls : Array Slot} (hl : lv_has ls 4 [(0, .ref b), (1, .ref a0), (2, .ref (ad 0)), (3, .int (nI i))])  (hE : EQV u v) {pX pM : Int64 → Prop} (Cx : Met l yX0_spelling wX0_spelling ({ frames := 2, cells := 0, slots := 0, locals := 44 }) (va_Pc [.ref a0, .int (xs (i + 1)), .int (xs (i + 2))] (lmR dC dI cA a0 a1 a2 u)) (vp_Sl pX) 0 0 (fun _ => False)) (Cm : Met l yX1_spelling wX1_spelling ({ frames := 1, cells := 0, slots := 0, locals := 22 }) (va_Pc [.ref (ad 0), .int (xs (i + 1)), .int (xs (i + 2))] (rmR dC dI ct ad v)) (vp_Sl pM) 0 0 (fun _ => False)) (hpq : ∀ r r2 : Int64, pX r → pM r2 → r = r2) (kk : ∀ (u1 : lmU) (v1 : rmU) (H1 : Heap) (locs1 : List Loc), EQV u1 v1 → va_P (dC, dI) vwCl (wwW cA a0 a1 a2 ct ad u1 v1) H1 → va_D (fun q : Nat => s.heap.size ≤ q) (wwW cA a0 a1 a2 ct ad u1 v1) → va_S (fun q : Nat => s.heap.size ≤ q) s.heap H1 locs1 → W p l e room_1 s m #[Value.ref b] below meth c H1 locs1 13 207972 (lw_Z below #[Value.ref b] s) (F0 m 303 ls [])) : W p l e room_1 s m #[Value.ref b] below meth c H locs 13 207972 (lw_Z below #[Value.ref b] s) (F0 m 269 ls []) := by
  obtain ⟨hx, hb, hr, hml, hown, hts0, hX, hbl, hlocks, hgv⟩ := C0
  have hown : s.vm.findClass RL = some m.cls := hown
  have hts : ∀ w ∈ bw, w.before #[Value.ref b] s = true := fun w h => hts0 w (bw_in h)
  have hA : ∀ q : Nat, s.heap.size ≤ q → (fun q : Nat => s.heap.size ≤ q) q := fun _ h => h
  have hbA : ¬ (fun q : Nat => s.heap.size ≤ q) b := Nat.not_le.mpr hbl
  refine lv_aload_n hx hb dL_law_269 rfl (lv_at hl 1 rfl) ?_
  refine lv_aload_n hx hb dL_law_270 rfl (lv_at hl 0 rfl) ?_
  refine lv_iload_n hx hb dL_law_271 rfl (lv_at hl 3 rfl) ?_
  refine lv_iconst (v := nI 1) hx hb dL_law_272 (by decide) ?_
  refine lv_iadd hx hb dL_law_273 ?_
  refine lv_topi (fun x_35 e_35 => ?_)
  obtain rfl : x_35 = nI (i + 1) := e_35.trans (nI_add i 1)
  refine va_sld hx hb hX hbl hbA hS (vp_in_nI (by omega) (by omega)) dL_law_274 ?_
  refine lv_topi (fun x_36 e_36 => ?_)
  obtain rfl : x_36 = xs (i + 1) := e_36.trans (by rw [nI_clamp (by omega)])
  refine lv_aload_n hx hb dL_law_275 rfl (lv_at hl 0 rfl) ?_
  refine lv_iload_n hx hb dL_law_276 rfl (lv_at hl 3 rfl) ?_
  refine lv_iconst (v := nI 2) hx hb dL_law_277 (by decide) ?_
  refine lv_iadd hx hb dL_law_278 ?_
  refine lv_topi (fun x_37 e_37 => ?_)
  obtain rfl : x_37 = nI (i + 2) := e_37.trans (nI_add i 2)
  refine va_sld hx hb hX hbl hbA hS (vp_in_nI (by omega) (by omega)) dL_law_279 ?_
  refine lv_topi (fun x_38 e_38 => ?_)
  obtain rfl : x_38 = xs (i + 2) := e_38.trans (by rw [nI_clamp (by omega)])
  refine vp_callSl (va_Run.run (va_runV (As := [.int (xs (i + 1)), .int (xs (i + 2))]) (rest := []) ⟨hx, hb, hml, hown, hts⟩ Cx (cwV 2 hts (gV (fun _ h => h) ml_L_47 im_X0_spelling se_X0_spelling ini_X0 co_X0_spelling) rfl rfl rfl pd_X0_spelling ⟨Nat.le_of_ble_eq_true rfl, Nat.le_of_ble_eq_true rfl⟩) (lm_preR (ww_Kx hK) (ww_Px hP)) rfl rfl hl.1 rfl (lv_room (Nat.le_of_ble_eq_true rfl)) dL_law_280 ⟨Nat.le_of_ble_eq_true rfl, Nat.le_of_ble_eq_true rfl⟩)) (fun r1 q1 => ?_)
  refine lv_aload_n hx hb dL_law_283 rfl (lv_at hl 2 rfl) ?_
  refine lv_aload_n hx hb dL_law_284 rfl (lv_at hl 0 rfl) ?_
  refine lv_iload_n hx hb dL_law_285 rfl (lv_at hl 3 rfl) ?_
  refine lv_iconst (v := nI 1) hx hb dL_law_286 (by decide) ?_
  refine lv_iadd hx hb dL_law_287 ?_
  refine lv_topi (fun x_39 e_39 => ?_)
  obtain rfl : x_39 = nI (i + 1) := e_39.trans (nI_add i 1)
  refine va_sld hx hb hX hbl hbA hS (vp_in_nI (by omega) (by omega)) dL_law_288 ?_
  refine lv_topi (fun x_40 e_40 => ?_)
  obtain rfl : x_40 = xs (i + 1) := e_40.trans (by rw [nI_clamp (by omega)])
  refine lv_aload_n hx hb dL_law_289 rfl (lv_at hl 0 rfl) ?_
  refine lv_iload_n hx hb dL_law_290 rfl (lv_at hl 3 rfl) ?_
  refine lv_iconst (v := nI 2) hx hb dL_law_291 (by decide) ?_
  refine lv_iadd hx hb dL_law_292 ?_
  refine lv_topi (fun x_41 e_41 => ?_)
  obtain rfl : x_41 = nI (i + 2) := e_41.trans (nI_add i 2)
  refine va_sld hx hb hX hbl hbA hS (vp_in_nI (by omega) (by omega)) dL_law_293 ?_
  refine lv_topi (fun x_42 e_42 => ?_)
  obtain rfl : x_42 = xs (i + 2) := e_42.trans (by rw [nI_clamp (by omega)])
  refine vp_callSl (va_Run.run (va_runV (As := [.int (xs (i + 1)), .int (xs (i + 2))]) (rest := [.long r1]) ⟨hx, hb, hml, hown, hts⟩ Cm (cwV 2 hts (gV (fun _ h => h) ml_L_51 im_X1_spelling se_X1_spelling ini_X1 co_X1_spelling) rfl rfl rfl pd_X1_spelling ⟨Nat.le_of_ble_eq_true rfl, Nat.le_of_ble_eq_true rfl⟩) (rm_preR (ww_Km hK) (ww_Pm hP)) rfl rfl hl.1 rfl (lv_room (Nat.le_of_ble_eq_true rfl)) dL_law_294 ⟨Nat.le_of_ble_eq_true rfl, Nat.le_of_ble_eq_true rfl⟩)) (fun r2 q2 => ?_)
  have h1 := hpq r1 r2 q1 q2
  subst h1
  refine W.lcmp hx hb dL_law_297 ?_
  refine lv_if_eq (tgt := 303) hx hb dL_law_298 (by decide) (fun _ => ?_) (fun z => absurd (by simp [lg_cmp]) z)
  exact kk u v H locs hE hP hD hS
