/-! the law's cases with their contracts; the law's loop -/
theorem lt_of_neg {x : Int32} (h : x < 0) : x < nI 1 := by
  rw [Int32.lt_iff_toInt_lt] at h ⊢
  rw [nI_toInt (by decide)]
  have : (0 : Int32).toInt = 0 := by decide
  omega
theorem lt_of_le' {x : Int32} {a b : Nat} (hab : a < b) (hb : b < 2 ^ 31) (h : nI b ≤ x) : nI a < x := by
  rw [Int32.le_iff_toInt_le, nI_toInt hb] at h
  rw [Int32.lt_iff_toInt_lt, nI_toInt (by omega)]
  omega
set_option maxHeartbeats 4000000 in
set_option maxRecDepth 100000 in
theorem ld_feed {p : Program} {l : Launch} {e : Env} {s : State} {m : MethodId} {below : List Frame} {meth : Method} {c : Code} {b L : Nat} {xs : Nat → Int32} (hL : L ≤ 2048) (C0 : lw_At p s m meth c b L xs) {dC : Nat → ClassId} {dI : Nat → Nat → Nat} {cA : ClassId} {a0 a1 a2 : Nat} {ct : Nat → ClassId} {ad : Nat → Nat} (hK : va_K (dC, dI) vwCl (wwT cA ct) s) {i : Nat} (hi : i + 4 ≤ L) {u : lmU} {v : rmU} {H : Heap} {locs : List Loc} (hP : va_P (dC, dI) vwCl (wwW cA a0 a1 a2 ct ad u v) H) (hD : va_D (fun q : Nat => s.heap.size ≤ q) (wwW cA a0 a1 a2 ct ad u v)) (hS : va_S (fun q : Nat => s.heap.size ≤ q) s.heap H locs) {ls : Array Slot} (hl : lv_has ls 4 [(0, .ref b), (1, .ref a0), (2, .ref (ad 0)), (3, .int (nI i))]) (hE : EQV u v) (kk : ∀ (u1 : lmU) (v1 : rmU) (H1 : Heap) (locs1 : List Loc), EQV u1 v1 → va_P (dC, dI) vwCl (wwW cA a0 a1 a2 ct ad u1 v1) H1 → va_D (fun q : Nat => s.heap.size ≤ q) (wwW cA a0 a1 a2 ct ad u1 v1) → va_S (fun q : Nat => s.heap.size ≤ q) s.heap H1 locs1 → W p l e room_1 s m #[Value.ref b] below meth c H1 locs1 13 207972 (lw_Z below #[Value.ref b] s) (F0 m 303 ls [])) : W p l e room_1 s m #[Value.ref b] below meth c H locs 13 207972 (lw_Z below #[Value.ref b] s) (F0 m 80 ls []) := by
  obtain ⟨Z, T, K⟩ := u
  obtain ⟨Y, x1, x2, x3, x4, x5, x6, x7, x8, x9⟩ := v
  have hE : RZ Z T K Y x1 x2 x5 x6 x7 x8 x9 := hE
  have hE0 := hE
  obtain ⟨⟨⟨r1, r2, r3, r4, r5, r6⟩, ⟨hI, r7⟩, ⟨r8, r9, r10⟩, r11⟩, ht, h1, h2⟩ := hE0
  unfold lmI at hI
  have bad : (xs (i + 3) < nI 1 ∨ nI 8 < xs (i + 3)) → W p l e room_1 s m #[Value.ref b] below meth c H locs 13 207972 (lw_Z below #[Value.ref b] s) (F0 m 80 ls []) := fun h =>
    lc_feed hL C0 hK hi hP hD hS hl (fun sz => c_feed_bad l dC dI cA a0 a1 a2 sz Z T K _ _ h) (fun sz => r_feed_bad l dC dI ct ad sz Y x1 x2 x3 x4 x5 x6 x7 x8 x9 _ _ h) (fun r u1 r2 v1 q1 q2 => by obtain ⟨rfl, rfl⟩ := q1; obtain ⟨rfl, rfl⟩ := q2; exact ⟨rfl, hE⟩) kk
  rcases pk_ix (xs (i + 3)) (n := 9) (by decide) with h | h | ⟨k0, hk, hk2⟩
  · exact bad (Or.inl (lt_of_neg h))
  · exact bad (Or.inr (lt_of_le' (by decide) (by decide) h))
  · by_cases hk0 : k0 = 0
    · exact bad (Or.inl (by rw [hk2, hk0]; decide))
    · by_cases hf : Z 2 + k0 ≤ 32768
      · refine lc_feed hL C0 hK hi hP hD hS hl (fun sz => by rw [hk2]; exact c_feed_ok l dC dI cA a0 a1 a2 sz Z T K _ k0 (tn_lt _) (by omega) (by omega) hf) (fun sz => by rw [hk2]; exact r_feed_ok l dC dI ct ad sz Y x1 x2 x3 x4 x5 x6 x7 x8 x9 _ k0 (by omega) (by omega) (by omega)) (fun r u1 r2 v1 q1 q2 => ?_) kk
        obtain ⟨T1, rfl, rfl, hT⟩ := q1
        obtain ⟨rfl, rfl⟩ := q2
        refine ⟨by rw [r1], ?_⟩
        exact eq_app (gT := fun j => tn (fdL (xs (i + 1)) (xs (i + 2))) / 2 ^ (8 * j) % 256) hE hf hT (fun _ _ => rfl) (fun j => Nat.mod_lt _ (by decide))
      · exact lc_feed hL C0 hK hi hP hD hS hl (fun sz => by rw [hk2]; exact c_feed_full l dC dI cA a0 a1 a2 sz Z T K _ k0 (by omega) (by omega) (by omega) (by omega)) (fun sz => by rw [hk2]; exact r_feed_full l dC dI ct ad sz Y x1 x2 x3 x4 x5 x6 x7 x8 x9 _ k0 (by omega) (by omega) (by omega) (by omega)) (fun r u1 r2 v1 q1 q2 => by obtain ⟨rfl, rfl⟩ := q1; obtain ⟨rfl, rfl⟩ := q2; exact ⟨rfl, hE⟩) kk
set_option maxHeartbeats 4000000 in
set_option maxRecDepth 100000 in
theorem ld_again {p : Program} {l : Launch} {e : Env} {s : State} {m : MethodId} {below : List Frame} {meth : Method} {c : Code} {b L : Nat} {xs : Nat → Int32} (hL : L ≤ 2048) (C0 : lw_At p s m meth c b L xs) {dC : Nat → ClassId} {dI : Nat → Nat → Nat} {cA : ClassId} {a0 a1 a2 : Nat} {ct : Nat → ClassId} {ad : Nat → Nat} (hK : va_K (dC, dI) vwCl (wwT cA ct) s) {i : Nat} (hi : i + 4 ≤ L) {u : lmU} {v : rmU} {H : Heap} {locs : List Loc} (hP : va_P (dC, dI) vwCl (wwW cA a0 a1 a2 ct ad u v) H) (hD : va_D (fun q : Nat => s.heap.size ≤ q) (wwW cA a0 a1 a2 ct ad u v)) (hS : va_S (fun q : Nat => s.heap.size ≤ q) s.heap H locs) {ls : Array Slot} (hl : lv_has ls 4 [(0, .ref b), (1, .ref a0), (2, .ref (ad 0)), (3, .int (nI i))]) (hE : EQV u v) (kk : ∀ (u1 : lmU) (v1 : rmU) (H1 : Heap) (locs1 : List Loc), EQV u1 v1 → va_P (dC, dI) vwCl (wwW cA a0 a1 a2 ct ad u1 v1) H1 → va_D (fun q : Nat => s.heap.size ≤ q) (wwW cA a0 a1 a2 ct ad u1 v1) → va_S (fun q : Nat => s.heap.size ≤ q) s.heap H1 locs1 → W p l e room_1 s m #[Value.ref b] below meth c H1 locs1 13 207972 (lw_Z below #[Value.ref b] s) (F0 m 303 ls [])) : W p l e room_1 s m #[Value.ref b] below meth c H locs 13 207972 (lw_Z below #[Value.ref b] s) (F0 m 143 ls []) := by
  obtain ⟨Z, T, K⟩ := u
  obtain ⟨Y, x1, x2, x3, x4, x5, x6, x7, x8, x9⟩ := v
  have hE : RZ Z T K Y x1 x2 x5 x6 x7 x8 x9 := hE
  have hE0 := hE
  obtain ⟨⟨⟨r1, r2, r3, r4, r5, r6⟩, ⟨hI, r7⟩, ⟨r8, r9, r10⟩, r11⟩, ht, h1, h2⟩ := hE0
  unfold lmI at hI
  by_cases hf0 : xs (i + 1) < 0
  · exact lc_again hL C0 hK hi hP hD hS hl (fun sz => c_again_neg l dC dI cA a0 a1 a2 sz Z T K _ _ hf0) (fun sz => r_again_neg l dC dI ct ad sz Y x1 x2 x3 x4 x5 x6 x7 x8 x9 _ _ hf0) (fun r u1 r2 v1 q1 q2 => by obtain ⟨rfl, rfl⟩ := q1; obtain ⟨rfl, rfl⟩ := q2; exact ⟨rfl, hE⟩) kk
  · obtain ⟨f, hf, hf2⟩ := nI_of hf0
    have bad : (xs (i + 2) < nI 1 ∨ nI (Z 2) < xs (i + 2)) → W p l e room_1 s m #[Value.ref b] below meth c H locs 13 207972 (lw_Z below #[Value.ref b] s) (F0 m 143 ls []) := fun h =>
      lc_again hL C0 hK hi hP hD hS hl (fun sz => by rw [hf2]; exact c_again_cnt l dC dI cA a0 a1 a2 sz Z T K f _ hf h) (fun sz => by rw [hf2]; exact r_again_cnt l dC dI ct ad sz Y x1 x2 x3 x4 x5 x6 x7 x8 x9 f _ hf (by omega) (by rw [r1]; exact h)) (fun r u1 r2 v1 q1 q2 => by obtain ⟨rfl, rfl⟩ := q1; obtain ⟨rfl, rfl⟩ := q2; exact ⟨rfl, hE⟩) kk
    rcases pk_ix (xs (i + 2)) (n := Z 2 + 1) (by omega) with h | h | ⟨k0, hk, hk2⟩
    · exact bad (Or.inl (lt_of_neg h))
    · exact bad (Or.inr (lt_of_le' (by omega) (by omega) h))
    · by_cases hk0 : k0 = 0
      · exact bad (Or.inl (by rw [hk2, hk0]; decide))
      · by_cases hg : Z 2 < f + k0
        · exact lc_again hL C0 hK hi hP hD hS hl (fun sz => by rw [hf2, hk2]; exact c_again_far l dC dI cA a0 a1 a2 sz Z T K f k0 (by omega) hf (by omega) (by omega) hg) (fun sz => by rw [hf2, hk2]; exact r_again_far l dC dI ct ad sz Y x1 x2 x3 x4 x5 x6 x7 x8 x9 f k0 (by omega) hf (by omega) (by omega) (by omega)) (fun r u1 r2 v1 q1 q2 => by obtain ⟨rfl, rfl⟩ := q1; obtain ⟨rfl, rfl⟩ := q2; exact ⟨rfl, hE⟩) kk
        · by_cases hfit : Z 2 + k0 ≤ 32768
          · refine lc_again hL C0 hK hi hP hD hS hl (fun sz => by rw [hf2, hk2]; exact c_again_ok l dC dI cA a0 a1 a2 sz Z T K f k0 (by omega) (by omega) hfit) (fun sz => by rw [hf2, hk2]; exact r_again_ok l dC dI ct ad sz Y x1 x2 x3 x4 x5 x6 x7 x8 x9 f k0 (by omega) (by omega) (by omega)) (fun r u1 r2 v1 q1 q2 => ?_) kk
            obtain ⟨T1, rfl, rfl, hT⟩ := q1
            obtain ⟨rfl, rfl⟩ := q2
            refine ⟨by rw [r1], ?_⟩
            exact eq_app (gT := fun j => byt T (f + j)) hE hfit hT (fun j hj => ht _ (by omega)) (fun j => h1 _)
          · exact lc_again hL C0 hK hi hP hD hS hl (fun sz => by rw [hf2, hk2]; exact c_again_full l dC dI cA a0 a1 a2 sz Z T K f k0 (by omega) (by omega) (by omega) (by omega)) (fun sz => by rw [hf2, hk2]; exact r_again_full l dC dI ct ad sz Y x1 x2 x3 x4 x5 x6 x7 x8 x9 f k0 (by omega) (by omega) (by omega) (by omega)) (fun r u1 r2 v1 q1 q2 => by obtain ⟨rfl, rfl⟩ := q1; obtain ⟨rfl, rfl⟩ := q2; exact ⟨rfl, hE⟩) kk
set_option maxHeartbeats 4000000 in
set_option maxRecDepth 100000 in
theorem ld_clear {p : Program} {l : Launch} {e : Env} {s : State} {m : MethodId} {below : List Frame} {meth : Method} {c : Code} {b L : Nat} {xs : Nat → Int32} (hL : L ≤ 2048) (C0 : lw_At p s m meth c b L xs) {dC : Nat → ClassId} {dI : Nat → Nat → Nat} {cA : ClassId} {a0 a1 a2 : Nat} {ct : Nat → ClassId} {ad : Nat → Nat} (hK : va_K (dC, dI) vwCl (wwT cA ct) s) {i : Nat} (hi : i + 4 ≤ L) {u : lmU} {v : rmU} {H : Heap} {locs : List Loc} (hP : va_P (dC, dI) vwCl (wwW cA a0 a1 a2 ct ad u v) H) (hD : va_D (fun q : Nat => s.heap.size ≤ q) (wwW cA a0 a1 a2 ct ad u v)) (hS : va_S (fun q : Nat => s.heap.size ≤ q) s.heap H locs) {ls : Array Slot} (hl : lv_has ls 4 [(0, .ref b), (1, .ref a0), (2, .ref (ad 0)), (3, .int (nI i))]) (hE : EQV u v) (kk : ∀ (u1 : lmU) (v1 : rmU) (H1 : Heap) (locs1 : List Loc), EQV u1 v1 → va_P (dC, dI) vwCl (wwW cA a0 a1 a2 ct ad u1 v1) H1 → va_D (fun q : Nat => s.heap.size ≤ q) (wwW cA a0 a1 a2 ct ad u1 v1) → va_S (fun q : Nat => s.heap.size ≤ q) s.heap H1 locs1 → W p l e room_1 s m #[Value.ref b] below meth c H1 locs1 13 207972 (lw_Z below #[Value.ref b] s) (F0 m 303 ls [])) : W p l e room_1 s m #[Value.ref b] below meth c H locs 13 207972 (lw_Z below #[Value.ref b] s) (F0 m 176 ls []) := by
  obtain ⟨Z, T, K⟩ := u
  obtain ⟨Y, x1, x2, x3, x4, x5, x6, x7, x8, x9⟩ := v
  have hE : RZ Z T K Y x1 x2 x5 x6 x7 x8 x9 := hE
  have hE0 := hE
  obtain ⟨⟨⟨r1, r2, r3, r4, r5, r6⟩, ⟨hI, r7⟩, ⟨r8, r9, r10⟩, r11⟩, ht, h1, h2⟩ := hE0
  unfold lmI at hI
  refine lc_clear hL C0 hK hi hP hD hS hl (fun sz => c_clear l dC dI cA a0 a1 a2 sz Z T K) (fun sz => r_clear l dC dI ct ad sz Y x1 x2 x3 x4 x5 x6 x7 x8 x9) (fun r u1 r2 v1 q1 q2 => ?_) kk
  obtain ⟨rfl, rfl⟩ := q1
  obtain ⟨rfl, rfl⟩ := q2
  exact ⟨by rw [r1], eq_clear hE⟩
set_option maxHeartbeats 4000000 in
set_option maxRecDepth 100000 in
theorem ld_begin {p : Program} {l : Launch} {e : Env} {s : State} {m : MethodId} {below : List Frame} {meth : Method} {c : Code} {b L : Nat} {xs : Nat → Int32} (hL : L ≤ 2048) (C0 : lw_At p s m meth c b L xs) {dC : Nat → ClassId} {dI : Nat → Nat → Nat} {cA : ClassId} {a0 a1 a2 : Nat} {ct : Nat → ClassId} {ad : Nat → Nat} (hK : va_K (dC, dI) vwCl (wwT cA ct) s) {i : Nat} (hi : i + 4 ≤ L) {u : lmU} {v : rmU} {H : Heap} {locs : List Loc} (hP : va_P (dC, dI) vwCl (wwW cA a0 a1 a2 ct ad u v) H) (hD : va_D (fun q : Nat => s.heap.size ≤ q) (wwW cA a0 a1 a2 ct ad u v)) (hS : va_S (fun q : Nat => s.heap.size ≤ q) s.heap H locs) {ls : Array Slot} (hl : lv_has ls 4 [(0, .ref b), (1, .ref a0), (2, .ref (ad 0)), (3, .int (nI i))]) (hE : EQV u v) (kk : ∀ (u1 : lmU) (v1 : rmU) (H1 : Heap) (locs1 : List Loc), EQV u1 v1 → va_P (dC, dI) vwCl (wwW cA a0 a1 a2 ct ad u1 v1) H1 → va_D (fun q : Nat => s.heap.size ≤ q) (wwW cA a0 a1 a2 ct ad u1 v1) → va_S (fun q : Nat => s.heap.size ≤ q) s.heap H1 locs1 → W p l e room_1 s m #[Value.ref b] below meth c H1 locs1 13 207972 (lw_Z below #[Value.ref b] s) (F0 m 303 ls [])) : W p l e room_1 s m #[Value.ref b] below meth c H locs 13 207972 (lw_Z below #[Value.ref b] s) (F0 m 189 ls []) := by
  obtain ⟨Z, T, K⟩ := u
  obtain ⟨Y, x1, x2, x3, x4, x5, x6, x7, x8, x9⟩ := v
  have hE : RZ Z T K Y x1 x2 x5 x6 x7 x8 x9 := hE
  have hE0 := hE
  obtain ⟨⟨⟨r1, r2, r3, r4, r5, r6⟩, ⟨hI, r7⟩, ⟨r8, r9, r10⟩, r11⟩, ht, h1, h2⟩ := hE0
  unfold lmI at hI
  refine lc_begin hL C0 hK hi hP hD hS hl (fun sz => c_begin l dC dI cA a0 a1 a2 sz Z T K) (fun sz => r_begin l dC dI ct ad sz Y x1 x2 x3 x4 x5 x6 x7 x8 x9) (fun u1 v1 q1 q2 => ?_) kk
  subst q1
  subst q2
  exact eq_begin hE
set_option maxHeartbeats 4000000 in
set_option maxRecDepth 100000 in
theorem ld_told {p : Program} {l : Launch} {e : Env} {s : State} {m : MethodId} {below : List Frame} {meth : Method} {c : Code} {b L : Nat} {xs : Nat → Int32} (hL : L ≤ 2048) (C0 : lw_At p s m meth c b L xs) {dC : Nat → ClassId} {dI : Nat → Nat → Nat} {cA : ClassId} {a0 a1 a2 : Nat} {ct : Nat → ClassId} {ad : Nat → Nat} (hK : va_K (dC, dI) vwCl (wwT cA ct) s) {i : Nat} (hi : i + 4 ≤ L) {u : lmU} {v : rmU} {H : Heap} {locs : List Loc} (hP : va_P (dC, dI) vwCl (wwW cA a0 a1 a2 ct ad u v) H) (hD : va_D (fun q : Nat => s.heap.size ≤ q) (wwW cA a0 a1 a2 ct ad u v)) (hS : va_S (fun q : Nat => s.heap.size ≤ q) s.heap H locs) {ls : Array Slot} (hl : lv_has ls 4 [(0, .ref b), (1, .ref a0), (2, .ref (ad 0)), (3, .int (nI i))]) (hE : EQV u v) (kk : ∀ (u1 : lmU) (v1 : rmU) (H1 : Heap) (locs1 : List Loc), EQV u1 v1 → va_P (dC, dI) vwCl (wwW cA a0 a1 a2 ct ad u1 v1) H1 → va_D (fun q : Nat => s.heap.size ≤ q) (wwW cA a0 a1 a2 ct ad u1 v1) → va_S (fun q : Nat => s.heap.size ≤ q) s.heap H1 locs1 → W p l e room_1 s m #[Value.ref b] below meth c H1 locs1 13 207972 (lw_Z below #[Value.ref b] s) (F0 m 303 ls [])) : W p l e room_1 s m #[Value.ref b] below meth c H locs 13 207972 (lw_Z below #[Value.ref b] s) (F0 m 213 ls []) := by
  have hEv := hE
  obtain ⟨Z, T, K⟩ := u
  obtain ⟨Y, x1, x2, x3, x4, x5, x6, x7, x8, x9⟩ := v
  have hE : RZ Z T K Y x1 x2 x5 x6 x7 x8 x9 := hE
  have hE0 := hE
  obtain ⟨⟨⟨r1, r2, r3, r4, r5, r6⟩, ⟨hI, r7⟩, ⟨r8, r9, r10⟩, r11⟩, ht, h1, h2⟩ := hE0
  unfold lmI at hI
  exact lc_told hL C0 hK hi hP hD hS hl hEv (c_told l dC dI cA a0 a1 a2 Z T K _ (by omega) (by omega) (by omega)) (r_told l dC dI ct ad Y x1 x2 x3 x4 x5 x6 x7 x8 x9 _ (by omega) (by omega) r8 r9) (fun r r2 q1 q2 => by rw [q1, q2]; exact eq_told hE _) kk
set_option maxHeartbeats 4000000 in
set_option maxRecDepth 100000 in
theorem ld_token {p : Program} {l : Launch} {e : Env} {s : State} {m : MethodId} {below : List Frame} {meth : Method} {c : Code} {b L : Nat} {xs : Nat → Int32} (hL : L ≤ 2048) (C0 : lw_At p s m meth c b L xs) {dC : Nat → ClassId} {dI : Nat → Nat → Nat} {cA : ClassId} {a0 a1 a2 : Nat} {ct : Nat → ClassId} {ad : Nat → Nat} (hK : va_K (dC, dI) vwCl (wwT cA ct) s) {i : Nat} (hi : i + 4 ≤ L) {u : lmU} {v : rmU} {H : Heap} {locs : List Loc} (hP : va_P (dC, dI) vwCl (wwW cA a0 a1 a2 ct ad u v) H) (hD : va_D (fun q : Nat => s.heap.size ≤ q) (wwW cA a0 a1 a2 ct ad u v)) (hS : va_S (fun q : Nat => s.heap.size ≤ q) s.heap H locs) {ls : Array Slot} (hl : lv_has ls 4 [(0, .ref b), (1, .ref a0), (2, .ref (ad 0)), (3, .int (nI i))]) {dK dV : Nat → Nat} (hw : swd dK dV (fun q : Nat => s.heap.size ≤ q) s s.heap) (hE : EQV u v) (kk : ∀ (u1 : lmU) (v1 : rmU) (H1 : Heap) (locs1 : List Loc), EQV u1 v1 → va_P (dC, dI) vwCl (wwW cA a0 a1 a2 ct ad u1 v1) H1 → va_D (fun q : Nat => s.heap.size ≤ q) (wwW cA a0 a1 a2 ct ad u1 v1) → va_S (fun q : Nat => s.heap.size ≤ q) s.heap H1 locs1 → W p l e room_1 s m #[Value.ref b] below meth c H1 locs1 13 207972 (lw_Z below #[Value.ref b] s) (F0 m 303 ls [])) : W p l e room_1 s m #[Value.ref b] below meth c H locs 13 207972 (lw_Z below #[Value.ref b] s) (F0 m 236 ls []) := by
  have hEv := hE
  obtain ⟨Z, T, K⟩ := u
  obtain ⟨Y, x1, x2, x3, x4, x5, x6, x7, x8, x9⟩ := v
  have hE : RZ Z T K Y x1 x2 x5 x6 x7 x8 x9 := hE
  have hE0 := hE
  obtain ⟨⟨⟨r1, r2, r3, r4, r5, r6⟩, ⟨hI, r7⟩, ⟨r8, r9, r10⟩, r11⟩, ht, h1, h2⟩ := hE0
  unfold lmI at hI
  have out : (xs (i + 1) < 0 ∨ nI (Z 9) ≤ xs (i + 1)) → W p l e room_1 s m #[Value.ref b] below meth c H locs 13 207972 (lw_Z below #[Value.ref b] s) (F0 m 236 ls []) := fun h =>
    lc_token hL C0 hK hi hP hD hS hl hw hEv (c_token_out l dC dI cA a0 a1 a2 Z T K _ _ (by omega) h) (r_token_out l dC dI ct ad dK dV _ Y x1 x2 x3 x4 x5 x6 x7 x8 x9 _ _ (by rw [← r6]; exact h)) (fun r r2 q1 q2 => q1.trans q2.symm) kk
  rcases pk_ix (xs (i + 1)) (n := Z 9) (by omega) with h | h | ⟨j, hj, hj2⟩
  · exact out (Or.inl h)
  · exact out (Or.inr h)
  · obtain ⟨t1, t2, t3, t4, t5, t6, t7, t8⟩ := r11 j hj
    exact lc_token hL C0 hK hi hP hD hS hl hw hEv (by rw [hj2]; exact c_token_in l dC dI cA a0 a1 a2 Z T K j _ (by omega) hj) (by rw [hj2]; exact r_token_in l dC dI ct ad dK dV _ Y x1 x2 x3 x4 x5 x6 x7 x8 x9 j _ (by omega) (by omega) t6 t7 t4 (by omega) r9) (fun r r2 q1 q2 => by rw [q1, q2]; exact eq_token hE hj _) kk
set_option maxHeartbeats 4000000 in
set_option maxRecDepth 100000 in
theorem ld_spelling {p : Program} {l : Launch} {e : Env} {s : State} {m : MethodId} {below : List Frame} {meth : Method} {c : Code} {b L : Nat} {xs : Nat → Int32} (hL : L ≤ 2048) (C0 : lw_At p s m meth c b L xs) {dC : Nat → ClassId} {dI : Nat → Nat → Nat} {cA : ClassId} {a0 a1 a2 : Nat} {ct : Nat → ClassId} {ad : Nat → Nat} (hK : va_K (dC, dI) vwCl (wwT cA ct) s) {i : Nat} (hi : i + 4 ≤ L) {u : lmU} {v : rmU} {H : Heap} {locs : List Loc} (hP : va_P (dC, dI) vwCl (wwW cA a0 a1 a2 ct ad u v) H) (hD : va_D (fun q : Nat => s.heap.size ≤ q) (wwW cA a0 a1 a2 ct ad u v)) (hS : va_S (fun q : Nat => s.heap.size ≤ q) s.heap H locs) {ls : Array Slot} (hl : lv_has ls 4 [(0, .ref b), (1, .ref a0), (2, .ref (ad 0)), (3, .int (nI i))]) (hE : EQV u v) (kk : ∀ (u1 : lmU) (v1 : rmU) (H1 : Heap) (locs1 : List Loc), EQV u1 v1 → va_P (dC, dI) vwCl (wwW cA a0 a1 a2 ct ad u1 v1) H1 → va_D (fun q : Nat => s.heap.size ≤ q) (wwW cA a0 a1 a2 ct ad u1 v1) → va_S (fun q : Nat => s.heap.size ≤ q) s.heap H1 locs1 → W p l e room_1 s m #[Value.ref b] below meth c H1 locs1 13 207972 (lw_Z below #[Value.ref b] s) (F0 m 303 ls [])) : W p l e room_1 s m #[Value.ref b] below meth c H locs 13 207972 (lw_Z below #[Value.ref b] s) (F0 m 269 ls []) := by
  have hEv := hE
  obtain ⟨Z, T, K⟩ := u
  obtain ⟨Y, x1, x2, x3, x4, x5, x6, x7, x8, x9⟩ := v
  have hE : RZ Z T K Y x1 x2 x5 x6 x7 x8 x9 := hE
  have hE0 := hE
  obtain ⟨⟨⟨r1, r2, r3, r4, r5, r6⟩, ⟨hI, r7⟩, ⟨r8, r9, r10⟩, r11⟩, ht, h1, h2⟩ := hE0
  unfold lmI at hI
  have out : (xs (i + 1) < 0 ∨ nI (Z 9) ≤ xs (i + 1)) → W p l e room_1 s m #[Value.ref b] below meth c H locs 13 207972 (lw_Z below #[Value.ref b] s) (F0 m 269 ls []) := fun h =>
    lc_spelling hL C0 hK hi hP hD hS hl hEv (c_spelling_out l dC dI cA a0 a1 a2 Z T K _ _ (by omega) h) (r_spelling_out l dC dI ct ad Y x1 x2 x3 x4 x5 x6 x7 x8 x9 _ _ (by rw [← r6]; exact h)) (fun r r2 q1 q2 => q1.trans q2.symm) kk
  rcases pk_ix (xs (i + 1)) (n := Z 9) (by omega) with h | h | ⟨j, hj, hj2⟩
  · exact out (Or.inl h)
  · exact out (Or.inr h)
  · obtain ⟨t1, t2, t3, t4, t5, t6, t7, t8⟩ := r11 j hj
    by_cases hw0 : xs (i + 2) < 0
    · exact lc_spelling hL C0 hK hi hP hD hS hl hEv (by rw [hj2]; exact c_spelling_neg l dC dI cA a0 a1 a2 Z T K j _ (by omega) hj hw0) (by rw [hj2]; exact r_spelling_far l dC dI ct ad Y x1 x2 x3 x4 x5 x6 x7 x8 x9 j _ (by omega) (by omega) (Or.inl hw0)) (fun r r2 q1 q2 => by rw [q1, q2]) kk
    · obtain ⟨q, hq, hq2⟩ := nI_of hw0
      have hs := eq_spell hE (q := q) hj
      by_cases hq4 : q < 4096
      · exact lc_spelling hL C0 hK hi hP hD hS hl hEv (by rw [hj2, hq2]; exact c_spelling_in l dC dI cA a0 a1 a2 Z T K j q (by omega) (by omega) hj hq) (by rw [hj2, hq2]; exact r_spelling_in l dC dI ct ad Y x1 x2 x3 x4 x5 x6 x7 x8 x9 j q (by omega) (by omega) (by omega) t7 hq4 r9) (fun r r2 q1 q2 => by rw [q1, q2, hs.1]) kk
      · exact lc_spelling hL C0 hK hi hP hD hS hl hEv (by rw [hj2, hq2]; exact c_spelling_in l dC dI cA a0 a1 a2 Z T K j q (by omega) (by omega) hj hq) (by rw [hj2, hq2]; exact r_spelling_far l dC dI ct ad Y x1 x2 x3 x4 x5 x6 x7 x8 x9 j _ (by omega) (by omega) (Or.inr (nI_le (by omega) (by omega)))) (fun r r2 q1 q2 => by rw [q1, q2, hs.2 (by omega)]) kk
set_option maxHeartbeats 4000000 in
set_option maxRecDepth 100000 in
/-- the law's loop: at its head, with i ints read, both objects hold the same -/
theorem law_loop {p : Program} {l : Launch} {e : Env} {s : State} {m : MethodId} {below : List Frame} {meth : Method} {c : Code} {b L : Nat} {xs : Nat → Int32} (hL : L ≤ 2048) (C0 : lw_At p s m meth c b L xs) {dC : Nat → ClassId} {dI : Nat → Nat → Nat} {cA : ClassId} {a0 a1 a2 : Nat} {ct : Nat → ClassId} {ad : Nat → Nat} (hK : va_K (dC, dI) vwCl (wwT cA ct) s) {dK dV : Nat → Nat} (hw : swd dK dV (fun q : Nat => s.heap.size ≤ q) s s.heap) : ∀ (n i : Nat), L + 4 ≤ i + n → i ≤ L + 3 → ∀ (u : lmU) (v : rmU) (H : Heap) (locs : List Loc), EQV u v → va_P (dC, dI) vwCl (wwW cA a0 a1 a2 ct ad u v) H → va_D (fun q : Nat => s.heap.size ≤ q) (wwW cA a0 a1 a2 ct ad u v) → va_S (fun q : Nat => s.heap.size ≤ q) s.heap H locs → ∀ (ls : Array Slot), lv_has ls 4 [(0, .ref b), (1, .ref a0), (2, .ref (ad 0)), (3, .int (nI i))] → W p l e room_1 s m #[Value.ref b] below meth c H locs 13 207972 (lw_Z below #[Value.ref b] s) (F0 m 18 ls []) := by
  intro n
  induction n with
  | zero => intro i h1 h2; exact absurd h1 (by omega)
  | succ n ih =>
    intro i hin hi3 u v H locs hE hP hD hS ls hl
    have C1 := C0
    obtain ⟨hx, hb, hr, hml, hown, hts0, hX, hbl, hlocks, hgv⟩ := C1
    have hbA : ¬ (fun q : Nat => s.heap.size ≤ q) b := Nat.not_le.mpr hbl
    refine lv_iload_n hx hb dL_law_18 rfl (lv_at hl 3 rfl) ?_
    refine lv_aload_n hx hb dL_law_19 rfl (lv_at hl 0 rfl) ?_
    refine va_slen hx hb hX hbl hbA hS dL_law_20 ?_
    refine lv_iconst (v := nI 4) hx hb dL_law_21 (by decide) ?_
    refine lv_isub hx hb dL_law_22 ?_
    have hsub : (nI L - nI 4).toInt = (L : Int) - (4 : Nat) := pk_sub_toInt (by omega) (by decide)
    have hiI : (nI i).toInt = (i : Int) := nI_toInt (by omega)
    refine lv_icmp_gt (tgt := 309) hx hb dL_law_23 (by decide) (fun c_1 => ?_) (fun c_1 => ?_)
    · refine lv_iconst (v := 1) hx hb dL_law_309 (by decide) ?_
      refine va_forget (fun q hq => hS.2.2 q hq) ?_
      refine W.widen (k := 600000) (n := 7302250) (by decide) (by decide) ?_
      exact lw_ret hx hb hr hlocks dL_law_310
    · have hi : i + 4 ≤ L := by
        have c_1 : ¬ (nI L - nI 4) < nI i := c_1
        rw [Int32.lt_iff_toInt_lt, hsub, hiI] at c_1
        omega
      have kk : ∀ (u1 : lmU) (v1 : rmU) (H1 : Heap) (locs1 : List Loc), EQV u1 v1 → va_P (dC, dI) vwCl (wwW cA a0 a1 a2 ct ad u1 v1) H1 → va_D (fun q : Nat => s.heap.size ≤ q) (wwW cA a0 a1 a2 ct ad u1 v1) → va_S (fun q : Nat => s.heap.size ≤ q) s.heap H1 locs1 → W p l e room_1 s m #[Value.ref b] below meth c H1 locs1 13 207972 (lw_Z below #[Value.ref b] s) (F0 m 303 ls []) := by
        intro u1 v1 H1 locs1 hE1 hP1 hD1 hS1
        refine lv_iinc (v := nI (i + 4)) (lv' := [(3, .int (nI (i + 4))), (0, .ref b), (1, .ref a0), (2, .ref (ad 0))]) hx hb dL_law_303 hl (k := 3) rfl (by exact nI_add i 4) (by decide) rfl (fun ls hl => ?_)
        refine lv_goto (tgt := 18) hx hb dL_law_306 (by decide) ?_
        exact ih (i + 4) (by omega) (by omega) u1 v1 H1 locs1 hE1 hP1 hD1 hS1 ls (lv_sub hl [1, 2, 3, 0] rfl)
      refine lv_aload_n hx hb dL_law_26 rfl (lv_at hl 0 rfl) ?_
      refine lv_iload_n hx hb dL_law_27 rfl (lv_at hl 3 rfl) ?_
      refine va_sld hx hb hX hbl hbA hS (vp_in_nI (by omega) (by omega)) dL_law_28 ?_
      refine lv_bipush (v := nI 7) hx hb dL_law_29 (by decide) ?_
      refine lv_iand hx hb dL_law_31 ?_
      refine lv_topi (fun x ex => ?_)
      obtain ⟨k, hk, rfl⟩ : ∃ k, k < 8 ∧ x = nI k := by
        obtain ⟨w, -, hw⟩ := wb_of32 (xs (nI i).toNatClampNeg)
        refine ⟨w % 8, Nat.mod_lt _ (by decide), ?_⟩
        rw [ex, hw]
        first
          | exact nI_mask w 3 (P := 8) (by decide) (by decide)
          | (rw [Int32.and_comm]; exact nI_mask w 3 (P := 8) (by decide) (by decide))
      clear ex
      rcases (show k = 0 ∨ k = 1 ∨ k = 2 ∨ k = 3 ∨ k = 4 ∨ k = 5 ∨ k = 6 ∨ k = 7 by omega) with rfl | rfl | rfl | rfl | rfl | rfl | rfl | rfl
      · refine lv_tableIn (off := 48) (tgt := 80) hx hb dL_law_32 (by decide) (by decide) (by decide) (by decide) ?_
        exact ld_feed hL C0 hK hi hP hD hS hl hE kk
      · refine lv_tableIn (off := 111) (tgt := 143) hx hb dL_law_32 (by decide) (by decide) (by decide) (by decide) ?_
        exact ld_again hL C0 hK hi hP hD hS hl hE kk
      · refine lv_tableIn (off := 144) (tgt := 176) hx hb dL_law_32 (by decide) (by decide) (by decide) (by decide) ?_
        exact ld_clear hL C0 hK hi hP hD hS hl hE kk
      · refine lv_tableIn (off := 157) (tgt := 189) hx hb dL_law_32 (by decide) (by decide) (by decide) (by decide) ?_
        exact ld_begin hL C0 hK hi hP hD hS hl hE kk
      · refine lv_tableIn (off := 168) (tgt := 200) hx hb dL_law_32 (by decide) (by decide) (by decide) (by decide) ?_
        exact lc_next hL C0 hK hi hP hD hS hl hw hE kk
      · refine lv_tableIn (off := 181) (tgt := 213) hx hb dL_law_32 (by decide) (by decide) (by decide) (by decide) ?_
        exact ld_told hL C0 hK hi hP hD hS hl hE kk
      · refine lv_tableIn (off := 204) (tgt := 236) hx hb dL_law_32 (by decide) (by decide) (by decide) (by decide) ?_
        exact ld_token hL C0 hK hi hP hD hS hl hw hE kk
      · refine lv_tableIn (off := 237) (tgt := 269) hx hb dL_law_32 (by decide) (by decide) (by decide) (by decide) ?_
        exact ld_spelling hL C0 hK hi hP hD hS hl hE kk
