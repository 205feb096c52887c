set_option maxHeartbeats 4000000 in
set_option maxRecDepth 100000 in
theorem law_10 {p : Program} {e : Env} {s : State} {m : MethodId} {below : List Frame} {meth : Method} {c : Code} (l : Launch) {b L : Nat} {xs : Nat → Int32} {dC : Nat → ClassId} {dI : Nat → Nat → Nat} {cA : ClassId} {A : Nat → Prop} {o ob C : Nat} {lim : Int32} {cells slots : Nat} {Q : State → Prop} (hL : L ≤ 1539) (C0 : lw_At p s m meth c b L xs) (hA : ∀ q, s.heap.size ≤ q → A q) (hbA : ¬ A b) (hK : va_K (dC, dI) cls [(cA, .int)] s) (hcs : cells ≤ 600000 ∧ slots ≤ 7302249) (hC : szC C) {i : Nat} (hi : i + 3 ≤ L) {ls : Array Slot} {H : Heap} {locs : List Loc} (hE : LE dC dI cA A s.heap b o ob C lim i ls H locs) (kk : ∀ (ls : Array Slot) (H : Heap) (locs : List Loc), LE dC dI cA A s.heap b o ob C lim i ls H locs → W p l e room_1 s m #[Value.ref b] below meth c H locs cells slots Q (F0 m 485 ls [])) : W p l e room_1 s m #[Value.ref b] below meth c H locs cells slots Q (F0 m 340 ls []) := by
  obtain ⟨hx, hb, hr, hml, hown, htl, hX, hbl, hlocks, -⟩ := C0
  have hts : ∀ w ∈ BG, w.before #[Value.ref b] s = true := fun w h => htl w (BG_in w h)
  have hN : NW s := fun w h => va_Nw.of (List.all_eq_true.mp NL_on w h) (htl w (NL_in w h))
  have hlo := hC.lo
  have hhi := hC.hi
  obtain ⟨g, tn, nm, nk, nv, nw, to, om, ok, ov, ow, bw, bm, bk, bv, cm, ck, cv, lo, rk, v, M, K, V, Wd, OM, OK, OV, Wo, M', K', V', Wd', OM', OK', OV', k2, l2, z, hR, hl, hP, hD, hS⟩ := hE
  refine lv_aload_n hx hb d_Law_law_340 rfl (lv_at hl 1 rfl) ?_
  refine lv_aload_n hx hb d_Law_law_341 rfl (lv_at hl 0 rfl) ?_
  refine lv_iload_n hx hb d_Law_law_342 rfl (lv_at hl 3 rfl) ?_
  refine lv_iconst hx hb d_Law_law_343 (v := (nI 1)) rfl ?_
  refine lv_iadd hx hb d_Law_law_344 ?_
  refine lv_asI (y := nI (i + 1)) (nI_add i 1) ?_
  refine s_ld (i := (i + 1)) hx hb hX hbl hbA hS (by omega) (by omega) d_Law_law_345 ?_
  refine ro_i (va_runV (As := [.int (xs (i + 1))]) (rest := []) ⟨hx, hb, hml, hown, hts⟩ (c_keyWord l (xs (i + 1)) (hP.sub (ws' := [(o, .inr (2, [.int lim, .int (nI (3 * C / 4)), .ref g, .ref tn, .ref to, .int lo, .int rk])), (g, .inr (0, [.int v.1, .int v.2.1, .int v.2.2.1, .int v.2.2.2])), (tn, .inr (1, [.int (nI (C - 1)), .ref nm, .ref nk, .ref nv, .ref nw, .int (nI (cnt M C))])), (nm, .inl (cA, C, .inl M)), (nk, .inl (cA, C, .inl K)), (nv, .inl (cA, C, .inl V)), (nw, .inl (cA, 4, .inl Wd)), (to, .inr (1, [.int (nI (C - 1)), .ref om, .ref ok, .ref ov, .ref ow, .int (nI (cnt OM C))])), (om, .inl (cA, C, .inl OM)), (ok, .inl (cA, C, .inl OK)), (ov, .inl (cA, C, .inl OV)), (ow, .inl (cA, 4, .inl Wo))]) [0, 1, 2, 3, 4, 5, 6, 7, 8, 9, 10, 11] rfl)) (cwV 1 hts g_Law_65 rfl rfl rfl (by decide +kernel) ⟨Nat.le_of_ble_eq_true rfl, Nat.le_of_ble_eq_true rfl⟩) ⟨bl_NO, va_recv (q0 := 0) hK hP rfl rfl, fun U hU hW => ⟨rfl, hU, va_K.moved hW.alike hK, NW.warm hW hN⟩⟩ rfl rfl hl.1 rfl (lv_room (Nat.le_of_ble_eq_true rfl)) d_Law_law_346 ⟨hcs.1, hcs.2⟩) hS (fun locs hS => ?_)
  refine lv_aload_n hx hb d_Law_law_349 rfl (lv_at hl 2 rfl) ?_
  refine lv_aload_n hx hb d_Law_law_350 rfl (lv_at hl 0 rfl) ?_
  refine lv_iload_n hx hb d_Law_law_351 rfl (lv_at hl 3 rfl) ?_
  refine lv_iconst hx hb d_Law_law_352 (v := (nI 1)) rfl ?_
  refine lv_iadd hx hb d_Law_law_353 ?_
  refine lv_asI (y := nI (i + 1)) (nI_add i 1) ?_
  refine s_ld (i := (i + 1)) hx hb hX hbl hbA hS (by omega) (by omega) d_Law_law_354 ?_
  refine ro_i (va_runV (As := [.int (xs (i + 1))]) (rest := [.int (if (xs (i + 1)) < 0 ∨ 4 ≤ (xs (i + 1)) then 0 else Wd ((xs (i + 1))).toNatClampNeg)]) ⟨hx, hb, hml, hown, hts⟩ (c_mkeyWord l (xs (i + 1)) (hP.sub (ws' := [(ob, .inr (3, [.int (nI C), .int lim, .int v.1, .int v.2.1, .int v.2.2.1, .int v.2.2.2, .ref bw, .long (jn (Wd 0) (Wd 1)), .long (jn (Wd 2) (Wd 3)), .long k2, .long l2, .ref bm, .ref bk, .ref bv, .int (mvf C OM'), .ref cm, .ref ck, .ref cv, .int lo, .int rk, .long z.1, .long z.2.1, .long z.2.2.1, .long z.2.2.2])), (bw, .inl (cA, 4, .inl Wd')), (bm, .inl (cA, 128, .inl M')), (bk, .inl (cA, 128, .inl K')), (bv, .inl (cA, 128, .inl V')), (cm, .inl (cA, 128, .inl OM')), (ck, .inl (cA, 128, .inl OK')), (cv, .inl (cA, 128, .inl OV'))]) [12, 13, 14, 15, 16, 17, 18, 19] rfl)) (cwV 1 hts g_Law_68 rfl rfl rfl (by decide +kernel) ⟨Nat.le_of_ble_eq_true rfl, Nat.le_of_ble_eq_true rfl⟩) ⟨bl_RO, va_recv (q0 := 12) hK hP rfl rfl, fun U hU hW => ⟨rfl, hU, va_K.moved hW.alike hK⟩⟩ rfl rfl hl.1 rfl (lv_room (Nat.le_of_ble_eq_true rfl)) d_Law_law_355 ⟨hcs.1, hcs.2⟩) hS (fun locs hS => ?_)
  refine lv_icmp_eq hx hb d_Law_law_358 (tgt := 485) rfl (fun hc => ?_) (fun hc => absurd hc (fun q => q (rc_key hR _)))
  exact kk ls _ _ ⟨g, tn, nm, nk, nv, nw, to, om, ok, ov, ow, bw, bm, bk, bv, cm, ck, cv, lo, rk, v, M, K, V, Wd, OM, OK, OV, Wo, M', K', V', Wd', OM', OK', OV', k2, l2, z, hR, lv_sub hl [0, 1, 2, 3] rfl, hP, hD, hS⟩
set_option maxHeartbeats 4000000 in
set_option maxRecDepth 100000 in
theorem law_11 {p : Program} {e : Env} {s : State} {m : MethodId} {below : List Frame} {meth : Method} {c : Code} (l : Launch) {b L : Nat} {xs : Nat → Int32} {dC : Nat → ClassId} {dI : Nat → Nat → Nat} {cA : ClassId} {A : Nat → Prop} {o ob C : Nat} {lim : Int32} {cells slots : Nat} {Q : State → Prop} (hL : L ≤ 1539) (C0 : lw_At p s m meth c b L xs) (hA : ∀ q, s.heap.size ≤ q → A q) (hbA : ¬ A b) (hK : va_K (dC, dI) cls [(cA, .int)] s) (hcs : cells ≤ 600000 ∧ slots ≤ 7302249) (hC : szC C) {i : Nat} (hi : i + 3 ≤ L) {ls : Array Slot} {H : Heap} {locs : List Loc} (hE : LE dC dI cA A s.heap b o ob C lim i ls H locs) (kk : ∀ (ls : Array Slot) (H : Heap) (locs : List Loc), LE dC dI cA A s.heap b o ob C lim i ls H locs → W p l e room_1 s m #[Value.ref b] below meth c H locs cells slots Q (F0 m 485 ls [])) : W p l e room_1 s m #[Value.ref b] below meth c H locs cells slots Q (F0 m 363 ls []) := by
  obtain ⟨hx, hb, hr, hml, hown, htl, hX, hbl, hlocks, -⟩ := C0
  have hts : ∀ w ∈ BG, w.before #[Value.ref b] s = true := fun w h => htl w (BG_in w h)
  have hN : NW s := fun w h => va_Nw.of (List.all_eq_true.mp NL_on w h) (htl w (NL_in w h))
  have hlo := hC.lo
  have hhi := hC.hi
  obtain ⟨g, tn, nm, nk, nv, nw, to, om, ok, ov, ow, bw, bm, bk, bv, cm, ck, cv, lo, rk, v, M, K, V, Wd, OM, OK, OV, Wo, M', K', V', Wd', OM', OK', OV', k2, l2, z, hR, hl, hP, hD, hS⟩ := hE
  refine lv_aload_n hx hb d_Law_law_363 rfl (lv_at hl 1 rfl) ?_
  refine lv_aload_n hx hb d_Law_law_364 rfl (lv_at hl 0 rfl) ?_
  refine lv_iload_n hx hb d_Law_law_365 rfl (lv_at hl 3 rfl) ?_
  refine lv_iconst hx hb d_Law_law_366 (v := (nI 1)) rfl ?_
  refine lv_iadd hx hb d_Law_law_367 ?_
  refine lv_asI (y := nI (i + 1)) (nI_add i 1) ?_
  refine s_ld (i := (i + 1)) hx hb hX hbl hbA hS (by omega) (by omega) d_Law_law_368 ?_
  refine ro_i (va_runV (As := [.int (xs (i + 1))]) (rest := []) ⟨hx, hb, hml, hown, hts⟩ (c_nth l hC (xs (i + 1)) (hP.sub (ws' := [(o, .inr (2, [.int lim, .int (nI (3 * C / 4)), .ref g, .ref tn, .ref to, .int lo, .int rk])), (g, .inr (0, [.int v.1, .int v.2.1, .int v.2.2.1, .int v.2.2.2])), (tn, .inr (1, [.int (nI (C - 1)), .ref nm, .ref nk, .ref nv, .ref nw, .int (nI (cnt M C))])), (nm, .inl (cA, C, .inl M)), (nk, .inl (cA, C, .inl K)), (nv, .inl (cA, C, .inl V)), (nw, .inl (cA, 4, .inl Wd)), (to, .inr (1, [.int (nI (C - 1)), .ref om, .ref ok, .ref ov, .ref ow, .int (nI (cnt OM C))])), (om, .inl (cA, C, .inl OM)), (ok, .inl (cA, C, .inl OK)), (ov, .inl (cA, C, .inl OV)), (ow, .inl (cA, 4, .inl Wo))]) [0, 1, 2, 3, 4, 5, 6, 7, 8, 9, 10, 11] rfl)) (cwV 1 hts g_Law_69 rfl rfl rfl (by decide +kernel) ⟨Nat.le_of_ble_eq_true rfl, Nat.le_of_ble_eq_true rfl⟩) ⟨bl_NO, va_recv (q0 := 0) hK hP rfl rfl, fun U hU hW => ⟨rfl, hU, va_K.moved hW.alike hK, NW.warm hW hN⟩⟩ rfl rfl hl.1 rfl (lv_room (Nat.le_of_ble_eq_true rfl)) d_Law_law_369 ⟨hcs.1, hcs.2⟩) hS (fun locs hS => ?_)
  refine lv_aload_n hx hb d_Law_law_372 rfl (lv_at hl 2 rfl) ?_
  refine lv_aload_n hx hb d_Law_law_373 rfl (lv_at hl 0 rfl) ?_
  refine lv_iload_n hx hb d_Law_law_374 rfl (lv_at hl 3 rfl) ?_
  refine lv_iconst hx hb d_Law_law_375 (v := (nI 1)) rfl ?_
  refine lv_iadd hx hb d_Law_law_376 ?_
  refine lv_asI (y := nI (i + 1)) (nI_add i 1) ?_
  refine s_ld (i := (i + 1)) hx hb hX hbl hbA hS (by omega) (by omega) d_Law_law_377 ?_
  refine ro_i (va_runV (As := [.int (xs (i + 1))]) (rest := [.int (if mkA C M (xs (i + 1)) = 1 then K ((xs (i + 1))).toNatClampNeg else -1)]) ⟨hx, hb, hml, hown, hts⟩ (c_mnth l hC (xs (i + 1)) (hP.sub (ws' := [(ob, .inr (3, [.int (nI C), .int lim, .int v.1, .int v.2.1, .int v.2.2.1, .int v.2.2.2, .ref bw, .long (jn (Wd 0) (Wd 1)), .long (jn (Wd 2) (Wd 3)), .long k2, .long l2, .ref bm, .ref bk, .ref bv, .int (mvf C OM'), .ref cm, .ref ck, .ref cv, .int lo, .int rk, .long z.1, .long z.2.1, .long z.2.2.1, .long z.2.2.2])), (bw, .inl (cA, 4, .inl Wd')), (bm, .inl (cA, 128, .inl M')), (bk, .inl (cA, 128, .inl K')), (bv, .inl (cA, 128, .inl V')), (cm, .inl (cA, 128, .inl OM')), (ck, .inl (cA, 128, .inl OK')), (cv, .inl (cA, 128, .inl OV'))]) [12, 13, 14, 15, 16, 17, 18, 19] rfl)) (cwV 1 hts g_Law_72 rfl rfl rfl (by decide +kernel) ⟨Nat.le_of_ble_eq_true rfl, Nat.le_of_ble_eq_true rfl⟩) ⟨bl_RO, va_recv (q0 := 12) hK hP rfl rfl, fun U hU hW => ⟨rfl, hU, va_K.moved hW.alike hK⟩⟩ rfl rfl hl.1 rfl (lv_room (Nat.le_of_ble_eq_true rfl)) d_Law_law_378 ⟨hcs.1, hcs.2⟩) hS (fun locs hS => ?_)
  refine lv_icmp_eq hx hb d_Law_law_381 (tgt := 485) rfl (fun hc => ?_) (fun hc => absurd hc (fun q => q (rc_nth hC hR _)))
  exact kk ls _ _ ⟨g, tn, nm, nk, nv, nw, to, om, ok, ov, ow, bw, bm, bk, bv, cm, ck, cv, lo, rk, v, M, K, V, Wd, OM, OK, OV, Wo, M', K', V', Wd', OM', OK', OV', k2, l2, z, hR, lv_sub hl [0, 1, 2, 3] rfl, hP, hD, hS⟩
set_option maxHeartbeats 4000000 in
set_option maxRecDepth 100000 in
theorem law_12 {p : Program} {e : Env} {s : State} {m : MethodId} {below : List Frame} {meth : Method} {c : Code} (l : Launch) {b L : Nat} {xs : Nat → Int32} {dC : Nat → ClassId} {dI : Nat → Nat → Nat} {cA : ClassId} {A : Nat → Prop} {o ob C : Nat} {lim : Int32} {cells slots : Nat} {Q : State → Prop} (hL : L ≤ 1539) (C0 : lw_At p s m meth c b L xs) (hA : ∀ q, s.heap.size ≤ q → A q) (hbA : ¬ A b) (hK : va_K (dC, dI) cls [(cA, .int)] s) (hcs : cells ≤ 600000 ∧ slots ≤ 7302249) (hC : szC C) {i : Nat} (hi : i + 3 ≤ L) {ls : Array Slot} {H : Heap} {locs : List Loc} (hE : LE dC dI cA A s.heap b o ob C lim i ls H locs) (kk : ∀ (ls : Array Slot) (H : Heap) (locs : List Loc), LE dC dI cA A s.heap b o ob C lim i ls H locs → W p l e room_1 s m #[Value.ref b] below meth c H locs cells slots Q (F0 m 485 ls [])) : W p l e room_1 s m #[Value.ref b] below meth c H locs cells slots Q (F0 m 386 ls []) := by
  obtain ⟨hx, hb, hr, hml, hown, htl, hX, hbl, hlocks, -⟩ := C0
  have hts : ∀ w ∈ BG, w.before #[Value.ref b] s = true := fun w h => htl w (BG_in w h)
  have hN : NW s := fun w h => va_Nw.of (List.all_eq_true.mp NL_on w h) (htl w (NL_in w h))
  have hlo := hC.lo
  have hhi := hC.hi
  obtain ⟨g, tn, nm, nk, nv, nw, to, om, ok, ov, ow, bw, bm, bk, bv, cm, ck, cv, lo, rk, v, M, K, V, Wd, OM, OK, OV, Wo, M', K', V', Wd', OM', OK', OV', k2, l2, z, hR, hl, hP, hD, hS⟩ := hE
  refine lv_aload_n hx hb d_Law_law_386 rfl (lv_at hl 1 rfl) ?_
  refine lv_aload_n hx hb d_Law_law_387 rfl (lv_at hl 0 rfl) ?_
  refine lv_iload_n hx hb d_Law_law_388 rfl (lv_at hl 3 rfl) ?_
  refine lv_iconst hx hb d_Law_law_389 (v := (nI 1)) rfl ?_
  refine lv_iadd hx hb d_Law_law_390 ?_
  refine lv_asI (y := nI (i + 1)) (nI_add i 1) ?_
  refine s_ld (i := (i + 1)) hx hb hX hbl hbA hS (by omega) (by omega) d_Law_law_391 ?_
  refine lv_if_eq hx hb d_Law_law_392 (tgt := 399) rfl (fun hc392 => ?_) (fun hc392 => ?_)
  · skip
    refine lv_iconst hx hb d_Law_law_399 (v := 0) rfl ?_
    refine lv_aload_n hx hb d_Law_law_400 rfl (lv_at hl 0 rfl) ?_
    refine lv_iload_n hx hb d_Law_law_401 rfl (lv_at hl 3 rfl) ?_
    refine lv_iconst hx hb d_Law_law_402 (v := (nI 2)) rfl ?_
    refine lv_iadd hx hb d_Law_law_403 ?_
    refine lv_asI (y := nI (i + 2)) (nI_add i 2) ?_
    refine s_ld (i := (i + 2)) hx hb hX hbl hbA hS (by omega) (by omega) d_Law_law_404 ?_
    refine ro_i (va_runV (As := [.int 0, .int (xs (i + 2))]) (rest := []) ⟨hx, hb, hml, hown, hts⟩ (c_filled l hC 0 (xs (i + 2)) (hP.sub (ws' := [(o, .inr (2, [.int lim, .int (nI (3 * C / 4)), .ref g, .ref tn, .ref to, .int lo, .int rk])), (g, .inr (0, [.int v.1, .int v.2.1, .int v.2.2.1, .int v.2.2.2])), (tn, .inr (1, [.int (nI (C - 1)), .ref nm, .ref nk, .ref nv, .ref nw, .int (nI (cnt M C))])), (nm, .inl (cA, C, .inl M)), (nk, .inl (cA, C, .inl K)), (nv, .inl (cA, C, .inl V)), (nw, .inl (cA, 4, .inl Wd)), (to, .inr (1, [.int (nI (C - 1)), .ref om, .ref ok, .ref ov, .ref ow, .int (nI (cnt OM C))])), (om, .inl (cA, C, .inl OM)), (ok, .inl (cA, C, .inl OK)), (ov, .inl (cA, C, .inl OV)), (ow, .inl (cA, 4, .inl Wo))]) [0, 1, 2, 3, 4, 5, 6, 7, 8, 9, 10, 11] rfl)) (cwV 2 hts g_Law_73 rfl rfl rfl (by decide +kernel) ⟨Nat.le_of_ble_eq_true rfl, Nat.le_of_ble_eq_true rfl⟩) ⟨bl_NO, va_recv (q0 := 0) hK hP rfl rfl, fun U hU hW => ⟨rfl, hU, va_K.moved hW.alike hK, NW.warm hW hN⟩⟩ rfl rfl hl.1 rfl (lv_room (Nat.le_of_ble_eq_true rfl)) d_Law_law_405 ⟨hcs.1, hcs.2⟩) hS (fun locs hS => ?_)
    refine lv_aload_n hx hb d_Law_law_408 rfl (lv_at hl 2 rfl) ?_
    refine W.eq (g2 := F0 m 409 ls [.ref ob, .int (if 0 = 0 then mkA C M (xs (i + 2)) else if nI (cnt OM C) = 0 then 0 else mkA C OM (xs (i + 2)))]) rfl ?_
    refine lv_aload_n hx hb d_Law_law_409 rfl (lv_at hl 0 rfl) ?_
    refine lv_iload_n hx hb d_Law_law_410 rfl (lv_at hl 3 rfl) ?_
    refine lv_iconst hx hb d_Law_law_411 (v := (nI 1)) rfl ?_
    refine lv_iadd hx hb d_Law_law_412 ?_
    refine lv_asI (y := nI (i + 1)) (nI_add i 1) ?_
    refine s_ld (i := (i + 1)) hx hb hX hbl hbA hS (by omega) (by omega) d_Law_law_413 ?_
    refine lv_if_eq hx hb d_Law_law_414 (tgt := 421) rfl (fun hc => ?_) (fun hc => absurd hc (fun q => q hc392))
    refine lv_iconst hx hb d_Law_law_421 (v := 0) rfl ?_
    refine lv_aload_n hx hb d_Law_law_422 rfl (lv_at hl 0 rfl) ?_
    refine lv_iload_n hx hb d_Law_law_423 rfl (lv_at hl 3 rfl) ?_
    refine lv_iconst hx hb d_Law_law_424 (v := (nI 2)) rfl ?_
    refine lv_iadd hx hb d_Law_law_425 ?_
    refine lv_asI (y := nI (i + 2)) (nI_add i 2) ?_
    refine s_ld (i := (i + 2)) hx hb hX hbl hbA hS (by omega) (by omega) d_Law_law_426 ?_
    refine ro_i (va_runV (As := [.int 0, .int (xs (i + 2))]) (rest := [.int (if 0 = 0 then mkA C M (xs (i + 2)) else if nI (cnt OM C) = 0 then 0 else mkA C OM (xs (i + 2)))]) ⟨hx, hb, hml, hown, hts⟩ (c_mfilled l hC 0 (xs (i + 2)) (hP.sub (ws' := [(ob, .inr (3, [.int (nI C), .int lim, .int v.1, .int v.2.1, .int v.2.2.1, .int v.2.2.2, .ref bw, .long (jn (Wd 0) (Wd 1)), .long (jn (Wd 2) (Wd 3)), .long k2, .long l2, .ref bm, .ref bk, .ref bv, .int (mvf C OM'), .ref cm, .ref ck, .ref cv, .int lo, .int rk, .long z.1, .long z.2.1, .long z.2.2.1, .long z.2.2.2])), (bw, .inl (cA, 4, .inl Wd')), (bm, .inl (cA, 128, .inl M')), (bk, .inl (cA, 128, .inl K')), (bv, .inl (cA, 128, .inl V')), (cm, .inl (cA, 128, .inl OM')), (ck, .inl (cA, 128, .inl OK')), (cv, .inl (cA, 128, .inl OV'))]) [12, 13, 14, 15, 16, 17, 18, 19] rfl)) (cwV 2 hts g_Law_77 rfl rfl rfl (by decide +kernel) ⟨Nat.le_of_ble_eq_true rfl, Nat.le_of_ble_eq_true rfl⟩) ⟨bl_RO, va_recv (q0 := 12) hK hP rfl rfl, fun U hU hW => ⟨rfl, hU, va_K.moved hW.alike hK⟩⟩ rfl rfl hl.1 rfl (lv_room (Nat.le_of_ble_eq_true rfl)) d_Law_law_427 ⟨hcs.1, hcs.2⟩) hS (fun locs hS => ?_)
    refine lv_icmp_eq hx hb d_Law_law_430 (tgt := 485) rfl (fun hc => ?_) (fun hc => absurd hc (fun q => q (rc_filled hC hR _ _)))
    exact kk ls _ _ ⟨g, tn, nm, nk, nv, nw, to, om, ok, ov, ow, bw, bm, bk, bv, cm, ck, cv, lo, rk, v, M, K, V, Wd, OM, OK, OV, Wo, M', K', V', Wd', OM', OK', OV', k2, l2, z, hR, lv_sub hl [0, 1, 2, 3] rfl, hP, hD, hS⟩
  · skip
    refine lv_iconst hx hb d_Law_law_395 (v := 1) rfl ?_
    refine lv_goto hx hb d_Law_law_396 (tgt := 400) rfl ?_
    refine lv_aload_n hx hb d_Law_law_400 rfl (lv_at hl 0 rfl) ?_
    refine lv_iload_n hx hb d_Law_law_401 rfl (lv_at hl 3 rfl) ?_
    refine lv_iconst hx hb d_Law_law_402 (v := (nI 2)) rfl ?_
    refine lv_iadd hx hb d_Law_law_403 ?_
    refine lv_asI (y := nI (i + 2)) (nI_add i 2) ?_
    refine s_ld (i := (i + 2)) hx hb hX hbl hbA hS (by omega) (by omega) d_Law_law_404 ?_
    refine ro_i (va_runV (As := [.int 1, .int (xs (i + 2))]) (rest := []) ⟨hx, hb, hml, hown, hts⟩ (c_filled l hC 1 (xs (i + 2)) (hP.sub (ws' := [(o, .inr (2, [.int lim, .int (nI (3 * C / 4)), .ref g, .ref tn, .ref to, .int lo, .int rk])), (g, .inr (0, [.int v.1, .int v.2.1, .int v.2.2.1, .int v.2.2.2])), (tn, .inr (1, [.int (nI (C - 1)), .ref nm, .ref nk, .ref nv, .ref nw, .int (nI (cnt M C))])), (nm, .inl (cA, C, .inl M)), (nk, .inl (cA, C, .inl K)), (nv, .inl (cA, C, .inl V)), (nw, .inl (cA, 4, .inl Wd)), (to, .inr (1, [.int (nI (C - 1)), .ref om, .ref ok, .ref ov, .ref ow, .int (nI (cnt OM C))])), (om, .inl (cA, C, .inl OM)), (ok, .inl (cA, C, .inl OK)), (ov, .inl (cA, C, .inl OV)), (ow, .inl (cA, 4, .inl Wo))]) [0, 1, 2, 3, 4, 5, 6, 7, 8, 9, 10, 11] rfl)) (cwV 2 hts g_Law_73 rfl rfl rfl (by decide +kernel) ⟨Nat.le_of_ble_eq_true rfl, Nat.le_of_ble_eq_true rfl⟩) ⟨bl_NO, va_recv (q0 := 0) hK hP rfl rfl, fun U hU hW => ⟨rfl, hU, va_K.moved hW.alike hK, NW.warm hW hN⟩⟩ rfl rfl hl.1 rfl (lv_room (Nat.le_of_ble_eq_true rfl)) d_Law_law_405 ⟨hcs.1, hcs.2⟩) hS (fun locs hS => ?_)
    refine W.eq (g2 := F0 m 408 ls [.int (if 1 = 0 then mkA C M (xs (i + 2)) else if nI (cnt OM C) = 0 then 0 else mkA C OM (xs (i + 2)))]) rfl ?_
    refine lv_aload_n hx hb d_Law_law_408 rfl (lv_at hl 2 rfl) ?_
    refine lv_aload_n hx hb d_Law_law_409 rfl (lv_at hl 0 rfl) ?_
    refine lv_iload_n hx hb d_Law_law_410 rfl (lv_at hl 3 rfl) ?_
    refine lv_iconst hx hb d_Law_law_411 (v := (nI 1)) rfl ?_
    refine lv_iadd hx hb d_Law_law_412 ?_
    refine lv_asI (y := nI (i + 1)) (nI_add i 1) ?_
    refine s_ld (i := (i + 1)) hx hb hX hbl hbA hS (by omega) (by omega) d_Law_law_413 ?_
    refine lv_if_eq hx hb d_Law_law_414 (tgt := 421) rfl (fun hc => absurd hc hc392) (fun hc => ?_)
    refine lv_iconst hx hb d_Law_law_417 (v := 1) rfl ?_
    refine lv_goto hx hb d_Law_law_418 (tgt := 422) rfl ?_
    refine lv_aload_n hx hb d_Law_law_422 rfl (lv_at hl 0 rfl) ?_
    refine lv_iload_n hx hb d_Law_law_423 rfl (lv_at hl 3 rfl) ?_
    refine lv_iconst hx hb d_Law_law_424 (v := (nI 2)) rfl ?_
    refine lv_iadd hx hb d_Law_law_425 ?_
    refine lv_asI (y := nI (i + 2)) (nI_add i 2) ?_
    refine s_ld (i := (i + 2)) hx hb hX hbl hbA hS (by omega) (by omega) d_Law_law_426 ?_
    refine ro_i (va_runV (As := [.int 1, .int (xs (i + 2))]) (rest := [.int (if 1 = 0 then mkA C M (xs (i + 2)) else if nI (cnt OM C) = 0 then 0 else mkA C OM (xs (i + 2)))]) ⟨hx, hb, hml, hown, hts⟩ (c_mfilled l hC 1 (xs (i + 2)) (hP.sub (ws' := [(ob, .inr (3, [.int (nI C), .int lim, .int v.1, .int v.2.1, .int v.2.2.1, .int v.2.2.2, .ref bw, .long (jn (Wd 0) (Wd 1)), .long (jn (Wd 2) (Wd 3)), .long k2, .long l2, .ref bm, .ref bk, .ref bv, .int (mvf C OM'), .ref cm, .ref ck, .ref cv, .int lo, .int rk, .long z.1, .long z.2.1, .long z.2.2.1, .long z.2.2.2])), (bw, .inl (cA, 4, .inl Wd')), (bm, .inl (cA, 128, .inl M')), (bk, .inl (cA, 128, .inl K')), (bv, .inl (cA, 128, .inl V')), (cm, .inl (cA, 128, .inl OM')), (ck, .inl (cA, 128, .inl OK')), (cv, .inl (cA, 128, .inl OV'))]) [12, 13, 14, 15, 16, 17, 18, 19] rfl)) (cwV 2 hts g_Law_77 rfl rfl rfl (by decide +kernel) ⟨Nat.le_of_ble_eq_true rfl, Nat.le_of_ble_eq_true rfl⟩) ⟨bl_RO, va_recv (q0 := 12) hK hP rfl rfl, fun U hU hW => ⟨rfl, hU, va_K.moved hW.alike hK⟩⟩ rfl rfl hl.1 rfl (lv_room (Nat.le_of_ble_eq_true rfl)) d_Law_law_427 ⟨hcs.1, hcs.2⟩) hS (fun locs hS => ?_)
    refine lv_icmp_eq hx hb d_Law_law_430 (tgt := 485) rfl (fun hc => ?_) (fun hc => absurd hc (fun q => q (rc_filled hC hR _ _)))
    exact kk ls _ _ ⟨g, tn, nm, nk, nv, nw, to, om, ok, ov, ow, bw, bm, bk, bv, cm, ck, cv, lo, rk, v, M, K, V, Wd, OM, OK, OV, Wo, M', K', V', Wd', OM', OK', OV', k2, l2, z, hR, lv_sub hl [0, 1, 2, 3] rfl, hP, hD, hS⟩
set_option maxHeartbeats 4000000 in
set_option maxRecDepth 100000 in
theorem law_13 {p : Program} {e : Env} {s : State} {m : MethodId} {below : List Frame} {meth : Method} {c : Code} (l : Launch) {b L : Nat} {xs : Nat → Int32} {dC : Nat → ClassId} {dI : Nat → Nat → Nat} {cA : ClassId} {A : Nat → Prop} {o ob C : Nat} {lim : Int32} {cells slots : Nat} {Q : State → Prop} (hL : L ≤ 1539) (C0 : lw_At p s m meth c b L xs) (hA : ∀ q, s.heap.size ≤ q → A q) (hbA : ¬ A b) (hK : va_K (dC, dI) cls [(cA, .int)] s) (hcs : cells ≤ 600000 ∧ slots ≤ 7302249) (hC : szC C) {i : Nat} (hi : i + 3 ≤ L) {ls : Array Slot} {H : Heap} {locs : List Loc} (hE : LE dC dI cA A s.heap b o ob C lim i ls H locs) (kk : ∀ (ls : Array Slot) (H : Heap) (locs : List Loc), LE dC dI cA A s.heap b o ob C lim i ls H locs → W p l e room_1 s m #[Value.ref b] below meth c H locs cells slots Q (F0 m 485 ls [])) : W p l e room_1 s m #[Value.ref b] below meth c H locs cells slots Q (F0 m 435 ls []) := by
  obtain ⟨hx, hb, hr, hml, hown, htl, hX, hbl, hlocks, -⟩ := C0
  have hts : ∀ w ∈ BG, w.before #[Value.ref b] s = true := fun w h => htl w (BG_in w h)
  have hN : NW s := fun w h => va_Nw.of (List.all_eq_true.mp NL_on w h) (htl w (NL_in w h))
  have hlo := hC.lo
  have hhi := hC.hi
  obtain ⟨g, tn, nm, nk, nv, nw, to, om, ok, ov, ow, bw, bm, bk, bv, cm, ck, cv, lo, rk, v, M, K, V, Wd, OM, OK, OV, Wo, M', K', V', Wd', OM', OK', OV', k2, l2, z, hR, hl, hP, hD, hS⟩ := hE
  refine lv_aload_n hx hb d_Law_law_435 rfl (lv_at hl 1 rfl) ?_
  refine lv_aload_n hx hb d_Law_law_436 rfl (lv_at hl 0 rfl) ?_
  refine lv_iload_n hx hb d_Law_law_437 rfl (lv_at hl 3 rfl) ?_
  refine lv_iconst hx hb d_Law_law_438 (v := (nI 1)) rfl ?_
  refine lv_iadd hx hb d_Law_law_439 ?_
  refine lv_asI (y := nI (i + 1)) (nI_add i 1) ?_
  refine s_ld (i := (i + 1)) hx hb hX hbl hbA hS (by omega) (by omega) d_Law_law_440 ?_
  refine ro_i (va_runV (As := [.int (xs (i + 1))]) (rest := []) ⟨hx, hb, hml, hown, hts⟩ (c_above l hC (xs (i + 1)) (hP.sub (ws' := [(o, .inr (2, [.int lim, .int (nI (3 * C / 4)), .ref g, .ref tn, .ref to, .int lo, .int rk])), (g, .inr (0, [.int v.1, .int v.2.1, .int v.2.2.1, .int v.2.2.2])), (tn, .inr (1, [.int (nI (C - 1)), .ref nm, .ref nk, .ref nv, .ref nw, .int (nI (cnt M C))])), (nm, .inl (cA, C, .inl M)), (nk, .inl (cA, C, .inl K)), (nv, .inl (cA, C, .inl V)), (nw, .inl (cA, 4, .inl Wd)), (to, .inr (1, [.int (nI (C - 1)), .ref om, .ref ok, .ref ov, .ref ow, .int (nI (cnt OM C))])), (om, .inl (cA, C, .inl OM)), (ok, .inl (cA, C, .inl OK)), (ov, .inl (cA, C, .inl OV)), (ow, .inl (cA, 4, .inl Wo))]) [0, 1, 2, 3, 4, 5, 6, 7, 8, 9, 10, 11] rfl)) (cwV 1 hts g_Law_78 rfl rfl rfl (by decide +kernel) ⟨Nat.le_of_ble_eq_true rfl, Nat.le_of_ble_eq_true rfl⟩) ⟨bl_NO, va_recv (q0 := 0) hK hP rfl rfl, fun U hU hW => ⟨rfl, hU, va_K.moved hW.alike hK, NW.warm hW hN⟩⟩ rfl rfl hl.1 rfl (lv_room (Nat.le_of_ble_eq_true rfl)) d_Law_law_441 ⟨hcs.1, hcs.2⟩) hS (fun locs hS => ?_)
  refine lv_aload_n hx hb d_Law_law_444 rfl (lv_at hl 2 rfl) ?_
  refine lv_aload_n hx hb d_Law_law_445 rfl (lv_at hl 0 rfl) ?_
  refine lv_iload_n hx hb d_Law_law_446 rfl (lv_at hl 3 rfl) ?_
  refine lv_iconst hx hb d_Law_law_447 (v := (nI 1)) rfl ?_
  refine lv_iadd hx hb d_Law_law_448 ?_
  refine lv_asI (y := nI (i + 1)) (nI_add i 1) ?_
  refine s_ld (i := (i + 1)) hx hb hX hbl hbA hS (by omega) (by omega) d_Law_law_449 ?_
  refine ro_i (va_runV (As := [.int (xs (i + 1))]) (rest := [.int (abv OM OK (xs (i + 1)) C 0 (abv M K (xs (i + 1)) C 0 (xs (i + 1))))]) ⟨hx, hb, hml, hown, hts⟩ (c_mabove l hC mvf_0 (xs (i + 1)) (hP.sub (ws' := [(ob, .inr (3, [.int (nI C), .int lim, .int v.1, .int v.2.1, .int v.2.2.1, .int v.2.2.2, .ref bw, .long (jn (Wd 0) (Wd 1)), .long (jn (Wd 2) (Wd 3)), .long k2, .long l2, .ref bm, .ref bk, .ref bv, .int (mvf C OM'), .ref cm, .ref ck, .ref cv, .int lo, .int rk, .long z.1, .long z.2.1, .long z.2.2.1, .long z.2.2.2])), (bw, .inl (cA, 4, .inl Wd')), (bm, .inl (cA, 128, .inl M')), (bk, .inl (cA, 128, .inl K')), (bv, .inl (cA, 128, .inl V')), (cm, .inl (cA, 128, .inl OM')), (ck, .inl (cA, 128, .inl OK')), (cv, .inl (cA, 128, .inl OV'))]) [12, 13, 14, 15, 16, 17, 18, 19] rfl)) (cwV 1 hts g_Law_81 rfl rfl rfl (by decide +kernel) ⟨Nat.le_of_ble_eq_true rfl, Nat.le_of_ble_eq_true rfl⟩) ⟨bl_RO, va_recv (q0 := 12) hK hP rfl rfl, fun U hU hW => ⟨rfl, hU, va_K.moved hW.alike hK⟩⟩ rfl rfl hl.1 rfl (lv_room (Nat.le_of_ble_eq_true rfl)) d_Law_law_450 ⟨hcs.1, hcs.2⟩) hS (fun locs hS => ?_)
  refine lv_icmp_eq hx hb d_Law_law_453 (tgt := 485) rfl (fun hc => ?_) (fun hc => absurd hc (fun q => q (rc_above hR _)))
  exact kk ls _ _ ⟨g, tn, nm, nk, nv, nw, to, om, ok, ov, ow, bw, bm, bk, bv, cm, ck, cv, lo, rk, v, M, K, V, Wd, OM, OK, OV, Wo, M', K', V', Wd', OM', OK', OV', k2, l2, z, hR, lv_sub hl [0, 1, 2, 3] rfl, hP, hD, hS⟩
set_option maxHeartbeats 4000000 in
set_option maxRecDepth 100000 in
theorem law_14 {p : Program} {e : Env} {s : State} {m : MethodId} {below : List Frame} {meth : Method} {c : Code} (l : Launch) {b L : Nat} {xs : Nat → Int32} {dC : Nat → ClassId} {dI : Nat → Nat → Nat} {cA : ClassId} {A : Nat → Prop} {o ob C : Nat} {lim : Int32} {cells slots : Nat} {Q : State → Prop} (hL : L ≤ 1539) (C0 : lw_At p s m meth c b L xs) (hA : ∀ q, s.heap.size ≤ q → A q) (hbA : ¬ A b) (hK : va_K (dC, dI) cls [(cA, .int)] s) (hcs : cells ≤ 600000 ∧ slots ≤ 7302249) (hC : szC C) {i : Nat} (hi : i + 3 ≤ L) {ls : Array Slot} {H : Heap} {locs : List Loc} (hE : LE dC dI cA A s.heap b o ob C lim i ls H locs) (kk : ∀ (ls : Array Slot) (H : Heap) (locs : List Loc), LE dC dI cA A s.heap b o ob C lim i ls H locs → W p l e room_1 s m #[Value.ref b] below meth c H locs cells slots Q (F0 m 485 ls [])) : W p l e room_1 s m #[Value.ref b] below meth c H locs cells slots Q (F0 m 458 ls []) := by
  obtain ⟨hx, hb, hr, hml, hown, htl, hX, hbl, hlocks, -⟩ := C0
  have hts : ∀ w ∈ BG, w.before #[Value.ref b] s = true := fun w h => htl w (BG_in w h)
  have hN : NW s := fun w h => va_Nw.of (List.all_eq_true.mp NL_on w h) (htl w (NL_in w h))
  have hlo := hC.lo
  have hhi := hC.hi
  obtain ⟨g, tn, nm, nk, nv, nw, to, om, ok, ov, ow, bw, bm, bk, bv, cm, ck, cv, lo, rk, v, M, K, V, Wd, OM, OK, OV, Wo, M', K', V', Wd', OM', OK', OV', k2, l2, z, hR, hl, hP, hD, hS⟩ := hE
  refine lv_aload_n hx hb d_Law_law_458 rfl (lv_at hl 1 rfl) ?_
  refine ro_l (va_runV (As := []) (rest := []) ⟨hx, hb, hml, hown, hts⟩ (c_sum l hC  (hP.sub (ws' := [(o, .inr (2, [.int lim, .int (nI (3 * C / 4)), .ref g, .ref tn, .ref to, .int lo, .int rk])), (g, .inr (0, [.int v.1, .int v.2.1, .int v.2.2.1, .int v.2.2.2])), (tn, .inr (1, [.int (nI (C - 1)), .ref nm, .ref nk, .ref nv, .ref nw, .int (nI (cnt M C))])), (nm, .inl (cA, C, .inl M)), (nk, .inl (cA, C, .inl K)), (nv, .inl (cA, C, .inl V)), (nw, .inl (cA, 4, .inl Wd)), (to, .inr (1, [.int (nI (C - 1)), .ref om, .ref ok, .ref ov, .ref ow, .int (nI (cnt OM C))])), (om, .inl (cA, C, .inl OM)), (ok, .inl (cA, C, .inl OK)), (ov, .inl (cA, C, .inl OV)), (ow, .inl (cA, 4, .inl Wo))]) [0, 1, 2, 3, 4, 5, 6, 7, 8, 9, 10, 11] rfl)) (cwV 0 hts g_Law_82 rfl rfl rfl (by decide +kernel) ⟨Nat.le_of_ble_eq_true rfl, Nat.le_of_ble_eq_true rfl⟩) ⟨bl_NO, va_recv (q0 := 0) hK hP rfl rfl, fun U hU hW => ⟨rfl, hU, va_K.moved hW.alike hK, NW.warm hW hN⟩⟩ rfl rfl hl.1 rfl (lv_room (Nat.le_of_ble_eq_true rfl)) d_Law_law_459 ⟨hcs.1, hcs.2⟩) hS (fun locs hS => ?_)
  refine lv_aload_n hx hb d_Law_law_462 rfl (lv_at hl 2 rfl) ?_
  refine rw_l (mc := 0) (ms := 0) (wc := [(ob, .inr (3, [.int (nI C), .int lim, .int v.1, .int v.2.1, .int v.2.2.1, .int v.2.2.2, .ref bw, .long (jn (Wd 0) (Wd 1)), .long (jn (Wd 2) (Wd 3)), .long k2, .long l2, .ref bm, .ref bk, .ref bv, .int (mvf C OM'), .ref cm, .ref ck, .ref cv, .int lo, .int rk, .long z.1, .long z.2.1, .long z.2.2.1, .long z.2.2.2])), (bw, .inl (cA, 4, .inl Wd')), (bm, .inl (cA, 128, .inl M')), (bk, .inl (cA, 128, .inl K')), (bv, .inl (cA, 128, .inl V')), (cm, .inl (cA, 128, .inl OM')), (ck, .inl (cA, 128, .inl OK')), (cv, .inl (cA, 128, .inl OV'))]) (wr := [(o, .inr (2, [.int lim, .int (nI (3 * C / 4)), .ref g, .ref tn, .ref to, .int lo, .int rk])), (g, .inr (0, [.int v.1, .int v.2.1, .int v.2.2.1, .int v.2.2.2])), (tn, .inr (1, [.int (nI (C - 1)), .ref nm, .ref nk, .ref nv, .ref nw, .int (nI (cnt M C))])), (nm, .inl (cA, C, .inl M)), (nk, .inl (cA, C, .inl K)), (nv, .inl (cA, C, .inl V)), (nw, .inl (cA, 4, .inl Wd)), (to, .inr (1, [.int (nI (C - 1)), .ref om, .ref ok, .ref ov, .ref ow, .int (nI (cnt OM C))])), (om, .inl (cA, C, .inl OM)), (ok, .inl (cA, C, .inl OK)), (ov, .inl (cA, C, .inl OV)), (ow, .inl (cA, 4, .inl Wo))]) hP hD hS hA (va_runV (As := []) (rest := [.long (smf Wd M K V C + smf Wd OM OK OV C)]) ⟨hx, hb, hml, hown, hts⟩ (c_msum2 l _ hC mvf_0) (cwV 0 hts g_Law_86 rfl rfl rfl (by decide +kernel) ⟨Nat.le_of_ble_eq_true rfl, Nat.le_of_ble_eq_true rfl⟩) ⟨bl_RW, va_recv (q0 := 12) hK hP rfl rfl, pr_RW hK hP hD [12, 13, 14, 15, 16, 17, 18, 19] rfl (by decide) rfl⟩ rfl rfl hl.1 rfl (lv_room (Nat.le_of_ble_eq_true rfl)) d_Law_law_463 ⟨hcs.1, hcs.2⟩) [12, 13, 14, 15, 16, 17, 18, 19] [0, 1, 2, 3, 4, 5, 6, 7, 8, 9, 10, 11] rfl rfl (by decide) (by decide) (fun r2 z1 H locs hq hP hD hS => ?_)
  have hP : va_P (dC, dI) cls [(o, .inr (2, [.int lim, .int (nI (3 * C / 4)), .ref g, .ref tn, .ref to, .int lo, .int rk])), (g, .inr (0, [.int v.1, .int v.2.1, .int v.2.2.1, .int v.2.2.2])), (tn, .inr (1, [.int (nI (C - 1)), .ref nm, .ref nk, .ref nv, .ref nw, .int (nI (cnt M C))])), (nm, .inl (cA, C, .inl M)), (nk, .inl (cA, C, .inl K)), (nv, .inl (cA, C, .inl V)), (nw, .inl (cA, 4, .inl Wd)), (to, .inr (1, [.int (nI (C - 1)), .ref om, .ref ok, .ref ov, .ref ow, .int (nI (cnt OM C))])), (om, .inl (cA, C, .inl OM)), (ok, .inl (cA, C, .inl OK)), (ov, .inl (cA, C, .inl OV)), (ow, .inl (cA, 4, .inl Wo)), (ob, .inr (3, [.int (nI C), .int lim, .int v.1, .int v.2.1, .int v.2.2.1, .int v.2.2.2, .ref bw, .long (jn (Wd 0) (Wd 1)), .long (jn (Wd 2) (Wd 3)), .long k2, .long l2, .ref bm, .ref bk, .ref bv, .int (mvf C OM'), .ref cm, .ref ck, .ref cv, .int lo, .int rk, .long z1.1, .long z1.2.1, .long z1.2.2.1, .long z1.2.2.2])), (bw, .inl (cA, 4, .inl Wd')), (bm, .inl (cA, 128, .inl M')), (bk, .inl (cA, 128, .inl K')), (bv, .inl (cA, 128, .inl V')), (cm, .inl (cA, 128, .inl OM')), (ck, .inl (cA, 128, .inl OK')), (cv, .inl (cA, 128, .inl OV'))] H := hP
  have hD : va_D A [(o, .inr (2, [.int lim, .int (nI (3 * C / 4)), .ref g, .ref tn, .ref to, .int lo, .int rk])), (g, .inr (0, [.int v.1, .int v.2.1, .int v.2.2.1, .int v.2.2.2])), (tn, .inr (1, [.int (nI (C - 1)), .ref nm, .ref nk, .ref nv, .ref nw, .int (nI (cnt M C))])), (nm, .inl (cA, C, .inl M)), (nk, .inl (cA, C, .inl K)), (nv, .inl (cA, C, .inl V)), (nw, .inl (cA, 4, .inl Wd)), (to, .inr (1, [.int (nI (C - 1)), .ref om, .ref ok, .ref ov, .ref ow, .int (nI (cnt OM C))])), (om, .inl (cA, C, .inl OM)), (ok, .inl (cA, C, .inl OK)), (ov, .inl (cA, C, .inl OV)), (ow, .inl (cA, 4, .inl Wo)), (ob, .inr (3, [.int (nI C), .int lim, .int v.1, .int v.2.1, .int v.2.2.1, .int v.2.2.2, .ref bw, .long (jn (Wd 0) (Wd 1)), .long (jn (Wd 2) (Wd 3)), .long k2, .long l2, .ref bm, .ref bk, .ref bv, .int (mvf C OM'), .ref cm, .ref ck, .ref cv, .int lo, .int rk, .long z1.1, .long z1.2.1, .long z1.2.2.1, .long z1.2.2.2])), (bw, .inl (cA, 4, .inl Wd')), (bm, .inl (cA, 128, .inl M')), (bk, .inl (cA, 128, .inl K')), (bv, .inl (cA, 128, .inl V')), (cm, .inl (cA, 128, .inl OM')), (ck, .inl (cA, 128, .inl OK')), (cv, .inl (cA, 128, .inl OV'))] := hD
  subst hq
  refine W.lcmp hx hb d_Law_law_466 ?_
  refine lv_if_eq hx hb d_Law_law_467 (tgt := 485) rfl (fun hc => ?_) (fun hc => absurd hc (fun q => q ((lg_cmp_eq _ _).mpr (rc_sum hR))))
  exact kk ls _ _ ⟨g, tn, nm, nk, nv, nw, to, om, ok, ov, ow, bw, bm, bk, bv, cm, ck, cv, lo, rk, v, M, K, V, Wd, OM, OK, OV, Wo, M', K', V', Wd', OM', OK', OV', k2, l2, z1, hR, lv_sub hl [0, 1, 2, 3] rfl, hP, hD, hS⟩
set_option maxHeartbeats 4000000 in
set_option maxRecDepth 100000 in
theorem law_15 {p : Program} {e : Env} {s : State} {m : MethodId} {below : List Frame} {meth : Method} {c : Code} (l : Launch) {b L : Nat} {xs : Nat → Int32} {dC : Nat → ClassId} {dI : Nat → Nat → Nat} {cA : ClassId} {A : Nat → Prop} {o ob C : Nat} {lim : Int32} {cells slots : Nat} {Q : State → Prop} (hL : L ≤ 1539) (C0 : lw_At p s m meth c b L xs) (hA : ∀ q, s.heap.size ≤ q → A q) (hbA : ¬ A b) (hK : va_K (dC, dI) cls [(cA, .int)] s) (hcs : cells ≤ 600000 ∧ slots ≤ 7302249) (hC : szC C) {i : Nat} (hi : i + 3 ≤ L) {ls : Array Slot} {H : Heap} {locs : List Loc} (hE : LE dC dI cA A s.heap b o ob C lim i ls H locs) (kk : ∀ (ls : Array Slot) (H : Heap) (locs : List Loc), LE dC dI cA A s.heap b o ob C lim i ls H locs → W p l e room_1 s m #[Value.ref b] below meth c H locs cells slots Q (F0 m 485 ls [])) : W p l e room_1 s m #[Value.ref b] below meth c H locs cells slots Q (F0 m 472 ls []) := by
  obtain ⟨hx, hb, hr, hml, hown, htl, hX, hbl, hlocks, -⟩ := C0
  have hts : ∀ w ∈ BG, w.before #[Value.ref b] s = true := fun w h => htl w (BG_in w h)
  have hN : NW s := fun w h => va_Nw.of (List.all_eq_true.mp NL_on w h) (htl w (NL_in w h))
  have hlo := hC.lo
  have hhi := hC.hi
  obtain ⟨g, tn, nm, nk, nv, nw, to, om, ok, ov, ow, bw, bm, bk, bv, cm, ck, cv, lo, rk, v, M, K, V, Wd, OM, OK, OV, Wo, M', K', V', Wd', OM', OK', OV', k2, l2, z, hR, hl, hP, hD, hS⟩ := hE
  refine lv_aload_n hx hb d_Law_law_472 rfl (lv_at hl 1 rfl) ?_
  refine ro_i (va_runV (As := []) (rest := []) ⟨hx, hb, hml, hown, hts⟩ (c_rekeys l  (hP.sub (ws' := [(o, .inr (2, [.int lim, .int (nI (3 * C / 4)), .ref g, .ref tn, .ref to, .int lo, .int rk])), (g, .inr (0, [.int v.1, .int v.2.1, .int v.2.2.1, .int v.2.2.2])), (tn, .inr (1, [.int (nI (C - 1)), .ref nm, .ref nk, .ref nv, .ref nw, .int (nI (cnt M C))])), (nm, .inl (cA, C, .inl M)), (nk, .inl (cA, C, .inl K)), (nv, .inl (cA, C, .inl V)), (nw, .inl (cA, 4, .inl Wd)), (to, .inr (1, [.int (nI (C - 1)), .ref om, .ref ok, .ref ov, .ref ow, .int (nI (cnt OM C))])), (om, .inl (cA, C, .inl OM)), (ok, .inl (cA, C, .inl OK)), (ov, .inl (cA, C, .inl OV)), (ow, .inl (cA, 4, .inl Wo))]) [0, 1, 2, 3, 4, 5, 6, 7, 8, 9, 10, 11] rfl)) (cwV 0 hts g_Law_87 rfl rfl rfl (by decide +kernel) ⟨Nat.le_of_ble_eq_true rfl, Nat.le_of_ble_eq_true rfl⟩) ⟨bl_NO, va_recv (q0 := 0) hK hP rfl rfl, fun U hU hW => ⟨rfl, hU, va_K.moved hW.alike hK, NW.warm hW hN⟩⟩ rfl rfl hl.1 rfl (lv_room (Nat.le_of_ble_eq_true rfl)) d_Law_law_473 ⟨hcs.1, hcs.2⟩) hS (fun locs hS => ?_)
  refine lv_aload_n hx hb d_Law_law_476 rfl (lv_at hl 2 rfl) ?_
  refine ro_i (va_runV (As := []) (rest := [.int rk]) ⟨hx, hb, hml, hown, hts⟩ (c_mrekeys l  (hP.sub (ws' := [(ob, .inr (3, [.int (nI C), .int lim, .int v.1, .int v.2.1, .int v.2.2.1, .int v.2.2.2, .ref bw, .long (jn (Wd 0) (Wd 1)), .long (jn (Wd 2) (Wd 3)), .long k2, .long l2, .ref bm, .ref bk, .ref bv, .int (mvf C OM'), .ref cm, .ref ck, .ref cv, .int lo, .int rk, .long z.1, .long z.2.1, .long z.2.2.1, .long z.2.2.2])), (bw, .inl (cA, 4, .inl Wd')), (bm, .inl (cA, 128, .inl M')), (bk, .inl (cA, 128, .inl K')), (bv, .inl (cA, 128, .inl V')), (cm, .inl (cA, 128, .inl OM')), (ck, .inl (cA, 128, .inl OK')), (cv, .inl (cA, 128, .inl OV'))]) [12, 13, 14, 15, 16, 17, 18, 19] rfl)) (cwV 0 hts g_Law_90 rfl rfl rfl (by decide +kernel) ⟨Nat.le_of_ble_eq_true rfl, Nat.le_of_ble_eq_true rfl⟩) ⟨bl_RO, va_recv (q0 := 12) hK hP rfl rfl, fun U hU hW => ⟨rfl, hU, va_K.moved hW.alike hK⟩⟩ rfl rfl hl.1 rfl (lv_room (Nat.le_of_ble_eq_true rfl)) d_Law_law_477 ⟨hcs.1, hcs.2⟩) hS (fun locs hS => ?_)
  refine lv_icmp_eq hx hb d_Law_law_480 (tgt := 485) rfl (fun hc => ?_) (fun hc => absurd hc (fun q => q rfl))
  exact kk ls _ _ ⟨g, tn, nm, nk, nv, nw, to, om, ok, ov, ow, bw, bm, bk, bv, cm, ck, cv, lo, rk, v, M, K, V, Wd, OM, OK, OV, Wo, M', K', V', Wd', OM', OK', OV', k2, l2, z, hR, lv_sub hl [0, 1, 2, 3] rfl, hP, hD, hS⟩
