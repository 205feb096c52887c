theorem kn_of {s : State} {args : Array Value} (hts : ∀ w ∈ BG, w.before args s = true) : ∃ (dC : Nat → ClassId) (dI : Nat → Nat → Nat) (cA : ClassId), va_K (dC, dI) cls [(cA, .int)] s := by
  obtain ⟨c0, i0, k0⟩ := u_known (C := R_Gen) (T := F_Gen) (N := 4) (n := 4) hts in_Gen (hts _ wk_23)
  obtain ⟨c1, i1, k1⟩ := u_known (C := R_Table) (T := F_Table) (N := 6) (n := 6) hts in_Table (hts _ wk_45)
  obtain ⟨c2, i2, k2⟩ := u_known (C := R_Cells) (T := F_Cells) (N := 7) (n := 7) hts in_Cells (hts _ wk_9)
  obtain ⟨c3, i3, k3⟩ := u_known (C := R_Model) (T := F_Model) (N := 24) (n := 24) hts in_Model (hts _ wk_209)
  obtain ⟨cA, kA, comp, h1, h2, h3⟩ := Cond.arrayClass_spec (hts _ wk_61)
  refine ⟨fun k => if k = 0 then c0 else if k = 1 then c1 else if k = 2 then c2 else c3, fun k => if k = 0 then i0 else if k = 1 then i1 else if k = 2 then i2 else i3, cA, fun k q hq => ?_, fun k q hq => ?_⟩
  · match k, hq with
    | 0, hq => cases hq; exact k0
    | 1, hq => cases hq; exact k1
    | 2, hq => cases hq; exact k2
    | 3, hq => cases hq; exact k3
    | k + 4, hq => simp [cls] at hq
  · match k, hq with
    | 0, hq => cases hq; exact ⟨fun n z => ⟨fun k h => (by cases h), kA, h2, comp, h3⟩, h1⟩
    | k + 1, hq => simp at hq
set_option maxHeartbeats 4000000 in
set_option maxRecDepth 100000 in
theorem law_loop {p : Program} {e : Env} {s : State} {m : MethodId} {below : List Frame} {meth : Method} {c : Code} (l : Launch) {b L : Nat} {xs : Nat → Int32} {dC : Nat → ClassId} {dI : Nat → Nat → Nat} {cA : ClassId} {A : Nat → Prop} {o ob C : Nat} {lim : Int32} {cells slots : Nat} (hL : L ≤ 1539) (C0 : lw_At p s m meth c b L xs) (hAe : A = fun q => s.heap.size ≤ q) (hK : va_K (dC, dI) cls [(cA, .int)] s) (hcs : cells ≤ 600000 ∧ slots ≤ 7302249) (hC : szC C) {ls : Array Slot} {H : Heap} {locs : List Loc} (hE : LE dC dI cA A s.heap b o ob C lim 3 ls H locs) : W p l e room_1 s m #[Value.ref b] below meth c H locs cells slots (lw_Z below #[Value.ref b] s) (F0 m 48 ls []) := by
  have hA : ∀ q : Nat, s.heap.size ≤ q → A q := fun q h => by rw [hAe]; exact h
  have hbA : ¬ A b := by rw [hAe]; exact Nat.not_le.mpr C0.2.2.2.2.2.2.2.1
  refine lq1 (fun (i : Nat) => L - i) (fun (i : Nat) ls H locs => i ≤ 1539 ∧ LE dC dI cA A s.heap b o ob C lim i ls H locs) (fun i ls H locs hE ih => ?_) 3 ls H locs ⟨by omega, hE⟩
  obtain ⟨hi9, hE⟩ := hE
  have hx := C0.1
  have hb := C0.2.1
  have hX := C0.2.2.2.2.2.2.1
  have hbl := C0.2.2.2.2.2.2.2.1
  have hE0 := hE
  obtain ⟨g, tn, nm, nk, nv, nw, to, om, ok, ov, ow, bw, bm, bk, bv, cm, ck, cv, lo, rk, v, M, K, V, Wd, OM, OK, OV, Wo, M', K', V', Wd', OM', OK', OV', k2, l2, z, hR, hl, hP, hD, hS⟩ := hE0
  refine lv_iload_n hx hb d_Law_law_48 rfl (lv_at hl 3 rfl) ?_
  refine lv_aload_n hx hb d_Law_law_49 rfl (lv_at hl 0 rfl) ?_
  refine va_slen hx hb hX hbl hbA hS d_Law_law_50 ?_
  refine lv_iconst hx hb d_Law_law_51 (v := nI 3) rfl ?_
  refine lv_isub hx hb d_Law_law_52 ?_
  have hcm : nI L - nI 3 < nI i ↔ L < i + 3 := by
    rw [Int32.lt_iff_toInt_lt, pk_sub_toInt (by omega) (by omega), nI_toInt (by omega)]
    omega
  refine lv_icmp_gt hx hb d_Law_law_53 (tgt := 491) rfl (fun hc => ?_) (fun hc => ?_)
  · refine lv_iconst hx hb d_Law_law_491 (v := 1) rfl ?_
    refine va_forget (fun q hq => by have := hS.2.2 q hq; rw [hAe] at this; exact this) ?_
    refine W.widen (k := 600000) (n := 7302249) hcs.1 hcs.2 ?_
    exact lw_ret hx hb C0.2.2.1 C0.2.2.2.2.2.2.2.2.1 d_Law_law_492
  · have hi : i + 3 ≤ L := by
      have : ¬ L < i + 3 := fun h => hc (hcm.mpr h)
      omega
    have kk : ∀ (ls : Array Slot) (H : Heap) (locs : List Loc), LE dC dI cA A s.heap b o ob C lim i ls H locs → W p l e room_1 s m #[Value.ref b] below meth c H locs cells slots (lw_Z below #[Value.ref b] s) (F0 m 485 ls []) := by
      intro ls H locs hE
      obtain ⟨g, tn, nm, nk, nv, nw, to, om, ok, ov, ow, bw, bm, bk, bv, cm, ck, cv, lo, rk, v, M, K, V, Wd, OM, OK, OV, Wo, M', K', V', Wd', OM', OK', OV', k2, l2, z, hR, hl, hP, hD, hS⟩ := hE
      refine lv_iinc hx hb d_Law_law_485 hl (k := 3) rfl (v := nI (i + 3)) (nI_add i 3) (by decide) rfl (fun ls hl => ?_)
      refine lv_goto hx hb d_Law_law_488 (tgt := 48) rfl ?_
      exact ih (i + 3) ls _ _ ⟨by omega, g, tn, nm, nk, nv, nw, to, om, ok, ov, ow, bw, bm, bk, bv, cm, ck, cv, lo, rk, v, M, K, V, Wd, OM, OK, OV, Wo, M', K', V', Wd', OM', OK', OV', k2, l2, z, hR, lv_sub hl [1, 2, 3, 0] rfl, hP, hD, hS⟩ (by omega)
    refine lv_aload_n hx hb d_Law_law_56 rfl (lv_at hl 0 rfl) ?_
    refine lv_iload_n hx hb d_Law_law_57 rfl (lv_at hl 3 rfl) ?_
    refine s_ld (i := i) hx hb hX hbl hbA hS (by omega) (by omega) d_Law_law_58 ?_
    refine lv_bipush hx hb d_Law_law_59 (v := 15) rfl ?_
    refine lv_iand hx hb d_Law_law_61 ?_
    obtain ⟨k, hk, hke⟩ := pk_andE (xs i) (m := 15) 4 (by decide)
    refine lv_asI hke ?_
    rcases (show k = 0 ∨ k = 1 ∨ k = 2 ∨ k = 3 ∨ k = 4 ∨ k = 5 ∨ k = 6 ∨ k = 7 ∨ k = 8 ∨ k = 9 ∨ k = 10 ∨ k = 11 ∨ k = 12 ∨ k = 13 ∨ k = 14 ∨ k = 15 by omega) with rfl | rfl | rfl | rfl | rfl | rfl | rfl | rfl | rfl | rfl | rfl | rfl | rfl | rfl | rfl | rfl
    · refine lv_tableIn hx hb d_Law_law_62 (by decide) (by decide) (off := 78) (by decide) (tgt := 140) rfl ?_
      exact law_0 l hL C0 hA hbA hK hcs hC hi hE kk
    · refine lv_tableIn hx hb d_Law_law_62 (by decide) (by decide) (off := 111) (by decide) (tgt := 173) rfl ?_
      exact law_1 l hL C0 hA hbA hK hcs hC hi hE kk
    · refine lv_tableIn hx hb d_Law_law_62 (by decide) (by decide) (off := 134) (by decide) (tgt := 196) rfl ?_
      exact law_2 l hL C0 hA hbA hK hcs hC hi hE kk
    · refine lv_tableIn hx hb d_Law_law_62 (by decide) (by decide) (off := 157) (by decide) (tgt := 219) rfl ?_
      exact law_3 l hL C0 hA hbA hK hcs hC hi hE kk
    · refine lv_tableIn hx hb d_Law_law_62 (by decide) (by decide) (off := 180) (by decide) (tgt := 242) rfl ?_
      exact law_4 l hL C0 hA hbA hK hcs hC hi hE kk
    · refine lv_tableIn hx hb d_Law_law_62 (by decide) (by decide) (off := 193) (by decide) (tgt := 255) rfl ?_
      exact law_5 l hL C0 hA hbA hK hcs hC hi hE kk
    · refine lv_tableIn hx hb d_Law_law_62 (by decide) (by decide) (off := 206) (by decide) (tgt := 268) rfl ?_
      exact law_6 l hL C0 hA hbA hK hcs hC hi hE kk
    · refine lv_tableIn hx hb d_Law_law_62 (by decide) (by decide) (off := 219) (by decide) (tgt := 281) rfl ?_
      exact law_7 l hL C0 hA hbA hK hcs hC hi hE kk
    · refine lv_tableIn hx hb d_Law_law_62 (by decide) (by decide) (off := 232) (by decide) (tgt := 294) rfl ?_
      exact law_8 l hL C0 hA hbA hK hcs hC hi hE kk
    · refine lv_tableIn hx hb d_Law_law_62 (by decide) (by decide) (off := 255) (by decide) (tgt := 317) rfl ?_
      exact law_9 l hL C0 hA hbA hK hcs hC hi hE kk
    · refine lv_tableIn hx hb d_Law_law_62 (by decide) (by decide) (off := 278) (by decide) (tgt := 340) rfl ?_
      exact law_10 l hL C0 hA hbA hK hcs hC hi hE kk
    · refine lv_tableIn hx hb d_Law_law_62 (by decide) (by decide) (off := 301) (by decide) (tgt := 363) rfl ?_
      exact law_11 l hL C0 hA hbA hK hcs hC hi hE kk
    · refine lv_tableIn hx hb d_Law_law_62 (by decide) (by decide) (off := 324) (by decide) (tgt := 386) rfl ?_
      exact law_12 l hL C0 hA hbA hK hcs hC hi hE kk
    · refine lv_tableIn hx hb d_Law_law_62 (by decide) (by decide) (off := 373) (by decide) (tgt := 435) rfl ?_
      exact law_13 l hL C0 hA hbA hK hcs hC hi hE kk
    · refine lv_tableIn hx hb d_Law_law_62 (by decide) (by decide) (off := 396) (by decide) (tgt := 458) rfl ?_
      exact law_14 l hL C0 hA hbA hK hcs hC hi hE kk
    · refine lv_tableIn hx hb d_Law_law_62 (by decide) (by decide) (off := 410) (by decide) (tgt := 472) rfl ?_
      exact law_15 l hL C0 hA hbA hK hcs hC hi hE kk
