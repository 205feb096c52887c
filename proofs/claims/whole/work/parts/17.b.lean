set_option maxHeartbeats 4000000 in
set_option maxRecDepth 100000 in
theorem c_enter (l : Launch) {dC : Nat → ClassId} {dI : Nat → Nat → Nat} {cA : ClassId} (sz : Nat) {ob bw bm bk bv cm ck cv C : Nat} {lim lo ti mv : Int32} {v : Int32 × Int32 × Int32 × Int32} {k1 l1 k2 l2 : Int64} {z : Int64 × Int64 × Int64 × Int64} {M K V Wd OM OK OV : Nat → Int32} (hC : szC C) (hf : ∃ j, j < C ∧ M j = 0) (x y : Int32) : Met l y_Model_enter (.code y_Model_enter b_Model_enter 6 (some .int) :: BG) ({ frames := 4, cells := 0, slots := 0, locals := 91 }) (pRW dC dI cA [.ref ob, .int x, .int y] [(ob, .inr (3, [.int (nI C), .int lim, .int v.1, .int v.2.1, .int v.2.2.1, .int v.2.2.2, .ref bw, .long k1, .long l1, .long k2, .long l2, .ref bm, .ref bk, .ref bv, .int mv, .ref cm, .ref ck, .ref cv, .int lo, .int ti, .long z.1, .long z.2.1, .long z.2.2.1, .long z.2.2.2])), (bw, .inl (cA, 4, .inl Wd)), (bm, .inl (cA, 128, .inl M)), (bk, .inl (cA, 128, .inl K)), (bv, .inl (cA, 128, .inl V)), (cm, .inl (cA, 128, .inl OM)), (ck, .inl (cA, 128, .inl OK)), (cv, .inl (cA, 128, .inl OV))] sz) (va_Qi (fun r (u : Int64 × Int64 × Int64 × Int64) => r = nI (pld C M (hmk C k1 l1 x) + 1)) (fun (u : Int64 × Int64 × Int64 × Int64) tS => wdB dC dI cA (va_A [(ob, .inr (3, [.int (nI C), .int lim, .int v.1, .int v.2.1, .int v.2.2.1, .int v.2.2.2, .ref bw, .long k1, .long l1, .long k2, .long l2, .ref bm, .ref bk, .ref bv, .int mv, .ref cm, .ref ck, .ref cv, .int lo, .int ti, .long z.1, .long z.2.1, .long z.2.2.1, .long z.2.2.2])), (bw, .inl (cA, 4, .inl Wd)), (bm, .inl (cA, 128, .inl M)), (bk, .inl (cA, 128, .inl K)), (bv, .inl (cA, 128, .inl V)), (cm, .inl (cA, 128, .inl OM)), (ck, .inl (cA, 128, .inl OK)), (cv, .inl (cA, 128, .inl OV))] sz) [(ob, .inr (3, [.int (nI C), .int lim, .int v.1, .int v.2.1, .int v.2.2.1, .int v.2.2.2, .ref bw, .long k1, .long l1, .long k2, .long l2, .ref bm, .ref bk, .ref bv, .int mv, .ref cm, .ref ck, .ref cv, .int lo, .int ti, .long u.1, .long u.2.1, .long u.2.2.1, .long u.2.2.2])), (bw, .inl (cA, 4, .inl Wd)), (bm, .inl (cA, 128, .inl (upd M (plc C M (hmk C k1 l1 x)) 1))), (bk, .inl (cA, 128, .inl (upd K (plc C M (hmk C k1 l1 x)) x))), (bv, .inl (cA, 128, .inl (upd V (plc C M (hmk C k1 l1 x)) y))), (cm, .inl (cA, 128, .inl OM)), (ck, .inl (cA, 128, .inl OK)), (cv, .inl (cA, 128, .inl OV))] tS) (va_A [(ob, .inr (3, [.int (nI C), .int lim, .int v.1, .int v.2.1, .int v.2.2.1, .int v.2.2.2, .ref bw, .long k1, .long l1, .long k2, .long l2, .ref bm, .ref bk, .ref bv, .int mv, .ref cm, .ref ck, .ref cv, .int lo, .int ti, .long z.1, .long z.2.1, .long z.2.2.1, .long z.2.2.2])), (bw, .inl (cA, 4, .inl Wd)), (bm, .inl (cA, 128, .inl M)), (bk, .inl (cA, 128, .inl K)), (bv, .inl (cA, 128, .inl V)), (cm, .inl (cA, 128, .inl OM)), (ck, .inl (cA, 128, .inl OK)), (cv, .inl (cA, 128, .inl OV))] sz)) 0 0 (va_A [(ob, .inr (3, [.int (nI C), .int lim, .int v.1, .int v.2.1, .int v.2.2.1, .int v.2.2.2, .ref bw, .long k1, .long l1, .long k2, .long l2, .ref bm, .ref bk, .ref bv, .int mv, .ref cm, .ref ck, .ref cv, .int lo, .int ti, .long z.1, .long z.2.1, .long z.2.2.1, .long z.2.2.2])), (bw, .inl (cA, 4, .inl Wd)), (bm, .inl (cA, 128, .inl M)), (bk, .inl (cA, 128, .inl K)), (bv, .inl (cA, 128, .inl V)), (cm, .inl (cA, 128, .inl OM)), (ck, .inl (cA, 128, .inl OK)), (cv, .inl (cA, 128, .inl OV))] sz) := by
  refine Met.ofW (cc := b_Model_enter) (maxL := 6) (ret := some .int) (by decide) rfl ?_
  intro p e s m args below meth c s₁ B hml hv
  obtain ⟨rfl, hsz, hP, hK, hD0⟩ := hv
  have hx := B.exec
  have hb := B.bytes
  have hr := B.returns
  have hts : ∀ w ∈ BG, w.before _ s = true := fun w h => atoms_spec (ws := .code y_Model_enter b_Model_enter 6 (some .int) :: BG) B.pre w (List.mem_cons_of_mem _ h)
  have hown : s.vm.findClass R_Model = some m.cls := findClass_of_methodNamed B.named
  have hlocks := B.notSynchronized
  subst hsz
  have hD := hD0.self (sz := s.heap.size)
  generalize hAe : va_A [(ob, .inr (3, [.int (nI C), .int lim, .int v.1, .int v.2.1, .int v.2.2.1, .int v.2.2.2, .ref bw, .long k1, .long l1, .long k2, .long l2, .ref bm, .ref bk, .ref bv, .int mv, .ref cm, .ref ck, .ref cv, .int lo, .int ti, .long z.1, .long z.2.1, .long z.2.2.1, .long z.2.2.2])), (bw, .inl (cA, 4, .inl Wd)), (bm, .inl (cA, 128, .inl M)), (bk, .inl (cA, 128, .inl K)), (bv, .inl (cA, 128, .inl V)), (cm, .inl (cA, 128, .inl OM)), (ck, .inl (cA, 128, .inl OK)), (cv, .inl (cA, 128, .inl OV))] s.heap.size = A at hD ⊢
  have hA : ∀ q : Nat, s.heap.size ≤ q → A q := fun q h => by rw [← hAe]; exact Or.inr h
  have hS : va_S A s.heap s.heap [] := va_S.rf
  have hP : va_P (dC, dI) cls [(ob, .inr (3, [.int (nI C), .int lim, .int v.1, .int v.2.1, .int v.2.2.1, .int v.2.2.2, .ref bw, .long k1, .long l1, .long k2, .long l2, .ref bm, .ref bk, .ref bv, .int mv, .ref cm, .ref ck, .ref cv, .int lo, .int ti, .long z.1, .long z.2.1, .long z.2.2.1, .long z.2.2.2])), (bw, .inl (cA, 4, .inl Wd)), (bm, .inl (cA, 128, .inl M)), (bk, .inl (cA, 128, .inl K)), (bv, .inl (cA, 128, .inl V)), (cm, .inl (cA, 128, .inl OM)), (ck, .inl (cA, 128, .inl OK)), (cv, .inl (cA, 128, .inl OV))] s.heap := hP
  have hl := lv_entry ([.ref ob, .int x, .int y]) (n := 6) (Nat.le_of_ble_eq_true rfl)
  rw [lg_entry_eq]
  generalize (lg_sl ([.ref ob, .int x, .int y]) ++ List.replicate (6 - (lg_sl ([.ref ob, .int x, .int y])).length) Slot.unset).toArray = ls at hl ⊢
  have hl : lv_has ls 6 [(0, .ref ob), (1, .int x), (2, .int y)] := hl
  have hlo := hC.lo
  have hhi := hC.hi
  have hh := hmk_lt hC k1 l1 x
  obtain ⟨hz0, hzn, hzl⟩ := plc_free hC hh hf
  refine lv_aload_n hx hb d_Model_enter_0 rfl (lv_at hl 0 rfl) ?_
  refine lv_iload_n hx hb d_Model_enter_1 rfl (lv_at hl 1 rfl) ?_
  refine rw_i (wc := [(ob, .inr (3, [.int (nI C), .int lim, .int v.1, .int v.2.1, .int v.2.2.1, .int v.2.2.2, .ref bw, .long k1, .long l1, .long k2, .long l2, .ref bm, .ref bk, .ref bv, .int mv, .ref cm, .ref ck, .ref cv, .int lo, .int ti, .long z.1, .long z.2.1, .long z.2.2.1, .long z.2.2.2]))]) (wr := [(bw, .inl (cA, 4, .inl Wd)), (bm, .inl (cA, 128, .inl M)), (bk, .inl (cA, 128, .inl K)), (bv, .inl (cA, 128, .inl V)), (cm, .inl (cA, 128, .inl OM)), (ck, .inl (cA, 128, .inl OK)), (cv, .inl (cA, 128, .inl OV))]) hP hD hS hA (va_runV (As := [.int x]) (rest := []) ⟨hx, hb, hml, hown, hts⟩ (c_home l _ hC x) (cwV 1 hts g_Model_118 rfl rfl rfl (by decide +kernel) ⟨Nat.le_of_ble_eq_true rfl, Nat.le_of_ble_eq_true rfl⟩) ⟨bl_RW, va_recv (q0 := 0) hK hP rfl rfl, pr_RW hK hP hD [0] rfl (by decide) rfl⟩ rfl rfl hl.1 rfl (lv_room (Nat.le_of_ble_eq_true rfl)) d_Model_enter_2 ⟨Nat.zero_le _, Nat.zero_le _⟩) [0] [1, 2, 3, 4, 5, 6, 7] rfl rfl (by decide) (by decide) (fun rh y1 H locs hq hP hD hS => ?_)
  have hP : va_P (dC, dI) cls [(bw, .inl (cA, 4, .inl Wd)), (bm, .inl (cA, 128, .inl M)), (bk, .inl (cA, 128, .inl K)), (bv, .inl (cA, 128, .inl V)), (cm, .inl (cA, 128, .inl OM)), (ck, .inl (cA, 128, .inl OK)), (cv, .inl (cA, 128, .inl OV)), (ob, .inr (3, [.int (nI C), .int lim, .int v.1, .int v.2.1, .int v.2.2.1, .int v.2.2.2, .ref bw, .long k1, .long l1, .long k2, .long l2, .ref bm, .ref bk, .ref bv, .int mv, .ref cm, .ref ck, .ref cv, .int lo, .int ti, .long y1.1, .long y1.2.1, .long y1.2.2.1, .long y1.2.2.2]))] H := hP
  have hD : va_D A [(bw, .inl (cA, 4, .inl Wd)), (bm, .inl (cA, 128, .inl M)), (bk, .inl (cA, 128, .inl K)), (bv, .inl (cA, 128, .inl V)), (cm, .inl (cA, 128, .inl OM)), (ck, .inl (cA, 128, .inl OK)), (cv, .inl (cA, 128, .inl OV)), (ob, .inr (3, [.int (nI C), .int lim, .int v.1, .int v.2.1, .int v.2.2.1, .int v.2.2.2, .ref bw, .long k1, .long l1, .long k2, .long l2, .ref bm, .ref bk, .ref bv, .int mv, .ref cm, .ref ck, .ref cv, .int lo, .int ti, .long y1.1, .long y1.2.1, .long y1.2.2.1, .long y1.2.2.2]))] := hD
  have hP := hP.sub (ws' := [(ob, .inr (3, [.int (nI C), .int lim, .int v.1, .int v.2.1, .int v.2.2.1, .int v.2.2.2, .ref bw, .long k1, .long l1, .long k2, .long l2, .ref bm, .ref bk, .ref bv, .int mv, .ref cm, .ref ck, .ref cv, .int lo, .int ti, .long y1.1, .long y1.2.1, .long y1.2.2.1, .long y1.2.2.2])), (bw, .inl (cA, 4, .inl Wd)), (bm, .inl (cA, 128, .inl M)), (bk, .inl (cA, 128, .inl K)), (bv, .inl (cA, 128, .inl V)), (cm, .inl (cA, 128, .inl OM)), (ck, .inl (cA, 128, .inl OK)), (cv, .inl (cA, 128, .inl OV))]) [7, 0, 1, 2, 3, 4, 5, 6] rfl
  have hD := hD.sub (ws' := [(ob, .inr (3, [.int (nI C), .int lim, .int v.1, .int v.2.1, .int v.2.2.1, .int v.2.2.2, .ref bw, .long k1, .long l1, .long k2, .long l2, .ref bm, .ref bk, .ref bv, .int mv, .ref cm, .ref ck, .ref cv, .int lo, .int ti, .long y1.1, .long y1.2.1, .long y1.2.2.1, .long y1.2.2.2])), (bw, .inl (cA, 4, .inl Wd)), (bm, .inl (cA, 128, .inl M)), (bk, .inl (cA, 128, .inl K)), (bv, .inl (cA, 128, .inl V)), (cm, .inl (cA, 128, .inl OM)), (ck, .inl (cA, 128, .inl OK)), (cv, .inl (cA, 128, .inl OV))]) [7, 0, 1, 2, 3, 4, 5, 6] (by decide) rfl
  subst hq
  refine lv_istore_n hx hb d_Model_enter_5 rfl hl (by decide) rfl (fun ls hl => ?_)
  have hl : lv_has ls 6 [(3, .int (nI (hmk C k1 l1 x))), (0, .ref ob), (1, .int x), (2, .int y)] := hl
  refine lv_iconst hx hb d_Model_enter_6 (v := (nI 1)) rfl ?_
  refine lv_istore hx hb d_Model_enter_7 hl (by decide) rfl (fun ls hl => ?_)
  have hl : lv_has ls 6 [(4, .int (nI 1)), (3, .int (nI (hmk C k1 l1 x))), (0, .ref ob), (1, .int x), (2, .int y)] := hl
  refine W.eq (g2 := F0 m 9 ls []) rfl ?_
  refine lq1 (fun (d : Nat) => C - d) (fun (d : Nat) ls H locs => (d ≤ pld C M (hmk C k1 l1 x)) ∧ lv_has ls 6 [(0, .ref ob), (1, .int x), (2, .int y), (3, .int (nI (hmk C k1 l1 x))), (4, .int (nI (d + 1)))] ∧ va_P (dC, dI) cls [(ob, .inr (3, [.int (nI C), .int lim, .int v.1, .int v.2.1, .int v.2.2.1, .int v.2.2.2, .ref bw, .long k1, .long l1, .long k2, .long l2, .ref bm, .ref bk, .ref bv, .int mv, .ref cm, .ref ck, .ref cv, .int lo, .int ti, .long y1.1, .long y1.2.1, .long y1.2.2.1, .long y1.2.2.2])), (bw, .inl (cA, 4, .inl Wd)), (bm, .inl (cA, 128, .inl M)), (bk, .inl (cA, 128, .inl K)), (bv, .inl (cA, 128, .inl V)), (cm, .inl (cA, 128, .inl OM)), (ck, .inl (cA, 128, .inl OK)), (cv, .inl (cA, 128, .inl OV))] H ∧ va_D A [(ob, .inr (3, [.int (nI C), .int lim, .int v.1, .int v.2.1, .int v.2.2.1, .int v.2.2.2, .ref bw, .long k1, .long l1, .long k2, .long l2, .ref bm, .ref bk, .ref bv, .int mv, .ref cm, .ref ck, .ref cv, .int lo, .int ti, .long y1.1, .long y1.2.1, .long y1.2.2.1, .long y1.2.2.2])), (bw, .inl (cA, 4, .inl Wd)), (bm, .inl (cA, 128, .inl M)), (bk, .inl (cA, 128, .inl K)), (bv, .inl (cA, 128, .inl V)), (cm, .inl (cA, 128, .inl OM)), (ck, .inl (cA, 128, .inl OK)), (cv, .inl (cA, 128, .inl OV))] ∧ va_S A s.heap H locs) (fun d ls H locs hE ih9 => ?_) 0 ls _ _ ⟨Nat.zero_le _, lv_sub hl [2, 3, 4, 1, 0] rfl, hP, hD, hS⟩
  obtain ⟨hd, hl, hP, hD, hS⟩ := hE
  have hc : (hmk C k1 l1 x + d) % C < C := md_lt hC
  refine lv_aload_n hx hb d_Model_enter_9 rfl (lv_at hl 0 rfl) ?_
  refine va_get (ci := 3) (C := R_Model) (T := F_Model) (N := 24) hx hb hts in_Model hown hK hP 0 rfl rfl 11 (by decide) (hts _ wk_247) (fun _ h => h) rfl d_Model_enter_10 ?_
  refine lv_iload_n hx hb d_Model_enter_13 rfl (lv_at hl 3 rfl) ?_
  refine lv_iload hx hb d_Model_enter_14 (lv_at hl 4 rfl) ?_
  refine lv_iadd hx hb d_Model_enter_16 ?_
  refine lv_asI (y := nI (hmk C k1 l1 x + (d + 1))) (nI_add _ _) ?_
  refine lv_iconst hx hb d_Model_enter_17 (v := 1) rfl ?_
  refine lv_isub hx hb d_Model_enter_18 ?_
  refine lv_asI (y := nI (hmk C k1 l1 x + d)) (nI_pred (hmk C k1 l1 x + d)) ?_
  refine lv_aload_n hx hb d_Model_enter_19 rfl (lv_at hl 0 rfl) ?_
  refine va_get (ci := 3) (C := R_Model) (T := F_Model) (N := 24) hx hb hts in_Model hown hK hP 0 rfl rfl 0 (by decide) (hts _ wk_236) (fun _ h => h) rfl d_Model_enter_20 ?_
  refine lv_irem hx hb d_Model_enter_23 (nI_C0 hC) ?_
  refine lv_asI (y := nI ((hmk C k1 l1 x + d) % C)) (nI_rem hC (by omega)) ?_
  refine ia_ld (i := ((hmk C k1 l1 x + d) % C)) hx hb hK hP 2 rfl rfl (by omega) (by omega) d_Model_enter_24 ?_
  refine lv_if_eq hx hb d_Model_enter_25 (tgt := 34) rfl (fun hc25 => ?_) (fun hc25 => ?_)
  · skip
    have hq : d = pld C M (hmk C k1 l1 x) := by
        by_cases e : d < pld C M (hmk C k1 l1 x)
        · exact absurd hc25 (hzn d e)
        · omega
    subst hq
    refine lv_iload_n hx hb d_Model_enter_34 rfl (lv_at hl 3 rfl) ?_
    refine lv_iload hx hb d_Model_enter_35 (lv_at hl 4 rfl) ?_
    refine lv_iadd hx hb d_Model_enter_37 ?_
    refine lv_asI (y := nI (hmk C k1 l1 x + (pld C M (hmk C k1 l1 x) + 1))) (nI_add _ _) ?_
    refine W.eq (g2 := F0 m 38 ls [.int (nI (hmk C k1 l1 x + (pld C M (hmk C k1 l1 x) + 1)))]) rfl ?_
    refine lv_iconst hx hb d_Model_enter_38 (v := 1) rfl ?_
    refine lv_isub hx hb d_Model_enter_39 ?_
    refine lv_asI (y := nI (hmk C k1 l1 x + pld C M (hmk C k1 l1 x))) (nI_pred (hmk C k1 l1 x + pld C M (hmk C k1 l1 x))) ?_
    refine lv_aload_n hx hb d_Model_enter_40 rfl (lv_at hl 0 rfl) ?_
    refine va_get (ci := 3) (C := R_Model) (T := F_Model) (N := 24) hx hb hts in_Model hown hK hP 0 rfl rfl 0 (by decide) (hts _ wk_236) (fun _ h => h) rfl d_Model_enter_41 ?_
    refine lv_irem hx hb d_Model_enter_44 (nI_C0 hC) ?_
    have hpl : plc C M (hmk C k1 l1 x) < C := md_lt hC
    refine lv_asI (y := nI (plc C M (hmk C k1 l1 x))) (nI_rem hC (by omega)) ?_
    refine lv_istore hx hb d_Model_enter_45 hl (by decide) rfl (fun ls hl => ?_)
    have hl : lv_has ls 6 [(5, .int (nI (plc C M (hmk C k1 l1 x)))), (0, .ref ob), (1, .int x), (2, .int y), (3, .int (nI (hmk C k1 l1 x))), (4, .int (nI (pld C M (hmk C k1 l1 x) + 1)))] := hl
    refine lv_aload_n hx hb d_Model_enter_47 rfl (lv_at hl 1 rfl) ?_
    refine va_get (ci := 3) (C := R_Model) (T := F_Model) (N := 24) hx hb hts in_Model hown hK hP 0 rfl rfl 11 (by decide) (hts _ wk_247) (fun _ h => h) rfl d_Model_enter_48 ?_
    refine lv_iload hx hb d_Model_enter_51 (lv_at hl 0 rfl) ?_
    refine lv_iconst hx hb d_Model_enter_53 (v := 1) rfl ?_
    refine ia_st (i := (plc C M (hmk C k1 l1 x))) hx hb hK hP hD hS 2 rfl rfl (by omega) (by omega) d_Model_enter_54 (fun H locs hP hD hS => ?_)
    have hP : va_P (dC, dI) cls [(ob, .inr (3, [.int (nI C), .int lim, .int v.1, .int v.2.1, .int v.2.2.1, .int v.2.2.2, .ref bw, .long k1, .long l1, .long k2, .long l2, .ref bm, .ref bk, .ref bv, .int mv, .ref cm, .ref ck, .ref cv, .int lo, .int ti, .long y1.1, .long y1.2.1, .long y1.2.2.1, .long y1.2.2.2])), (bw, .inl (cA, 4, .inl Wd)), (bm, .inl (cA, 128, .inl (upd M (plc C M (hmk C k1 l1 x)) 1))), (bk, .inl (cA, 128, .inl K)), (bv, .inl (cA, 128, .inl V)), (cm, .inl (cA, 128, .inl OM)), (ck, .inl (cA, 128, .inl OK)), (cv, .inl (cA, 128, .inl OV))] H := hP
    have hD : va_D A [(ob, .inr (3, [.int (nI C), .int lim, .int v.1, .int v.2.1, .int v.2.2.1, .int v.2.2.2, .ref bw, .long k1, .long l1, .long k2, .long l2, .ref bm, .ref bk, .ref bv, .int mv, .ref cm, .ref ck, .ref cv, .int lo, .int ti, .long y1.1, .long y1.2.1, .long y1.2.2.1, .long y1.2.2.2])), (bw, .inl (cA, 4, .inl Wd)), (bm, .inl (cA, 128, .inl (upd M (plc C M (hmk C k1 l1 x)) 1))), (bk, .inl (cA, 128, .inl K)), (bv, .inl (cA, 128, .inl V)), (cm, .inl (cA, 128, .inl OM)), (ck, .inl (cA, 128, .inl OK)), (cv, .inl (cA, 128, .inl OV))] := hD
    refine lv_aload_n hx hb d_Model_enter_55 rfl (lv_at hl 1 rfl) ?_
    refine va_get (ci := 3) (C := R_Model) (T := F_Model) (N := 24) hx hb hts in_Model hown hK hP 0 rfl rfl 12 (by decide) (hts _ wk_248) (fun _ h => h) rfl d_Model_enter_56 ?_
    refine lv_iload hx hb d_Model_enter_59 (lv_at hl 0 rfl) ?_
    refine lv_iload_n hx hb d_Model_enter_61 rfl (lv_at hl 2 rfl) ?_
    refine ia_st (i := (plc C M (hmk C k1 l1 x))) hx hb hK hP hD hS 3 rfl rfl (by omega) (by omega) d_Model_enter_62 (fun H locs hP hD hS => ?_)
    have hP : va_P (dC, dI) cls [(ob, .inr (3, [.int (nI C), .int lim, .int v.1, .int v.2.1, .int v.2.2.1, .int v.2.2.2, .ref bw, .long k1, .long l1, .long k2, .long l2, .ref bm, .ref bk, .ref bv, .int mv, .ref cm, .ref ck, .ref cv, .int lo, .int ti, .long y1.1, .long y1.2.1, .long y1.2.2.1, .long y1.2.2.2])), (bw, .inl (cA, 4, .inl Wd)), (bm, .inl (cA, 128, .inl (upd M (plc C M (hmk C k1 l1 x)) 1))), (bk, .inl (cA, 128, .inl (upd K (plc C M (hmk C k1 l1 x)) x))), (bv, .inl (cA, 128, .inl V)), (cm, .inl (cA, 128, .inl OM)), (ck, .inl (cA, 128, .inl OK)), (cv, .inl (cA, 128, .inl OV))] H := hP
    have hD : va_D A [(ob, .inr (3, [.int (nI C), .int lim, .int v.1, .int v.2.1, .int v.2.2.1, .int v.2.2.2, .ref bw, .long k1, .long l1, .long k2, .long l2, .ref bm, .ref bk, .ref bv, .int mv, .ref cm, .ref ck, .ref cv, .int lo, .int ti, .long y1.1, .long y1.2.1, .long y1.2.2.1, .long y1.2.2.2])), (bw, .inl (cA, 4, .inl Wd)), (bm, .inl (cA, 128, .inl (upd M (plc C M (hmk C k1 l1 x)) 1))), (bk, .inl (cA, 128, .inl (upd K (plc C M (hmk C k1 l1 x)) x))), (bv, .inl (cA, 128, .inl V)), (cm, .inl (cA, 128, .inl OM)), (ck, .inl (cA, 128, .inl OK)), (cv, .inl (cA, 128, .inl OV))] := hD
    refine W.eq (g2 := F0 m 63 ls []) rfl ?_
    refine lv_aload_n hx hb d_Model_enter_63 rfl (lv_at hl 1 rfl) ?_
    refine va_get (ci := 3) (C := R_Model) (T := F_Model) (N := 24) hx hb hts in_Model hown hK hP 0 rfl rfl 13 (by decide) (hts _ wk_249) (fun _ h => h) rfl d_Model_enter_64 ?_
    refine lv_iload hx hb d_Model_enter_67 (lv_at hl 0 rfl) ?_
    refine lv_iload_n hx hb d_Model_enter_69 rfl (lv_at hl 3 rfl) ?_
    refine ia_st (i := (plc C M (hmk C k1 l1 x))) hx hb hK hP hD hS 4 rfl rfl (by omega) (by omega) d_Model_enter_70 (fun H locs hP hD hS => ?_)
    have hP : va_P (dC, dI) cls [(ob, .inr (3, [.int (nI C), .int lim, .int v.1, .int v.2.1, .int v.2.2.1, .int v.2.2.2, .ref bw, .long k1, .long l1, .long k2, .long l2, .ref bm, .ref bk, .ref bv, .int mv, .ref cm, .ref ck, .ref cv, .int lo, .int ti, .long y1.1, .long y1.2.1, .long y1.2.2.1, .long y1.2.2.2])), (bw, .inl (cA, 4, .inl Wd)), (bm, .inl (cA, 128, .inl (upd M (plc C M (hmk C k1 l1 x)) 1))), (bk, .inl (cA, 128, .inl (upd K (plc C M (hmk C k1 l1 x)) x))), (bv, .inl (cA, 128, .inl (upd V (plc C M (hmk C k1 l1 x)) y))), (cm, .inl (cA, 128, .inl OM)), (ck, .inl (cA, 128, .inl OK)), (cv, .inl (cA, 128, .inl OV))] H := hP
    have hD : va_D A [(ob, .inr (3, [.int (nI C), .int lim, .int v.1, .int v.2.1, .int v.2.2.1, .int v.2.2.2, .ref bw, .long k1, .long l1, .long k2, .long l2, .ref bm, .ref bk, .ref bv, .int mv, .ref cm, .ref ck, .ref cv, .int lo, .int ti, .long y1.1, .long y1.2.1, .long y1.2.2.1, .long y1.2.2.2])), (bw, .inl (cA, 4, .inl Wd)), (bm, .inl (cA, 128, .inl (upd M (plc C M (hmk C k1 l1 x)) 1))), (bk, .inl (cA, 128, .inl (upd K (plc C M (hmk C k1 l1 x)) x))), (bv, .inl (cA, 128, .inl (upd V (plc C M (hmk C k1 l1 x)) y))), (cm, .inl (cA, 128, .inl OM)), (ck, .inl (cA, 128, .inl OK)), (cv, .inl (cA, 128, .inl OV))] := hD
    refine lv_iload hx hb d_Model_enter_71 (lv_at hl 5 rfl) ?_
    exact W.iret hx hb hr (fun tS ht hW => ⟨⟨_, y1, rfl, rfl, by rw [ht]; exact hP, va_K.moved hW.alike hK, hD⟩, hS.F ht⟩) hS.2.2 d_Model_enter_73 hlocks
  · skip
    have hq : d < pld C M (hmk C k1 l1 x) := by
        by_cases e : d = pld C M (hmk C k1 l1 x)
        · exact absurd (by rw [e]; exact hz0) hc25
        · omega
    refine lv_iinc hx hb d_Model_enter_28 hl (k := 4) rfl (v := nI (d + 1 + 1)) (nI_1 _) (by decide) rfl (fun ls hl => ?_)
    have hl : lv_has ls 6 [(4, .int (nI (d + 1 + 1))), (0, .ref ob), (1, .int x), (2, .int y), (3, .int (nI (hmk C k1 l1 x)))] := hl
    refine lv_goto hx hb d_Model_enter_31 (tgt := 9) rfl ?_
    exact ih9 (d + 1) ls _ _ ⟨by omega, lv_sub hl [1, 2, 3, 4, 0] rfl, hP, hD, hS⟩ (by omega)
