set_option maxHeartbeats 4000000 in
set_option maxRecDepth 100000 in
theorem c_drawKey (l : Launch) {dC : Nat → ClassId} {dI : Nat → Nat → Nat} {cA : ClassId} (sz : Nat) {ob bw bm bk bv cm ck cv C : Nat} {lim lo ti mv : Int32} (v : Int32 × Int32 × Int32 × Int32) {k1 l1 k2 l2 : Int64} {z : Int64 × Int64 × Int64 × Int64} {Wd : Nat → Int32} : Met l y_Model_drawKey (.code y_Model_drawKey b_Model_drawKey 2 none :: BG) ({ frames := 2, cells := 0, slots := 0, locals := 43 }) (pRW dC dI cA [.ref ob] [(ob, .inr (3, [.int (nI C), .int lim, .int v.1, .int v.2.1, .int v.2.2.1, .int v.2.2.2, .ref bw, .long k1, .long l1, .long k2, .long l2, .ref bm, .ref bk, .ref bv, .int mv, .ref cm, .ref ck, .ref cv, .int lo, .int ti, .long z.1, .long z.2.1, .long z.2.2.1, .long z.2.2.2])), (bw, .inl (cA, 4, .inl Wd))] sz) (va_Qv (fun (_ : Unit) => True) (fun _ tS => wdB dC dI cA (va_A [(ob, .inr (3, [.int (nI C), .int lim, .int v.1, .int v.2.1, .int v.2.2.1, .int v.2.2.2, .ref bw, .long k1, .long l1, .long k2, .long l2, .ref bm, .ref bk, .ref bv, .int mv, .ref cm, .ref ck, .ref cv, .int lo, .int ti, .long z.1, .long z.2.1, .long z.2.2.1, .long z.2.2.2])), (bw, .inl (cA, 4, .inl Wd))] sz) [(ob, .inr (3, [.int (nI C), .int lim, .int ((gIt 4 v).1), .int ((gIt 4 v).2.1), .int ((gIt 4 v).2.2.1), .int ((gIt 4 v).2.2.2), .ref bw, .long (jn (wIt v Wd 4 0) (wIt v Wd 4 1)), .long (jn (wIt v Wd 4 2) (wIt v Wd 4 3)), .long k2, .long l2, .ref bm, .ref bk, .ref bv, .int mv, .ref cm, .ref ck, .ref cv, .int lo, .int ti, .long z.1, .long z.2.1, .long z.2.2.1, .long z.2.2.2])), (bw, .inl (cA, 4, .inl (wIt v Wd 4)))] tS) (va_A [(ob, .inr (3, [.int (nI C), .int lim, .int v.1, .int v.2.1, .int v.2.2.1, .int v.2.2.2, .ref bw, .long k1, .long l1, .long k2, .long l2, .ref bm, .ref bk, .ref bv, .int mv, .ref cm, .ref ck, .ref cv, .int lo, .int ti, .long z.1, .long z.2.1, .long z.2.2.1, .long z.2.2.2])), (bw, .inl (cA, 4, .inl Wd))] sz)) 0 0 (va_A [(ob, .inr (3, [.int (nI C), .int lim, .int v.1, .int v.2.1, .int v.2.2.1, .int v.2.2.2, .ref bw, .long k1, .long l1, .long k2, .long l2, .ref bm, .ref bk, .ref bv, .int mv, .ref cm, .ref ck, .ref cv, .int lo, .int ti, .long z.1, .long z.2.1, .long z.2.2.1, .long z.2.2.2])), (bw, .inl (cA, 4, .inl Wd))] sz) := by
  refine Met.ofW (cc := b_Model_drawKey) (maxL := 2) (ret := none) (by decide) rfl ?_
  intro p e s m args below meth c s₁ B hml hv
  obtain ⟨rfl, hsz, hP, hK, hD0⟩ := hv
  have hx := B.exec
  have hb := B.bytes
  have hr := B.returns
  have hts : ∀ w ∈ BG, w.before _ s = true := fun w h => atoms_spec (ws := .code y_Model_drawKey b_Model_drawKey 2 none :: BG) B.pre w (List.mem_cons_of_mem _ h)
  have hown : s.vm.findClass R_Model = some m.cls := findClass_of_methodNamed B.named
  have hlocks := B.notSynchronized
  subst hsz
  have hD := hD0.self (sz := s.heap.size)
  generalize hAe : va_A [(ob, .inr (3, [.int (nI C), .int lim, .int v.1, .int v.2.1, .int v.2.2.1, .int v.2.2.2, .ref bw, .long k1, .long l1, .long k2, .long l2, .ref bm, .ref bk, .ref bv, .int mv, .ref cm, .ref ck, .ref cv, .int lo, .int ti, .long z.1, .long z.2.1, .long z.2.2.1, .long z.2.2.2])), (bw, .inl (cA, 4, .inl Wd))] s.heap.size = A at hD ⊢
  have hA : ∀ q : Nat, s.heap.size ≤ q → A q := fun q h => by rw [← hAe]; exact Or.inr h
  have hS : va_S A s.heap s.heap [] := va_S.rf
  have hP : va_P (dC, dI) cls [(ob, .inr (3, [.int (nI C), .int lim, .int v.1, .int v.2.1, .int v.2.2.1, .int v.2.2.2, .ref bw, .long k1, .long l1, .long k2, .long l2, .ref bm, .ref bk, .ref bv, .int mv, .ref cm, .ref ck, .ref cv, .int lo, .int ti, .long z.1, .long z.2.1, .long z.2.2.1, .long z.2.2.2])), (bw, .inl (cA, 4, .inl Wd))] s.heap := hP
  have hl := lv_entry ([.ref ob]) (n := 2) (Nat.le_of_ble_eq_true rfl)
  rw [lg_entry_eq]
  generalize (lg_sl ([.ref ob]) ++ List.replicate (2 - (lg_sl ([.ref ob])).length) Slot.unset).toArray = ls at hl ⊢
  have hl : lv_has ls 2 [(0, .ref ob)] := hl
  refine lv_iconst hx hb d_Model_drawKey_0 (v := (nI 0)) rfl ?_
  refine lv_istore_n hx hb d_Model_drawKey_1 rfl hl (by decide) rfl (fun ls hl => ?_)
  have hl : lv_has ls 2 [(1, .int (nI 0)), (0, .ref ob)] := hl
  refine W.eq (g2 := F0 m 2 ls []) rfl ?_
  refine lq1 (fun (j : Nat) => 4 - j) (fun (j : Nat) ls H locs => (j ≤ 4) ∧ lv_has ls 2 [(0, .ref ob), (1, .int (nI j))] ∧ va_P (dC, dI) cls [(ob, .inr (3, [.int (nI C), .int lim, .int ((gIt j v).1), .int ((gIt j v).2.1), .int ((gIt j v).2.2.1), .int ((gIt j v).2.2.2), .ref bw, .long k1, .long l1, .long k2, .long l2, .ref bm, .ref bk, .ref bv, .int mv, .ref cm, .ref ck, .ref cv, .int lo, .int ti, .long z.1, .long z.2.1, .long z.2.2.1, .long z.2.2.2])), (bw, .inl (cA, 4, .inl (wIt v Wd j)))] H ∧ va_D A [(ob, .inr (3, [.int (nI C), .int lim, .int ((gIt j v).1), .int ((gIt j v).2.1), .int ((gIt j v).2.2.1), .int ((gIt j v).2.2.2), .ref bw, .long k1, .long l1, .long k2, .long l2, .ref bm, .ref bk, .ref bv, .int mv, .ref cm, .ref ck, .ref cv, .int lo, .int ti, .long z.1, .long z.2.1, .long z.2.2.1, .long z.2.2.2])), (bw, .inl (cA, 4, .inl (wIt v Wd j)))] ∧ va_S A s.heap H locs) (fun j ls H locs hE ih2 => ?_) 0 ls _ _ ⟨Nat.zero_le _, lv_sub hl [1, 0] rfl, hP, hD, hS⟩
  obtain ⟨hj, hl, hP, hD, hS⟩ := hE
  refine lv_iload_n hx hb d_Model_drawKey_2 rfl (lv_at hl 1 rfl) ?_
  refine lv_iconst hx hb d_Model_drawKey_3 (v := (nI 4)) rfl ?_
  refine lv_icmp_ge hx hb d_Model_drawKey_4 (tgt := 23) rfl (fun hc4 => ?_) (fun hc4 => ?_)
  · skip
    have hq : 4 = j := by
        have := (nI_leI (by omega) (by omega)).mp hc4
        omega
    subst hq
    refine lv_aload_n hx hb d_Model_drawKey_23 rfl (lv_at hl 0 rfl) ?_
    refine lv_aload_n hx hb d_Model_drawKey_24 rfl (lv_at hl 0 rfl) ?_
    refine va_get (ci := 3) (C := R_Model) (T := F_Model) (N := 24) hx hb hts in_Model hown hK hP 0 rfl rfl 6 (by decide) (hts _ wk_242) (fun _ h => h) rfl d_Model_drawKey_25 ?_
    refine lv_iconst hx hb d_Model_drawKey_28 (v := 0) rfl ?_
    refine ia_ld (i := 0) hx hb hK hP 1 rfl rfl (by decide) (by decide) d_Model_drawKey_29 ?_
    refine lv_aload_n hx hb d_Model_drawKey_30 rfl (lv_at hl 0 rfl) ?_
    refine va_get (ci := 3) (C := R_Model) (T := F_Model) (N := 24) hx hb hts in_Model hown hK hP 0 rfl rfl 6 (by decide) (hts _ wk_242) (fun _ h => h) rfl d_Model_drawKey_31 ?_
    refine lv_iconst hx hb d_Model_drawKey_34 (v := 1) rfl ?_
    refine ia_ld (i := 1) hx hb hK hP 1 rfl rfl (by decide) (by decide) d_Model_drawKey_35 ?_
    refine ro_l (va_runS (As := [.int ((wIt v Wd 4) 0), .int ((wIt v Wd 4) 1)]) (rest := [.ref ob]) ⟨hx, hb, hml, hown, hts⟩ (c_mjoined l ((wIt v Wd 4) 0) ((wIt v Wd 4) 1)) (cwS 2 hts g_Model_73 rfl rfl rfl (by decide +kernel) ⟨Nat.le_of_ble_eq_true rfl, Nat.le_of_ble_eq_true rfl⟩) ⟨bl_J, fun U hU hW => ⟨rfl, hU⟩⟩ rfl rfl hl.1 rfl (lv_room (Nat.le_of_ble_eq_true rfl)) d_Model_drawKey_36 ⟨Nat.zero_le _, Nat.zero_le _⟩) hS (fun locs hS => ?_)
    refine va_put (D := (dC, dI)) (ci := 3) (v := .long (jn ((wIt v Wd 4) 0) ((wIt v Wd 4) 1))) (ty := .long) (C := R_Model) (T := F_Model) (N := 24) hx hb hts in_Model t_Model t_Model_ok n_Model hown hK hP hD hS 0 rfl rfl 7 (by decide) (hts _ wk_243) (fun _ h => h) rfl t_Model_7 rfl rfl (Nat.le_of_ble_eq_true rfl) d_Model_drawKey_39 (fun H locs hP hD hS => ?_)
    have hP : va_P (dC, dI) cls [(ob, .inr (3, [.int (nI C), .int lim, .int ((gIt 4 v).1), .int ((gIt 4 v).2.1), .int ((gIt 4 v).2.2.1), .int ((gIt 4 v).2.2.2), .ref bw, .long (jn ((wIt v Wd 4) 0) ((wIt v Wd 4) 1)), .long l1, .long k2, .long l2, .ref bm, .ref bk, .ref bv, .int mv, .ref cm, .ref ck, .ref cv, .int lo, .int ti, .long z.1, .long z.2.1, .long z.2.2.1, .long z.2.2.2])), (bw, .inl (cA, 4, .inl (wIt v Wd 4)))] H := hP
    have hD : va_D A [(ob, .inr (3, [.int (nI C), .int lim, .int ((gIt 4 v).1), .int ((gIt 4 v).2.1), .int ((gIt 4 v).2.2.1), .int ((gIt 4 v).2.2.2), .ref bw, .long (jn ((wIt v Wd 4) 0) ((wIt v Wd 4) 1)), .long l1, .long k2, .long l2, .ref bm, .ref bk, .ref bv, .int mv, .ref cm, .ref ck, .ref cv, .int lo, .int ti, .long z.1, .long z.2.1, .long z.2.2.1, .long z.2.2.2])), (bw, .inl (cA, 4, .inl (wIt v Wd 4)))] := hD
    refine lv_aload_n hx hb d_Model_drawKey_42 rfl (lv_at hl 0 rfl) ?_
    refine W.eq (g2 := F0 m 43 ls [.ref ob]) rfl ?_
    refine lv_aload_n hx hb d_Model_drawKey_43 rfl (lv_at hl 0 rfl) ?_
    refine va_get (ci := 3) (C := R_Model) (T := F_Model) (N := 24) hx hb hts in_Model hown hK hP 0 rfl rfl 6 (by decide) (hts _ wk_242) (fun _ h => h) rfl d_Model_drawKey_44 ?_
    refine lv_iconst hx hb d_Model_drawKey_47 (v := 2) rfl ?_
    refine ia_ld (i := 2) hx hb hK hP 1 rfl rfl (by decide) (by decide) d_Model_drawKey_48 ?_
    refine lv_aload_n hx hb d_Model_drawKey_49 rfl (lv_at hl 0 rfl) ?_
    refine va_get (ci := 3) (C := R_Model) (T := F_Model) (N := 24) hx hb hts in_Model hown hK hP 0 rfl rfl 6 (by decide) (hts _ wk_242) (fun _ h => h) rfl d_Model_drawKey_50 ?_
    refine lv_iconst hx hb d_Model_drawKey_53 (v := 3) rfl ?_
    refine ia_ld (i := 3) hx hb hK hP 1 rfl rfl (by decide) (by decide) d_Model_drawKey_54 ?_
    refine ro_l (va_runS (As := [.int ((wIt v Wd 4) 2), .int ((wIt v Wd 4) 3)]) (rest := [.ref ob]) ⟨hx, hb, hml, hown, hts⟩ (c_mjoined l ((wIt v Wd 4) 2) ((wIt v Wd 4) 3)) (cwS 2 hts g_Model_73 rfl rfl rfl (by decide +kernel) ⟨Nat.le_of_ble_eq_true rfl, Nat.le_of_ble_eq_true rfl⟩) ⟨bl_J, fun U hU hW => ⟨rfl, hU⟩⟩ rfl rfl hl.1 rfl (lv_room (Nat.le_of_ble_eq_true rfl)) d_Model_drawKey_55 ⟨Nat.zero_le _, Nat.zero_le _⟩) hS (fun locs hS => ?_)
    refine va_put (D := (dC, dI)) (ci := 3) (v := .long (jn ((wIt v Wd 4) 2) ((wIt v Wd 4) 3))) (ty := .long) (C := R_Model) (T := F_Model) (N := 24) hx hb hts in_Model t_Model t_Model_ok n_Model hown hK hP hD hS 0 rfl rfl 8 (by decide) (hts _ wk_244) (fun _ h => h) rfl t_Model_8 rfl rfl (Nat.le_of_ble_eq_true rfl) d_Model_drawKey_58 (fun H locs hP hD hS => ?_)
    have hP : va_P (dC, dI) cls [(ob, .inr (3, [.int (nI C), .int lim, .int ((gIt 4 v).1), .int ((gIt 4 v).2.1), .int ((gIt 4 v).2.2.1), .int ((gIt 4 v).2.2.2), .ref bw, .long (jn ((wIt v Wd 4) 0) ((wIt v Wd 4) 1)), .long (jn ((wIt v Wd 4) 2) ((wIt v Wd 4) 3)), .long k2, .long l2, .ref bm, .ref bk, .ref bv, .int mv, .ref cm, .ref ck, .ref cv, .int lo, .int ti, .long z.1, .long z.2.1, .long z.2.2.1, .long z.2.2.2])), (bw, .inl (cA, 4, .inl (wIt v Wd 4)))] H := hP
    have hD : va_D A [(ob, .inr (3, [.int (nI C), .int lim, .int ((gIt 4 v).1), .int ((gIt 4 v).2.1), .int ((gIt 4 v).2.2.1), .int ((gIt 4 v).2.2.2), .ref bw, .long (jn ((wIt v Wd 4) 0) ((wIt v Wd 4) 1)), .long (jn ((wIt v Wd 4) 2) ((wIt v Wd 4) 3)), .long k2, .long l2, .ref bm, .ref bk, .ref bv, .int mv, .ref cm, .ref ck, .ref cv, .int lo, .int ti, .long z.1, .long z.2.1, .long z.2.2.1, .long z.2.2.2])), (bw, .inl (cA, 4, .inl (wIt v Wd 4)))] := hD
    exact W.vret hx hb hr (fun tS ht hW => ⟨⟨(), rfl, trivial, by rw [ht]; exact hP, va_K.moved hW.alike hK, hD⟩, hS.F ht⟩) hS.2.2 d_Model_drawKey_61 hlocks
  · skip
    have hq : ¬ 4 ≤ j := fun h => hc4 ((nI_leI (by omega) (by omega)).mpr h)
    refine lv_aload_n hx hb d_Model_drawKey_7 rfl (lv_at hl 0 rfl) ?_
    refine va_get (ci := 3) (C := R_Model) (T := F_Model) (N := 24) hx hb hts in_Model hown hK hP 0 rfl rfl 6 (by decide) (hts _ wk_242) (fun _ h => h) rfl d_Model_drawKey_8 ?_
    refine lv_iload_n hx hb d_Model_drawKey_11 rfl (lv_at hl 1 rfl) ?_
    refine lv_aload_n hx hb d_Model_drawKey_12 rfl (lv_at hl 0 rfl) ?_
    refine rw_i (wc := [(ob, .inr (3, [.int (nI C), .int lim, .int ((gIt j v).1), .int ((gIt j v).2.1), .int ((gIt j v).2.2.1), .int ((gIt j v).2.2.2), .ref bw, .long k1, .long l1, .long k2, .long l2, .ref bm, .ref bk, .ref bv, .int mv, .ref cm, .ref ck, .ref cv, .int lo, .int ti, .long z.1, .long z.2.1, .long z.2.2.1, .long z.2.2.2]))]) (wr := [(bw, .inl (cA, 4, .inl (wIt v Wd j)))]) hP hD hS hA (va_runV (As := []) (rest := [.int (nI j), .ref bw]) ⟨hx, hb, hml, hown, hts⟩ (c_mdraw l _ (gIt j v)) (cwV 0 hts g_Model_69 rfl rfl rfl (by decide +kernel) ⟨Nat.le_of_ble_eq_true rfl, Nat.le_of_ble_eq_true rfl⟩) ⟨bl_RW, va_recv (q0 := 0) hK hP rfl rfl, pr_RW hK hP hD [0] rfl (by decide) rfl⟩ rfl rfl hl.1 rfl (lv_room (Nat.le_of_ble_eq_true rfl)) d_Model_drawKey_13 ⟨Nat.zero_le _, Nat.zero_le _⟩) [0] [1] rfl rfl (by decide) (by decide) (fun rd _ H locs hq hP hD hS => ?_)
    have hP : va_P (dC, dI) cls [(bw, .inl (cA, 4, .inl (wIt v Wd j))), (ob, .inr (3, [.int (nI C), .int lim, .int ((gS (gIt j v)).1), .int ((gS (gIt j v)).2.1), .int ((gS (gIt j v)).2.2.1), .int ((gS (gIt j v)).2.2.2), .ref bw, .long k1, .long l1, .long k2, .long l2, .ref bm, .ref bk, .ref bv, .int mv, .ref cm, .ref ck, .ref cv, .int lo, .int ti, .long z.1, .long z.2.1, .long z.2.2.1, .long z.2.2.2]))] H := hP
    have hD : va_D A [(bw, .inl (cA, 4, .inl (wIt v Wd j))), (ob, .inr (3, [.int (nI C), .int lim, .int ((gS (gIt j v)).1), .int ((gS (gIt j v)).2.1), .int ((gS (gIt j v)).2.2.1), .int ((gS (gIt j v)).2.2.2), .ref bw, .long k1, .long l1, .long k2, .long l2, .ref bm, .ref bk, .ref bv, .int mv, .ref cm, .ref ck, .ref cv, .int lo, .int ti, .long z.1, .long z.2.1, .long z.2.2.1, .long z.2.2.2]))] := hD
    have hP := hP.sub (ws' := [(ob, .inr (3, [.int (nI C), .int lim, .int ((gS (gIt j v)).1), .int ((gS (gIt j v)).2.1), .int ((gS (gIt j v)).2.2.1), .int ((gS (gIt j v)).2.2.2), .ref bw, .long k1, .long l1, .long k2, .long l2, .ref bm, .ref bk, .ref bv, .int mv, .ref cm, .ref ck, .ref cv, .int lo, .int ti, .long z.1, .long z.2.1, .long z.2.2.1, .long z.2.2.2])), (bw, .inl (cA, 4, .inl (wIt v Wd j)))]) [1, 0] rfl
    have hD := hD.sub (ws' := [(ob, .inr (3, [.int (nI C), .int lim, .int ((gS (gIt j v)).1), .int ((gS (gIt j v)).2.1), .int ((gS (gIt j v)).2.2.1), .int ((gS (gIt j v)).2.2.2), .ref bw, .long k1, .long l1, .long k2, .long l2, .ref bm, .ref bk, .ref bv, .int mv, .ref cm, .ref ck, .ref cv, .int lo, .int ti, .long z.1, .long z.2.1, .long z.2.2.1, .long z.2.2.2])), (bw, .inl (cA, 4, .inl (wIt v Wd j)))]) [1, 0] (by decide) rfl
    subst hq
    refine ia_st (i := j) hx hb hK hP hD hS 1 rfl rfl (by omega) (by omega) d_Model_drawKey_16 (fun H locs hP hD hS => ?_)
    have hP : va_P (dC, dI) cls [(ob, .inr (3, [.int (nI C), .int lim, .int ((gS (gIt j v)).1), .int ((gS (gIt j v)).2.1), .int ((gS (gIt j v)).2.2.1), .int ((gS (gIt j v)).2.2.2), .ref bw, .long k1, .long l1, .long k2, .long l2, .ref bm, .ref bk, .ref bv, .int mv, .ref cm, .ref ck, .ref cv, .int lo, .int ti, .long z.1, .long z.2.1, .long z.2.2.1, .long z.2.2.2])), (bw, .inl (cA, 4, .inl (upd (wIt v Wd j) j (gO (gIt j v)))))] H := hP
    have hD : va_D A [(ob, .inr (3, [.int (nI C), .int lim, .int ((gS (gIt j v)).1), .int ((gS (gIt j v)).2.1), .int ((gS (gIt j v)).2.2.1), .int ((gS (gIt j v)).2.2.2), .ref bw, .long k1, .long l1, .long k2, .long l2, .ref bm, .ref bk, .ref bv, .int mv, .ref cm, .ref ck, .ref cv, .int lo, .int ti, .long z.1, .long z.2.1, .long z.2.2.1, .long z.2.2.2])), (bw, .inl (cA, 4, .inl (upd (wIt v Wd j) j (gO (gIt j v)))))] := hD
    refine lv_iinc hx hb d_Model_drawKey_17 hl (k := 1) rfl (v := nI (j + 1)) (nI_1 _) (by decide) rfl (fun ls hl => ?_)
    have hl : lv_has ls 2 [(1, .int (nI (j + 1))), (0, .ref ob)] := hl
    refine lv_goto hx hb d_Model_drawKey_20 (tgt := 2) rfl ?_
    exact ih2 (j + 1) ls _ _ ⟨by omega, lv_sub hl [1, 0] rfl, hP, hD, hS⟩ (by omega)
set_option maxHeartbeats 4000000 in
set_option maxRecDepth 100000 in
theorem c_round (l : Launch) {dC : Nat → ClassId} {dI : Nat → Nat → Nat} {cA : ClassId} (sz : Nat) {ob bw bm bk bv cm ck cv C : Nat} {lim lo ti mv : Int32} {v : Int32 × Int32 × Int32 × Int32} {k1 l1 k2 l2 : Int64} (z : Int64 × Int64 × Int64 × Int64) : Met l y_Model_round (.code y_Model_round b_Model_round 1 none :: BG) ({ frames := 1, cells := 0, slots := 0, locals := 22 }) (pRW dC dI cA [.ref ob] [(ob, .inr (3, [.int (nI C), .int lim, .int v.1, .int v.2.1, .int v.2.2.1, .int v.2.2.2, .ref bw, .long k1, .long l1, .long k2, .long l2, .ref bm, .ref bk, .ref bv, .int mv, .ref cm, .ref ck, .ref cv, .int lo, .int ti, .long z.1, .long z.2.1, .long z.2.2.1, .long z.2.2.2]))] sz) (va_Qv (fun (_ : Unit) => True) (fun _ tS => wdB dC dI cA (va_A [(ob, .inr (3, [.int (nI C), .int lim, .int v.1, .int v.2.1, .int v.2.2.1, .int v.2.2.2, .ref bw, .long k1, .long l1, .long k2, .long l2, .ref bm, .ref bk, .ref bv, .int mv, .ref cm, .ref ck, .ref cv, .int lo, .int ti, .long z.1, .long z.2.1, .long z.2.2.1, .long z.2.2.2]))] sz) [(ob, .inr (3, [.int (nI C), .int lim, .int v.1, .int v.2.1, .int v.2.2.1, .int v.2.2.2, .ref bw, .long k1, .long l1, .long k2, .long l2, .ref bm, .ref bk, .ref bv, .int mv, .ref cm, .ref ck, .ref cv, .int lo, .int ti, .long ((sr z).1), .long ((sr z).2.1), .long ((sr z).2.2.1), .long ((sr z).2.2.2)]))] tS) (va_A [(ob, .inr (3, [.int (nI C), .int lim, .int v.1, .int v.2.1, .int v.2.2.1, .int v.2.2.2, .ref bw, .long k1, .long l1, .long k2, .long l2, .ref bm, .ref bk, .ref bv, .int mv, .ref cm, .ref ck, .ref cv, .int lo, .int ti, .long z.1, .long z.2.1, .long z.2.2.1, .long z.2.2.2]))] sz)) 0 0 (va_A [(ob, .inr (3, [.int (nI C), .int lim, .int v.1, .int v.2.1, .int v.2.2.1, .int v.2.2.2, .ref bw, .long k1, .long l1, .long k2, .long l2, .ref bm, .ref bk, .ref bv, .int mv, .ref cm, .ref ck, .ref cv, .int lo, .int ti, .long z.1, .long z.2.1, .long z.2.2.1, .long z.2.2.2]))] sz) := by
  refine Met.ofW (cc := b_Model_round) (maxL := 1) (ret := none) (by decide) rfl ?_
  intro p e s m args below meth c s₁ B hml hv
  obtain ⟨rfl, hsz, hP, hK, hD0⟩ := hv
  have hx := B.exec
  have hb := B.bytes
  have hr := B.returns
  have hts : ∀ w ∈ BG, w.before _ s = true := fun w h => atoms_spec (ws := .code y_Model_round b_Model_round 1 none :: BG) B.pre w (List.mem_cons_of_mem _ h)
  have hown : s.vm.findClass R_Model = some m.cls := findClass_of_methodNamed B.named
  have hlocks := B.notSynchronized
  subst hsz
  have hD := hD0.self (sz := s.heap.size)
  generalize hAe : va_A [(ob, .inr (3, [.int (nI C), .int lim, .int v.1, .int v.2.1, .int v.2.2.1, .int v.2.2.2, .ref bw, .long k1, .long l1, .long k2, .long l2, .ref bm, .ref bk, .ref bv, .int mv, .ref cm, .ref ck, .ref cv, .int lo, .int ti, .long z.1, .long z.2.1, .long z.2.2.1, .long z.2.2.2]))] s.heap.size = A at hD ⊢
  have hA : ∀ q : Nat, s.heap.size ≤ q → A q := fun q h => by rw [← hAe]; exact Or.inr h
  have hS : va_S A s.heap s.heap [] := va_S.rf
  have hP : va_P (dC, dI) cls [(ob, .inr (3, [.int (nI C), .int lim, .int v.1, .int v.2.1, .int v.2.2.1, .int v.2.2.2, .ref bw, .long k1, .long l1, .long k2, .long l2, .ref bm, .ref bk, .ref bv, .int mv, .ref cm, .ref ck, .ref cv, .int lo, .int ti, .long z.1, .long z.2.1, .long z.2.2.1, .long z.2.2.2]))] s.heap := hP
  have hl := lv_entry ([.ref ob]) (n := 1) (Nat.le_of_ble_eq_true rfl)
  rw [lg_entry_eq]
  generalize (lg_sl ([.ref ob]) ++ List.replicate (1 - (lg_sl ([.ref ob])).length) Slot.unset).toArray = ls at hl ⊢
  have hl : lv_has ls 1 [(0, .ref ob)] := hl
  refine lv_aload_n hx hb d_Model_round_0 rfl (lv_at hl 0 rfl) ?_
  refine lv_aload_n hx hb d_Model_round_1 rfl (lv_at hl 0 rfl) ?_
  refine va_get (ci := 3) (C := R_Model) (T := F_Model) (N := 24) hx hb hts in_Model hown hK hP 0 rfl rfl 20 (by decide) (hts _ wk_256) (fun _ h => h) rfl d_Model_round_2 ?_
  refine lv_aload_n hx hb d_Model_round_5 rfl (lv_at hl 0 rfl) ?_
  refine va_get (ci := 3) (C := R_Model) (T := F_Model) (N := 24) hx hb hts in_Model hown hK hP 0 rfl rfl 21 (by decide) (hts _ wk_257) (fun _ h => h) rfl d_Model_round_6 ?_
  refine lv_ladd hx hb d_Model_round_9 ?_
  refine va_put (D := (dC, dI)) (ci := 3) (v := .long (z.1 + z.2.1)) (ty := .long) (C := R_Model) (T := F_Model) (N := 24) hx hb hts in_Model t_Model t_Model_ok n_Model hown hK hP hD hS 0 rfl rfl 20 (by decide) (hts _ wk_256) (fun _ h => h) rfl t_Model_20 rfl rfl (Nat.le_of_ble_eq_true rfl) d_Model_round_10 (fun H locs hP hD hS => ?_)
  have hP : va_P (dC, dI) cls [(ob, .inr (3, [.int (nI C), .int lim, .int v.1, .int v.2.1, .int v.2.2.1, .int v.2.2.2, .ref bw, .long k1, .long l1, .long k2, .long l2, .ref bm, .ref bk, .ref bv, .int mv, .ref cm, .ref ck, .ref cv, .int lo, .int ti, .long (z.1 + z.2.1), .long z.2.1, .long z.2.2.1, .long z.2.2.2]))] H := hP
  have hD : va_D A [(ob, .inr (3, [.int (nI C), .int lim, .int v.1, .int v.2.1, .int v.2.2.1, .int v.2.2.2, .ref bw, .long k1, .long l1, .long k2, .long l2, .ref bm, .ref bk, .ref bv, .int mv, .ref cm, .ref ck, .ref cv, .int lo, .int ti, .long (z.1 + z.2.1), .long z.2.1, .long z.2.2.1, .long z.2.2.2]))] := hD
  refine lv_aload_n hx hb d_Model_round_13 rfl (lv_at hl 0 rfl) ?_
  refine lv_aload_n hx hb d_Model_round_14 rfl (lv_at hl 0 rfl) ?_
  refine va_get (ci := 3) (C := R_Model) (T := F_Model) (N := 24) hx hb hts in_Model hown hK hP 0 rfl rfl 22 (by decide) (hts _ wk_258) (fun _ h => h) rfl d_Model_round_15 ?_
  refine lv_aload_n hx hb d_Model_round_18 rfl (lv_at hl 0 rfl) ?_
  refine va_get (ci := 3) (C := R_Model) (T := F_Model) (N := 24) hx hb hts in_Model hown hK hP 0 rfl rfl 23 (by decide) (hts _ wk_259) (fun _ h => h) rfl d_Model_round_19 ?_
  refine lv_ladd hx hb d_Model_round_22 ?_
  refine va_put (D := (dC, dI)) (ci := 3) (v := .long (z.2.2.1 + z.2.2.2)) (ty := .long) (C := R_Model) (T := F_Model) (N := 24) hx hb hts in_Model t_Model t_Model_ok n_Model hown hK hP hD hS 0 rfl rfl 22 (by decide) (hts _ wk_258) (fun _ h => h) rfl t_Model_22 rfl rfl (Nat.le_of_ble_eq_true rfl) d_Model_round_23 (fun H locs hP hD hS => ?_)
  have hP : va_P (dC, dI) cls [(ob, .inr (3, [.int (nI C), .int lim, .int v.1, .int v.2.1, .int v.2.2.1, .int v.2.2.2, .ref bw, .long k1, .long l1, .long k2, .long l2, .ref bm, .ref bk, .ref bv, .int mv, .ref cm, .ref ck, .ref cv, .int lo, .int ti, .long (z.1 + z.2.1), .long z.2.1, .long (z.2.2.1 + z.2.2.2), .long z.2.2.2]))] H := hP
  have hD : va_D A [(ob, .inr (3, [.int (nI C), .int lim, .int v.1, .int v.2.1, .int v.2.2.1, .int v.2.2.2, .ref bw, .long k1, .long l1, .long k2, .long l2, .ref bm, .ref bk, .ref bv, .int mv, .ref cm, .ref ck, .ref cv, .int lo, .int ti, .long (z.1 + z.2.1), .long z.2.1, .long (z.2.2.1 + z.2.2.2), .long z.2.2.2]))] := hD
  refine lv_aload_n hx hb d_Model_round_26 rfl (lv_at hl 0 rfl) ?_
  refine W.eq (g2 := F0 m 27 ls [.ref ob]) rfl ?_
  refine lv_aload_n hx hb d_Model_round_27 rfl (lv_at hl 0 rfl) ?_
  refine va_get (ci := 3) (C := R_Model) (T := F_Model) (N := 24) hx hb hts in_Model hown hK hP 0 rfl rfl 21 (by decide) (hts _ wk_257) (fun _ h => h) rfl d_Model_round_28 ?_
  refine lv_bipush hx hb d_Model_round_31 (v := 13) rfl ?_
  refine ro_l (va_runS (As := [.long z.2.1, .int 13]) (rest := [.ref ob]) ⟨hx, hb, hml, hown, hts⟩ (c_around l z.2.1 13) (cwS 2 hts g_Model_96 rfl rfl rfl (by decide +kernel) ⟨Nat.le_of_ble_eq_true rfl, Nat.le_of_ble_eq_true rfl⟩) ⟨bl_J, fun U hU hW => ⟨rfl, hU⟩⟩ rfl rfl hl.1 rfl (lv_room (Nat.le_of_ble_eq_true rfl)) d_Model_round_33 ⟨Nat.zero_le _, Nat.zero_le _⟩) hS (fun locs hS => ?_)
  refine lv_asL (y := rl64 z.2.1 13) (ar_13 _) ?_
  refine lv_aload_n hx hb d_Model_round_36 rfl (lv_at hl 0 rfl) ?_
  refine va_get (ci := 3) (C := R_Model) (T := F_Model) (N := 24) hx hb hts in_Model hown hK hP 0 rfl rfl 20 (by decide) (hts _ wk_256) (fun _ h => h) rfl d_Model_round_37 ?_
  refine lv_lxor hx hb d_Model_round_40 ?_
  refine va_put (D := (dC, dI)) (ci := 3) (v := .long ((rl64 z.2.1 13) ^^^ (z.1 + z.2.1))) (ty := .long) (C := R_Model) (T := F_Model) (N := 24) hx hb hts in_Model t_Model t_Model_ok n_Model hown hK hP hD hS 0 rfl rfl 21 (by decide) (hts _ wk_257) (fun _ h => h) rfl t_Model_21 rfl rfl (Nat.le_of_ble_eq_true rfl) d_Model_round_41 (fun H locs hP hD hS => ?_)
  have hP : va_P (dC, dI) cls [(ob, .inr (3, [.int (nI C), .int lim, .int v.1, .int v.2.1, .int v.2.2.1, .int v.2.2.2, .ref bw, .long k1, .long l1, .long k2, .long l2, .ref bm, .ref bk, .ref bv, .int mv, .ref cm, .ref ck, .ref cv, .int lo, .int ti, .long (z.1 + z.2.1), .long ((rl64 z.2.1 13) ^^^ (z.1 + z.2.1)), .long (z.2.2.1 + z.2.2.2), .long z.2.2.2]))] H := hP
  have hD : va_D A [(ob, .inr (3, [.int (nI C), .int lim, .int v.1, .int v.2.1, .int v.2.2.1, .int v.2.2.2, .ref bw, .long k1, .long l1, .long k2, .long l2, .ref bm, .ref bk, .ref bv, .int mv, .ref cm, .ref ck, .ref cv, .int lo, .int ti, .long (z.1 + z.2.1), .long ((rl64 z.2.1 13) ^^^ (z.1 + z.2.1)), .long (z.2.2.1 + z.2.2.2), .long z.2.2.2]))] := hD
  refine lv_aload_n hx hb d_Model_round_44 rfl (lv_at hl 0 rfl) ?_
  refine lv_aload_n hx hb d_Model_round_45 rfl (lv_at hl 0 rfl) ?_
  refine va_get (ci := 3) (C := R_Model) (T := F_Model) (N := 24) hx hb hts in_Model hown hK hP 0 rfl rfl 23 (by decide) (hts _ wk_259) (fun _ h => h) rfl d_Model_round_46 ?_
  refine lv_bipush hx hb d_Model_round_49 (v := 16) rfl ?_
  refine ro_l (va_runS (As := [.long z.2.2.2, .int 16]) (rest := [.ref ob]) ⟨hx, hb, hml, hown, hts⟩ (c_around l z.2.2.2 16) (cwS 2 hts g_Model_96 rfl rfl rfl (by decide +kernel) ⟨Nat.le_of_ble_eq_true rfl, Nat.le_of_ble_eq_true rfl⟩) ⟨bl_J, fun U hU hW => ⟨rfl, hU⟩⟩ rfl rfl hl.1 rfl (lv_room (Nat.le_of_ble_eq_true rfl)) d_Model_round_51 ⟨Nat.zero_le _, Nat.zero_le _⟩) hS (fun locs hS => ?_)
  refine lv_asL (y := rl64 z.2.2.2 16) (ar_16 _) ?_
  refine lv_aload_n hx hb d_Model_round_54 rfl (lv_at hl 0 rfl) ?_
  refine va_get (ci := 3) (C := R_Model) (T := F_Model) (N := 24) hx hb hts in_Model hown hK hP 0 rfl rfl 22 (by decide) (hts _ wk_258) (fun _ h => h) rfl d_Model_round_55 ?_
  refine lv_lxor hx hb d_Model_round_58 ?_
  refine W.eq (g2 := F0 m 59 ls [.long ((rl64 z.2.2.2 16) ^^^ (z.2.2.1 + z.2.2.2)), .ref ob]) rfl ?_
  refine va_put (D := (dC, dI)) (ci := 3) (v := .long ((rl64 z.2.2.2 16) ^^^ (z.2.2.1 + z.2.2.2))) (ty := .long) (C := R_Model) (T := F_Model) (N := 24) hx hb hts in_Model t_Model t_Model_ok n_Model hown hK hP hD hS 0 rfl rfl 23 (by decide) (hts _ wk_259) (fun _ h => h) rfl t_Model_23 rfl rfl (Nat.le_of_ble_eq_true rfl) d_Model_round_59 (fun H locs hP hD hS => ?_)
  have hP : va_P (dC, dI) cls [(ob, .inr (3, [.int (nI C), .int lim, .int v.1, .int v.2.1, .int v.2.2.1, .int v.2.2.2, .ref bw, .long k1, .long l1, .long k2, .long l2, .ref bm, .ref bk, .ref bv, .int mv, .ref cm, .ref ck, .ref cv, .int lo, .int ti, .long (z.1 + z.2.1), .long ((rl64 z.2.1 13) ^^^ (z.1 + z.2.1)), .long (z.2.2.1 + z.2.2.2), .long ((rl64 z.2.2.2 16) ^^^ (z.2.2.1 + z.2.2.2))]))] H := hP
  have hD : va_D A [(ob, .inr (3, [.int (nI C), .int lim, .int v.1, .int v.2.1, .int v.2.2.1, .int v.2.2.2, .ref bw, .long k1, .long l1, .long k2, .long l2, .ref bm, .ref bk, .ref bv, .int mv, .ref cm, .ref ck, .ref cv, .int lo, .int ti, .long (z.1 + z.2.1), .long ((rl64 z.2.1 13) ^^^ (z.1 + z.2.1)), .long (z.2.2.1 + z.2.2.2), .long ((rl64 z.2.2.2 16) ^^^ (z.2.2.1 + z.2.2.2))]))] := hD
  refine lv_aload_n hx hb d_Model_round_62 rfl (lv_at hl 0 rfl) ?_
  refine lv_aload_n hx hb d_Model_round_63 rfl (lv_at hl 0 rfl) ?_
  refine va_get (ci := 3) (C := R_Model) (T := F_Model) (N := 24) hx hb hts in_Model hown hK hP 0 rfl rfl 20 (by decide) (hts _ wk_256) (fun _ h => h) rfl d_Model_round_64 ?_
  refine lv_bipush hx hb d_Model_round_67 (v := 32) rfl ?_
  refine ro_l (va_runS (As := [.long (z.1 + z.2.1), .int 32]) (rest := [.ref ob]) ⟨hx, hb, hml, hown, hts⟩ (c_around l (z.1 + z.2.1) 32) (cwS 2 hts g_Model_96 rfl rfl rfl (by decide +kernel) ⟨Nat.le_of_ble_eq_true rfl, Nat.le_of_ble_eq_true rfl⟩) ⟨bl_J, fun U hU hW => ⟨rfl, hU⟩⟩ rfl rfl hl.1 rfl (lv_room (Nat.le_of_ble_eq_true rfl)) d_Model_round_69 ⟨Nat.zero_le _, Nat.zero_le _⟩) hS (fun locs hS => ?_)
  refine lv_asL (y := rl64 (z.1 + z.2.1) 32) (ar_32 _) ?_
  refine lv_aload_n hx hb d_Model_round_72 rfl (lv_at hl 0 rfl) ?_
  refine va_get (ci := 3) (C := R_Model) (T := F_Model) (N := 24) hx hb hts in_Model hown hK hP 0 rfl rfl 23 (by decide) (hts _ wk_259) (fun _ h => h) rfl d_Model_round_73 ?_
  refine lv_ladd hx hb d_Model_round_76 ?_
  refine va_put (D := (dC, dI)) (ci := 3) (v := .long ((rl64 (z.1 + z.2.1) 32) + ((rl64 z.2.2.2 16) ^^^ (z.2.2.1 + z.2.2.2)))) (ty := .long) (C := R_Model) (T := F_Model) (N := 24) hx hb hts in_Model t_Model t_Model_ok n_Model hown hK hP hD hS 0 rfl rfl 20 (by decide) (hts _ wk_256) (fun _ h => h) rfl t_Model_20 rfl rfl (Nat.le_of_ble_eq_true rfl) d_Model_round_77 (fun H locs hP hD hS => ?_)
  have hP : va_P (dC, dI) cls [(ob, .inr (3, [.int (nI C), .int lim, .int v.1, .int v.2.1, .int v.2.2.1, .int v.2.2.2, .ref bw, .long k1, .long l1, .long k2, .long l2, .ref bm, .ref bk, .ref bv, .int mv, .ref cm, .ref ck, .ref cv, .int lo, .int ti, .long ((rl64 (z.1 + z.2.1) 32) + ((rl64 z.2.2.2 16) ^^^ (z.2.2.1 + z.2.2.2))), .long ((rl64 z.2.1 13) ^^^ (z.1 + z.2.1)), .long (z.2.2.1 + z.2.2.2), .long ((rl64 z.2.2.2 16) ^^^ (z.2.2.1 + z.2.2.2))]))] H := hP
  have hD : va_D A [(ob, .inr (3, [.int (nI C), .int lim, .int v.1, .int v.2.1, .int v.2.2.1, .int v.2.2.2, .ref bw, .long k1, .long l1, .long k2, .long l2, .ref bm, .ref bk, .ref bv, .int mv, .ref cm, .ref ck, .ref cv, .int lo, .int ti, .long ((rl64 (z.1 + z.2.1) 32) + ((rl64 z.2.2.2 16) ^^^ (z.2.2.1 + z.2.2.2))), .long ((rl64 z.2.1 13) ^^^ (z.1 + z.2.1)), .long (z.2.2.1 + z.2.2.2), .long ((rl64 z.2.2.2 16) ^^^ (z.2.2.1 + z.2.2.2))]))] := hD
  refine lv_aload_n hx hb d_Model_round_80 rfl (lv_at hl 0 rfl) ?_
  refine lv_aload_n hx hb d_Model_round_81 rfl (lv_at hl 0 rfl) ?_
  refine va_get (ci := 3) (C := R_Model) (T := F_Model) (N := 24) hx hb hts in_Model hown hK hP 0 rfl rfl 22 (by decide) (hts _ wk_258) (fun _ h => h) rfl d_Model_round_82 ?_
  refine lv_aload_n hx hb d_Model_round_85 rfl (lv_at hl 0 rfl) ?_
  refine va_get (ci := 3) (C := R_Model) (T := F_Model) (N := 24) hx hb hts in_Model hown hK hP 0 rfl rfl 21 (by decide) (hts _ wk_257) (fun _ h => h) rfl d_Model_round_86 ?_
  refine lv_ladd hx hb d_Model_round_89 ?_
  refine W.eq (g2 := F0 m 90 ls [.long ((z.2.2.1 + z.2.2.2) + ((rl64 z.2.1 13) ^^^ (z.1 + z.2.1))), .ref ob]) rfl ?_
  refine va_put (D := (dC, dI)) (ci := 3) (v := .long ((z.2.2.1 + z.2.2.2) + ((rl64 z.2.1 13) ^^^ (z.1 + z.2.1)))) (ty := .long) (C := R_Model) (T := F_Model) (N := 24) hx hb hts in_Model t_Model t_Model_ok n_Model hown hK hP hD hS 0 rfl rfl 22 (by decide) (hts _ wk_258) (fun _ h => h) rfl t_Model_22 rfl rfl (Nat.le_of_ble_eq_true rfl) d_Model_round_90 (fun H locs hP hD hS => ?_)
  have hP : va_P (dC, dI) cls [(ob, .inr (3, [.int (nI C), .int lim, .int v.1, .int v.2.1, .int v.2.2.1, .int v.2.2.2, .ref bw, .long k1, .long l1, .long k2, .long l2, .ref bm, .ref bk, .ref bv, .int mv, .ref cm, .ref ck, .ref cv, .int lo, .int ti, .long ((rl64 (z.1 + z.2.1) 32) + ((rl64 z.2.2.2 16) ^^^ (z.2.2.1 + z.2.2.2))), .long ((rl64 z.2.1 13) ^^^ (z.1 + z.2.1)), .long ((z.2.2.1 + z.2.2.2) + ((rl64 z.2.1 13) ^^^ (z.1 + z.2.1))), .long ((rl64 z.2.2.2 16) ^^^ (z.2.2.1 + z.2.2.2))]))] H := hP
  have hD : va_D A [(ob, .inr (3, [.int (nI C), .int lim, .int v.1, .int v.2.1, .int v.2.2.1, .int v.2.2.2, .ref bw, .long k1, .long l1, .long k2, .long l2, .ref bm, .ref bk, .ref bv, .int mv, .ref cm, .ref ck, .ref cv, .int lo, .int ti, .long ((rl64 (z.1 + z.2.1) 32) + ((rl64 z.2.2.2 16) ^^^ (z.2.2.1 + z.2.2.2))), .long ((rl64 z.2.1 13) ^^^ (z.1 + z.2.1)), .long ((z.2.2.1 + z.2.2.2) + ((rl64 z.2.1 13) ^^^ (z.1 + z.2.1))), .long ((rl64 z.2.2.2 16) ^^^ (z.2.2.1 + z.2.2.2))]))] := hD
  refine lv_aload_n hx hb d_Model_round_93 rfl (lv_at hl 0 rfl) ?_
  refine lv_aload_n hx hb d_Model_round_94 rfl (lv_at hl 0 rfl) ?_
  refine va_get (ci := 3) (C := R_Model) (T := F_Model) (N := 24) hx hb hts in_Model hown hK hP 0 rfl rfl 23 (by decide) (hts _ wk_259) (fun _ h => h) rfl d_Model_round_95 ?_
  refine lv_bipush hx hb d_Model_round_98 (v := 21) rfl ?_
  refine ro_l (va_runS (As := [.long ((rl64 z.2.2.2 16) ^^^ (z.2.2.1 + z.2.2.2)), .int 21]) (rest := [.ref ob]) ⟨hx, hb, hml, hown, hts⟩ (c_around l ((rl64 z.2.2.2 16) ^^^ (z.2.2.1 + z.2.2.2)) 21) (cwS 2 hts g_Model_96 rfl rfl rfl (by decide +kernel) ⟨Nat.le_of_ble_eq_true rfl, Nat.le_of_ble_eq_true rfl⟩) ⟨bl_J, fun U hU hW => ⟨rfl, hU⟩⟩ rfl rfl hl.1 rfl (lv_room (Nat.le_of_ble_eq_true rfl)) d_Model_round_100 ⟨Nat.zero_le _, Nat.zero_le _⟩) hS (fun locs hS => ?_)
  refine lv_asL (y := rl64 ((rl64 z.2.2.2 16) ^^^ (z.2.2.1 + z.2.2.2)) 21) (ar_21 _) ?_
  refine lv_aload_n hx hb d_Model_round_103 rfl (lv_at hl 0 rfl) ?_
  refine va_get (ci := 3) (C := R_Model) (T := F_Model) (N := 24) hx hb hts in_Model hown hK hP 0 rfl rfl 20 (by decide) (hts _ wk_256) (fun _ h => h) rfl d_Model_round_104 ?_
  refine lv_lxor hx hb d_Model_round_107 ?_
  refine va_put (D := (dC, dI)) (ci := 3) (v := .long ((rl64 ((rl64 z.2.2.2 16) ^^^ (z.2.2.1 + z.2.2.2)) 21) ^^^ ((rl64 (z.1 + z.2.1) 32) + ((rl64 z.2.2.2 16) ^^^ (z.2.2.1 + z.2.2.2))))) (ty := .long) (C := R_Model) (T := F_Model) (N := 24) hx hb hts in_Model t_Model t_Model_ok n_Model hown hK hP hD hS 0 rfl rfl 23 (by decide) (hts _ wk_259) (fun _ h => h) rfl t_Model_23 rfl rfl (Nat.le_of_ble_eq_true rfl) d_Model_round_108 (fun H locs hP hD hS => ?_)
  have hP : va_P (dC, dI) cls [(ob, .inr (3, [.int (nI C), .int lim, .int v.1, .int v.2.1, .int v.2.2.1, .int v.2.2.2, .ref bw, .long k1, .long l1, .long k2, .long l2, .ref bm, .ref bk, .ref bv, .int mv, .ref cm, .ref ck, .ref cv, .int lo, .int ti, .long ((rl64 (z.1 + z.2.1) 32) + ((rl64 z.2.2.2 16) ^^^ (z.2.2.1 + z.2.2.2))), .long ((rl64 z.2.1 13) ^^^ (z.1 + z.2.1)), .long ((z.2.2.1 + z.2.2.2) + ((rl64 z.2.1 13) ^^^ (z.1 + z.2.1))), .long ((rl64 ((rl64 z.2.2.2 16) ^^^ (z.2.2.1 + z.2.2.2)) 21) ^^^ ((rl64 (z.1 + z.2.1) 32) + ((rl64 z.2.2.2 16) ^^^ (z.2.2.1 + z.2.2.2))))]))] H := hP
  have hD : va_D A [(ob, .inr (3, [.int (nI C), .int lim, .int v.1, .int v.2.1, .int v.2.2.1, .int v.2.2.2, .ref bw, .long k1, .long l1, .long k2, .long l2, .ref bm, .ref bk, .ref bv, .int mv, .ref cm, .ref ck, .ref cv, .int lo, .int ti, .long ((rl64 (z.1 + z.2.1) 32) + ((rl64 z.2.2.2 16) ^^^ (z.2.2.1 + z.2.2.2))), .long ((rl64 z.2.1 13) ^^^ (z.1 + z.2.1)), .long ((z.2.2.1 + z.2.2.2) + ((rl64 z.2.1 13) ^^^ (z.1 + z.2.1))), .long ((rl64 ((rl64 z.2.2.2 16) ^^^ (z.2.2.1 + z.2.2.2)) 21) ^^^ ((rl64 (z.1 + z.2.1) 32) + ((rl64 z.2.2.2 16) ^^^ (z.2.2.1 + z.2.2.2))))]))] := hD
  refine lv_aload_n hx hb d_Model_round_111 rfl (lv_at hl 0 rfl) ?_
  refine lv_aload_n hx hb d_Model_round_112 rfl (lv_at hl 0 rfl) ?_
  refine va_get (ci := 3) (C := R_Model) (T := F_Model) (N := 24) hx hb hts in_Model hown hK hP 0 rfl rfl 21 (by decide) (hts _ wk_257) (fun _ h => h) rfl d_Model_round_113 ?_
  refine lv_bipush hx hb d_Model_round_116 (v := 17) rfl ?_
  refine ro_l (va_runS (As := [.long ((rl64 z.2.1 13) ^^^ (z.1 + z.2.1)), .int 17]) (rest := [.ref ob]) ⟨hx, hb, hml, hown, hts⟩ (c_around l ((rl64 z.2.1 13) ^^^ (z.1 + z.2.1)) 17) (cwS 2 hts g_Model_96 rfl rfl rfl (by decide +kernel) ⟨Nat.le_of_ble_eq_true rfl, Nat.le_of_ble_eq_true rfl⟩) ⟨bl_J, fun U hU hW => ⟨rfl, hU⟩⟩ rfl rfl hl.1 rfl (lv_room (Nat.le_of_ble_eq_true rfl)) d_Model_round_118 ⟨Nat.zero_le _, Nat.zero_le _⟩) hS (fun locs hS => ?_)
  refine lv_asL (y := rl64 ((rl64 z.2.1 13) ^^^ (z.1 + z.2.1)) 17) (ar_17 _) ?_
  refine lv_aload_n hx hb d_Model_round_121 rfl (lv_at hl 0 rfl) ?_
  refine W.eq (g2 := F0 m 122 ls [.ref ob, .long (rl64 ((rl64 z.2.1 13) ^^^ (z.1 + z.2.1)) 17), .ref ob]) rfl ?_
  refine va_get (ci := 3) (C := R_Model) (T := F_Model) (N := 24) hx hb hts in_Model hown hK hP 0 rfl rfl 22 (by decide) (hts _ wk_258) (fun _ h => h) rfl d_Model_round_122 ?_
  refine lv_lxor hx hb d_Model_round_125 ?_
  refine va_put (D := (dC, dI)) (ci := 3) (v := .long ((rl64 ((rl64 z.2.1 13) ^^^ (z.1 + z.2.1)) 17) ^^^ ((z.2.2.1 + z.2.2.2) + ((rl64 z.2.1 13) ^^^ (z.1 + z.2.1))))) (ty := .long) (C := R_Model) (T := F_Model) (N := 24) hx hb hts in_Model t_Model t_Model_ok n_Model hown hK hP hD hS 0 rfl rfl 21 (by decide) (hts _ wk_257) (fun _ h => h) rfl t_Model_21 rfl rfl (Nat.le_of_ble_eq_true rfl) d_Model_round_126 (fun H locs hP hD hS => ?_)
  have hP : va_P (dC, dI) cls [(ob, .inr (3, [.int (nI C), .int lim, .int v.1, .int v.2.1, .int v.2.2.1, .int v.2.2.2, .ref bw, .long k1, .long l1, .long k2, .long l2, .ref bm, .ref bk, .ref bv, .int mv, .ref cm, .ref ck, .ref cv, .int lo, .int ti, .long ((rl64 (z.1 + z.2.1) 32) + ((rl64 z.2.2.2 16) ^^^ (z.2.2.1 + z.2.2.2))), .long ((rl64 ((rl64 z.2.1 13) ^^^ (z.1 + z.2.1)) 17) ^^^ ((z.2.2.1 + z.2.2.2) + ((rl64 z.2.1 13) ^^^ (z.1 + z.2.1)))), .long ((z.2.2.1 + z.2.2.2) + ((rl64 z.2.1 13) ^^^ (z.1 + z.2.1))), .long ((rl64 ((rl64 z.2.2.2 16) ^^^ (z.2.2.1 + z.2.2.2)) 21) ^^^ ((rl64 (z.1 + z.2.1) 32) + ((rl64 z.2.2.2 16) ^^^ (z.2.2.1 + z.2.2.2))))]))] H := hP
  have hD : va_D A [(ob, .inr (3, [.int (nI C), .int lim, .int v.1, .int v.2.1, .int v.2.2.1, .int v.2.2.2, .ref bw, .long k1, .long l1, .long k2, .long l2, .ref bm, .ref bk, .ref bv, .int mv, .ref cm, .ref ck, .ref cv, .int lo, .int ti, .long ((rl64 (z.1 + z.2.1) 32) + ((rl64 z.2.2.2 16) ^^^ (z.2.2.1 + z.2.2.2))), .long ((rl64 ((rl64 z.2.1 13) ^^^ (z.1 + z.2.1)) 17) ^^^ ((z.2.2.1 + z.2.2.2) + ((rl64 z.2.1 13) ^^^ (z.1 + z.2.1)))), .long ((z.2.2.1 + z.2.2.2) + ((rl64 z.2.1 13) ^^^ (z.1 + z.2.1))), .long ((rl64 ((rl64 z.2.2.2 16) ^^^ (z.2.2.1 + z.2.2.2)) 21) ^^^ ((rl64 (z.1 + z.2.1) 32) + ((rl64 z.2.2.2 16) ^^^ (z.2.2.1 + z.2.2.2))))]))] := hD
  refine lv_aload_n hx hb d_Model_round_129 rfl (lv_at hl 0 rfl) ?_
  refine lv_aload_n hx hb d_Model_round_130 rfl (lv_at hl 0 rfl) ?_
  refine va_get (ci := 3) (C := R_Model) (T := F_Model) (N := 24) hx hb hts in_Model hown hK hP 0 rfl rfl 22 (by decide) (hts _ wk_258) (fun _ h => h) rfl d_Model_round_131 ?_
  refine lv_bipush hx hb d_Model_round_134 (v := 32) rfl ?_
  refine ro_l (va_runS (As := [.long ((z.2.2.1 + z.2.2.2) + ((rl64 z.2.1 13) ^^^ (z.1 + z.2.1))), .int 32]) (rest := [.ref ob]) ⟨hx, hb, hml, hown, hts⟩ (c_around l ((z.2.2.1 + z.2.2.2) + ((rl64 z.2.1 13) ^^^ (z.1 + z.2.1))) 32) (cwS 2 hts g_Model_96 rfl rfl rfl (by decide +kernel) ⟨Nat.le_of_ble_eq_true rfl, Nat.le_of_ble_eq_true rfl⟩) ⟨bl_J, fun U hU hW => ⟨rfl, hU⟩⟩ rfl rfl hl.1 rfl (lv_room (Nat.le_of_ble_eq_true rfl)) d_Model_round_136 ⟨Nat.zero_le _, Nat.zero_le _⟩) hS (fun locs hS => ?_)
  refine lv_asL (y := rl64 ((z.2.2.1 + z.2.2.2) + ((rl64 z.2.1 13) ^^^ (z.1 + z.2.1))) 32) (ar_32 _) ?_
  refine va_put (D := (dC, dI)) (ci := 3) (v := .long (rl64 ((z.2.2.1 + z.2.2.2) + ((rl64 z.2.1 13) ^^^ (z.1 + z.2.1))) 32)) (ty := .long) (C := R_Model) (T := F_Model) (N := 24) hx hb hts in_Model t_Model t_Model_ok n_Model hown hK hP hD hS 0 rfl rfl 22 (by decide) (hts _ wk_258) (fun _ h => h) rfl t_Model_22 rfl rfl (Nat.le_of_ble_eq_true rfl) d_Model_round_139 (fun H locs hP hD hS => ?_)
  have hP : va_P (dC, dI) cls [(ob, .inr (3, [.int (nI C), .int lim, .int v.1, .int v.2.1, .int v.2.2.1, .int v.2.2.2, .ref bw, .long k1, .long l1, .long k2, .long l2, .ref bm, .ref bk, .ref bv, .int mv, .ref cm, .ref ck, .ref cv, .int lo, .int ti, .long ((rl64 (z.1 + z.2.1) 32) + ((rl64 z.2.2.2 16) ^^^ (z.2.2.1 + z.2.2.2))), .long ((rl64 ((rl64 z.2.1 13) ^^^ (z.1 + z.2.1)) 17) ^^^ ((z.2.2.1 + z.2.2.2) + ((rl64 z.2.1 13) ^^^ (z.1 + z.2.1)))), .long (rl64 ((z.2.2.1 + z.2.2.2) + ((rl64 z.2.1 13) ^^^ (z.1 + z.2.1))) 32), .long ((rl64 ((rl64 z.2.2.2 16) ^^^ (z.2.2.1 + z.2.2.2)) 21) ^^^ ((rl64 (z.1 + z.2.1) 32) + ((rl64 z.2.2.2 16) ^^^ (z.2.2.1 + z.2.2.2))))]))] H := hP
  have hD : va_D A [(ob, .inr (3, [.int (nI C), .int lim, .int v.1, .int v.2.1, .int v.2.2.1, .int v.2.2.2, .ref bw, .long k1, .long l1, .long k2, .long l2, .ref bm, .ref bk, .ref bv, .int mv, .ref cm, .ref ck, .ref cv, .int lo, .int ti, .long ((rl64 (z.1 + z.2.1) 32) + ((rl64 z.2.2.2 16) ^^^ (z.2.2.1 + z.2.2.2))), .long ((rl64 ((rl64 z.2.1 13) ^^^ (z.1 + z.2.1)) 17) ^^^ ((z.2.2.1 + z.2.2.2) + ((rl64 z.2.1 13) ^^^ (z.1 + z.2.1)))), .long (rl64 ((z.2.2.1 + z.2.2.2) + ((rl64 z.2.1 13) ^^^ (z.1 + z.2.1))) 32), .long ((rl64 ((rl64 z.2.2.2 16) ^^^ (z.2.2.1 + z.2.2.2)) 21) ^^^ ((rl64 (z.1 + z.2.1) 32) + ((rl64 z.2.2.2 16) ^^^ (z.2.2.1 + z.2.2.2))))]))] := hD
  exact W.vret hx hb hr (fun tS ht hW => ⟨⟨(), rfl, trivial, by rw [ht]; exact hP, va_K.moved hW.alike hK, hD⟩, hS.F ht⟩) hS.2.2 d_Model_round_142 hlocks
set_option maxHeartbeats 4000000 in
set_option maxRecDepth 100000 in
theorem c_hash (l : Launch) {dC : Nat → ClassId} {dI : Nat → Nat → Nat} {cA : ClassId} (sz : Nat) {ob bw bm bk bv cm ck cv C : Nat} {lim lo ti mv : Int32} {v : Int32 × Int32 × Int32 × Int32} {k1 l1 k2 l2 : Int64} {z : Int64 × Int64 × Int64 × Int64} (k l9 : Int64) (x : Int32) : Met l y_Model_hash (.code y_Model_hash b_Model_hash 9 (some .long) :: BG) ({ frames := 2, cells := 0, slots := 0, locals := 42 }) (pRW dC dI cA [.ref ob, .long k, .long l9, .int x] [(ob, .inr (3, [.int (nI C), .int lim, .int v.1, .int v.2.1, .int v.2.2.1, .int v.2.2.2, .ref bw, .long k1, .long l1, .long k2, .long l2, .ref bm, .ref bk, .ref bv, .int mv, .ref cm, .ref ck, .ref cv, .int lo, .int ti, .long z.1, .long z.2.1, .long z.2.2.1, .long z.2.2.2]))] sz) (va_Ql (fun r (u : Int64 × Int64 × Int64 × Int64) => r = hs k l9 x) (fun (u : Int64 × Int64 × Int64 × Int64) tS => wdB dC dI cA (va_A [(ob, .inr (3, [.int (nI C), .int lim, .int v.1, .int v.2.1, .int v.2.2.1, .int v.2.2.2, .ref bw, .long k1, .long l1, .long k2, .long l2, .ref bm, .ref bk, .ref bv, .int mv, .ref cm, .ref ck, .ref cv, .int lo, .int ti, .long z.1, .long z.2.1, .long z.2.2.1, .long z.2.2.2]))] sz) [(ob, .inr (3, [.int (nI C), .int lim, .int v.1, .int v.2.1, .int v.2.2.1, .int v.2.2.2, .ref bw, .long k1, .long l1, .long k2, .long l2, .ref bm, .ref bk, .ref bv, .int mv, .ref cm, .ref ck, .ref cv, .int lo, .int ti, .long u.1, .long u.2.1, .long u.2.2.1, .long u.2.2.2]))] tS) (va_A [(ob, .inr (3, [.int (nI C), .int lim, .int v.1, .int v.2.1, .int v.2.2.1, .int v.2.2.2, .ref bw, .long k1, .long l1, .long k2, .long l2, .ref bm, .ref bk, .ref bv, .int mv, .ref cm, .ref ck, .ref cv, .int lo, .int ti, .long z.1, .long z.2.1, .long z.2.2.1, .long z.2.2.2]))] sz)) 0 0 (va_A [(ob, .inr (3, [.int (nI C), .int lim, .int v.1, .int v.2.1, .int v.2.2.1, .int v.2.2.2, .ref bw, .long k1, .long l1, .long k2, .long l2, .ref bm, .ref bk, .ref bv, .int mv, .ref cm, .ref ck, .ref cv, .int lo, .int ti, .long z.1, .long z.2.1, .long z.2.2.1, .long z.2.2.2]))] sz) := by
  refine Met.ofW (cc := b_Model_hash) (maxL := 9) (ret := some .long) (by decide) rfl ?_
  intro p e s m args below meth c s₁ B hml hv
  obtain ⟨rfl, hsz, hP, hK, hD0⟩ := hv
  have hx := B.exec
  have hb := B.bytes
  have hr := B.returns
  have hts : ∀ w ∈ BG, w.before _ s = true := fun w h => atoms_spec (ws := .code y_Model_hash b_Model_hash 9 (some .long) :: BG) B.pre w (List.mem_cons_of_mem _ h)
  have hown : s.vm.findClass R_Model = some m.cls := findClass_of_methodNamed B.named
  have hlocks := B.notSynchronized
  subst hsz
  have hD := hD0.self (sz := s.heap.size)
  generalize hAe : va_A [(ob, .inr (3, [.int (nI C), .int lim, .int v.1, .int v.2.1, .int v.2.2.1, .int v.2.2.2, .ref bw, .long k1, .long l1, .long k2, .long l2, .ref bm, .ref bk, .ref bv, .int mv, .ref cm, .ref ck, .ref cv, .int lo, .int ti, .long z.1, .long z.2.1, .long z.2.2.1, .long z.2.2.2]))] s.heap.size = A at hD ⊢
  have hA : ∀ q : Nat, s.heap.size ≤ q → A q := fun q h => by rw [← hAe]; exact Or.inr h
  have hS : va_S A s.heap s.heap [] := va_S.rf
  have hP : va_P (dC, dI) cls [(ob, .inr (3, [.int (nI C), .int lim, .int v.1, .int v.2.1, .int v.2.2.1, .int v.2.2.2, .ref bw, .long k1, .long l1, .long k2, .long l2, .ref bm, .ref bk, .ref bv, .int mv, .ref cm, .ref ck, .ref cv, .int lo, .int ti, .long z.1, .long z.2.1, .long z.2.2.1, .long z.2.2.2]))] s.heap := hP
  have hl := lv_entry ([.ref ob, .long k, .long l9, .int x]) (n := 9) (Nat.le_of_ble_eq_true rfl)
  rw [lg_entry_eq]
  generalize (lg_sl ([.ref ob, .long k, .long l9, .int x]) ++ List.replicate (9 - (lg_sl ([.ref ob, .long k, .long l9, .int x])).length) Slot.unset).toArray = ls at hl ⊢
  have hl : lv_has ls 9 [(0, .ref ob), (1, .long k), (3, .long l9), (5, .int x)] := hl
  refine lv_iload hx hb d_Model_hash_0 (lv_at hl 3 rfl) ?_
  refine lv_ldc hx hb hown (hts _ wk_303) d_Model_hash_2 ?_
  refine ro_l (va_runS (As := [.int x, .int 67108864]) (rest := []) ⟨hx, hb, hml, hown, hts⟩ (c_mjoined l x 67108864) (cwS 2 hts g_Model_73 rfl rfl rfl (by decide +kernel) ⟨Nat.le_of_ble_eq_true rfl, Nat.le_of_ble_eq_true rfl⟩) ⟨bl_J, fun U hU hW => ⟨rfl, hU⟩⟩ rfl rfl hl.1 rfl (lv_room (Nat.le_of_ble_eq_true rfl)) d_Model_hash_4 ⟨Nat.zero_le _, Nat.zero_le _⟩) hS (fun locs hS => ?_)
  refine lv_lstore hx hb d_Model_hash_7 hl (by decide) rfl (fun ls hl => ?_)
  have hl : lv_has ls 9 [(6, .long (jn x 67108864)), (0, .ref ob), (1, .long k), (3, .long l9), (5, .int x)] := hl
  refine lv_aload_n hx hb d_Model_hash_9 rfl (lv_at hl 1 rfl) ?_
  refine lv_lload_n hx hb d_Model_hash_10 rfl (lv_at hl 2 rfl) ?_
  refine lv_ldc2 hx hb hown (hts _ wk_304) d_Model_hash_11 ?_
  refine lv_lxor hx hb d_Model_hash_14 ?_
  refine va_put (D := (dC, dI)) (ci := 3) (v := .long (k ^^^ 8317987319222330741)) (ty := .long) (C := R_Model) (T := F_Model) (N := 24) hx hb hts in_Model t_Model t_Model_ok n_Model hown hK hP hD hS 0 rfl rfl 20 (by decide) (hts _ wk_256) (fun _ h => h) rfl t_Model_20 rfl rfl (Nat.le_of_ble_eq_true rfl) d_Model_hash_15 (fun H locs hP hD hS => ?_)
  have hP : va_P (dC, dI) cls [(ob, .inr (3, [.int (nI C), .int lim, .int v.1, .int v.2.1, .int v.2.2.1, .int v.2.2.2, .ref bw, .long k1, .long l1, .long k2, .long l2, .ref bm, .ref bk, .ref bv, .int mv, .ref cm, .ref ck, .ref cv, .int lo, .int ti, .long (k ^^^ 8317987319222330741), .long z.2.1, .long z.2.2.1, .long z.2.2.2]))] H := hP
  have hD : va_D A [(ob, .inr (3, [.int (nI C), .int lim, .int v.1, .int v.2.1, .int v.2.2.1, .int v.2.2.2, .ref bw, .long k1, .long l1, .long k2, .long l2, .ref bm, .ref bk, .ref bv, .int mv, .ref cm, .ref ck, .ref cv, .int lo, .int ti, .long (k ^^^ 8317987319222330741), .long z.2.1, .long z.2.2.1, .long z.2.2.2]))] := hD
  refine lv_aload_n hx hb d_Model_hash_18 rfl (lv_at hl 1 rfl) ?_
  refine lv_lload_n hx hb d_Model_hash_19 rfl (lv_at hl 3 rfl) ?_
  refine lv_ldc2 hx hb hown (hts _ wk_305) d_Model_hash_20 ?_
  refine lv_lxor hx hb d_Model_hash_23 ?_
  refine va_put (D := (dC, dI)) (ci := 3) (v := .long (l9 ^^^ 7237128888997146477)) (ty := .long) (C := R_Model) (T := F_Model) (N := 24) hx hb hts in_Model t_Model t_Model_ok n_Model hown hK hP hD hS 0 rfl rfl 21 (by decide) (hts _ wk_257) (fun _ h => h) rfl t_Model_21 rfl rfl (Nat.le_of_ble_eq_true rfl) d_Model_hash_24 (fun H locs hP hD hS => ?_)
  have hP : va_P (dC, dI) cls [(ob, .inr (3, [.int (nI C), .int lim, .int v.1, .int v.2.1, .int v.2.2.1, .int v.2.2.2, .ref bw, .long k1, .long l1, .long k2, .long l2, .ref bm, .ref bk, .ref bv, .int mv, .ref cm, .ref ck, .ref cv, .int lo, .int ti, .long (k ^^^ 8317987319222330741), .long (l9 ^^^ 7237128888997146477), .long z.2.2.1, .long z.2.2.2]))] H := hP
  have hD : va_D A [(ob, .inr (3, [.int (nI C), .int lim, .int v.1, .int v.2.1, .int v.2.2.1, .int v.2.2.2, .ref bw, .long k1, .long l1, .long k2, .long l2, .ref bm, .ref bk, .ref bv, .int mv, .ref cm, .ref ck, .ref cv, .int lo, .int ti, .long (k ^^^ 8317987319222330741), .long (l9 ^^^ 7237128888997146477), .long z.2.2.1, .long z.2.2.2]))] := hD
  refine lv_aload_n hx hb d_Model_hash_27 rfl (lv_at hl 1 rfl) ?_
  refine W.eq (g2 := F0 m 28 ls [.ref ob]) rfl ?_
  refine lv_lload_n hx hb d_Model_hash_28 rfl (lv_at hl 2 rfl) ?_
  refine lv_ldc2 hx hb hown (hts _ wk_306) d_Model_hash_29 ?_
  refine lv_lxor hx hb d_Model_hash_32 ?_
  refine va_put (D := (dC, dI)) (ci := 3) (v := .long (k ^^^ 7816392313619706465)) (ty := .long) (C := R_Model) (T := F_Model) (N := 24) hx hb hts in_Model t_Model t_Model_ok n_Model hown hK hP hD hS 0 rfl rfl 22 (by decide) (hts _ wk_258) (fun _ h => h) rfl t_Model_22 rfl rfl (Nat.le_of_ble_eq_true rfl) d_Model_hash_33 (fun H locs hP hD hS => ?_)
  have hP : va_P (dC, dI) cls [(ob, .inr (3, [.int (nI C), .int lim, .int v.1, .int v.2.1, .int v.2.2.1, .int v.2.2.2, .ref bw, .long k1, .long l1, .long k2, .long l2, .ref bm, .ref bk, .ref bv, .int mv, .ref cm, .ref ck, .ref cv, .int lo, .int ti, .long (k ^^^ 8317987319222330741), .long (l9 ^^^ 7237128888997146477), .long (k ^^^ 7816392313619706465), .long z.2.2.2]))] H := hP
  have hD : va_D A [(ob, .inr (3, [.int (nI C), .int lim, .int v.1, .int v.2.1, .int v.2.2.1, .int v.2.2.2, .ref bw, .long k1, .long l1, .long k2, .long l2, .ref bm, .ref bk, .ref bv, .int mv, .ref cm, .ref ck, .ref cv, .int lo, .int ti, .long (k ^^^ 8317987319222330741), .long (l9 ^^^ 7237128888997146477), .long (k ^^^ 7816392313619706465), .long z.2.2.2]))] := hD
  refine lv_aload_n hx hb d_Model_hash_36 rfl (lv_at hl 1 rfl) ?_
  refine lv_lload_n hx hb d_Model_hash_37 rfl (lv_at hl 3 rfl) ?_
  refine lv_ldc2 hx hb hown (hts _ wk_307) d_Model_hash_38 ?_
  refine lv_lxor hx hb d_Model_hash_41 ?_
  refine lv_lload hx hb d_Model_hash_42 (lv_at hl 0 rfl) ?_
  refine lv_lxor hx hb d_Model_hash_44 ?_
  refine va_put (D := (dC, dI)) (ci := 3) (v := .long ((l9 ^^^ 8387220255154660723) ^^^ (jn x 67108864))) (ty := .long) (C := R_Model) (T := F_Model) (N := 24) hx hb hts in_Model t_Model t_Model_ok n_Model hown hK hP hD hS 0 rfl rfl 23 (by decide) (hts _ wk_259) (fun _ h => h) rfl t_Model_23 rfl rfl (Nat.le_of_ble_eq_true rfl) d_Model_hash_45 (fun H locs hP hD hS => ?_)
  have hP : va_P (dC, dI) cls [(ob, .inr (3, [.int (nI C), .int lim, .int v.1, .int v.2.1, .int v.2.2.1, .int v.2.2.2, .ref bw, .long k1, .long l1, .long k2, .long l2, .ref bm, .ref bk, .ref bv, .int mv, .ref cm, .ref ck, .ref cv, .int lo, .int ti, .long (k ^^^ 8317987319222330741), .long (l9 ^^^ 7237128888997146477), .long (k ^^^ 7816392313619706465), .long ((l9 ^^^ 8387220255154660723) ^^^ (jn x 67108864))]))] H := hP
  have hD : va_D A [(ob, .inr (3, [.int (nI C), .int lim, .int v.1, .int v.2.1, .int v.2.2.1, .int v.2.2.2, .ref bw, .long k1, .long l1, .long k2, .long l2, .ref bm, .ref bk, .ref bv, .int mv, .ref cm, .ref ck, .ref cv, .int lo, .int ti, .long (k ^^^ 8317987319222330741), .long (l9 ^^^ 7237128888997146477), .long (k ^^^ 7816392313619706465), .long ((l9 ^^^ 8387220255154660723) ^^^ (jn x 67108864))]))] := hD
  refine lv_aload_n hx hb d_Model_hash_48 rfl (lv_at hl 1 rfl) ?_
  refine rw_v (wc := [(ob, .inr (3, [.int (nI C), .int lim, .int v.1, .int v.2.1, .int v.2.2.1, .int v.2.2.2, .ref bw, .long k1, .long l1, .long k2, .long l2, .ref bm, .ref bk, .ref bv, .int mv, .ref cm, .ref ck, .ref cv, .int lo, .int ti, .long (k ^^^ 8317987319222330741), .long (l9 ^^^ 7237128888997146477), .long (k ^^^ 7816392313619706465), .long ((l9 ^^^ 8387220255154660723) ^^^ (jn x 67108864))]))]) (wr := []) hP hD hS hA (va_runV (As := []) (rest := []) ⟨hx, hb, hml, hown, hts⟩ (c_round l _ (hi0 k l9 (jn x 67108864))) (cwV 0 hts g_Model_109 rfl rfl rfl (by decide +kernel) ⟨Nat.le_of_ble_eq_true rfl, Nat.le_of_ble_eq_true rfl⟩) ⟨bl_RW, va_recv (q0 := 0) hK hP rfl rfl, pr_RW hK hP hD [0] rfl (by decide) rfl⟩ rfl rfl hl.1 rfl (lv_room (Nat.le_of_ble_eq_true rfl)) d_Model_hash_49 ⟨Nat.zero_le _, Nat.zero_le _⟩) [0] [] rfl rfl (by decide) (by decide) (fun _ H locs hq hP hD hS => ?_)
  have hP : va_P (dC, dI) cls [(ob, .inr (3, [.int (nI C), .int lim, .int v.1, .int v.2.1, .int v.2.2.1, .int v.2.2.2, .ref bw, .long k1, .long l1, .long k2, .long l2, .ref bm, .ref bk, .ref bv, .int mv, .ref cm, .ref ck, .ref cv, .int lo, .int ti, .long ((sr (hi0 k l9 (jn x 67108864))).1), .long ((sr (hi0 k l9 (jn x 67108864))).2.1), .long ((sr (hi0 k l9 (jn x 67108864))).2.2.1), .long ((sr (hi0 k l9 (jn x 67108864))).2.2.2)]))] H := hP
  have hD : va_D A [(ob, .inr (3, [.int (nI C), .int lim, .int v.1, .int v.2.1, .int v.2.2.1, .int v.2.2.2, .ref bw, .long k1, .long l1, .long k2, .long l2, .ref bm, .ref bk, .ref bv, .int mv, .ref cm, .ref ck, .ref cv, .int lo, .int ti, .long ((sr (hi0 k l9 (jn x 67108864))).1), .long ((sr (hi0 k l9 (jn x 67108864))).2.1), .long ((sr (hi0 k l9 (jn x 67108864))).2.2.1), .long ((sr (hi0 k l9 (jn x 67108864))).2.2.2)]))] := hD
  refine lv_aload_n hx hb d_Model_hash_52 rfl (lv_at hl 1 rfl) ?_
  refine lv_aload_n hx hb d_Model_hash_53 rfl (lv_at hl 1 rfl) ?_
  refine va_get (ci := 3) (C := R_Model) (T := F_Model) (N := 24) hx hb hts in_Model hown hK hP 0 rfl rfl 20 (by decide) (hts _ wk_256) (fun _ h => h) rfl d_Model_hash_54 ?_
  refine W.eq (g2 := F0 m 57 ls [.long ((sr (hi0 k l9 (jn x 67108864))).1), .ref ob]) rfl ?_
  refine lv_lload hx hb d_Model_hash_57 (lv_at hl 0 rfl) ?_
  refine lv_lxor hx hb d_Model_hash_59 ?_
  refine va_put (D := (dC, dI)) (ci := 3) (v := .long (((sr (hi0 k l9 (jn x 67108864))).1) ^^^ (jn x 67108864))) (ty := .long) (C := R_Model) (T := F_Model) (N := 24) hx hb hts in_Model t_Model t_Model_ok n_Model hown hK hP hD hS 0 rfl rfl 20 (by decide) (hts _ wk_256) (fun _ h => h) rfl t_Model_20 rfl rfl (Nat.le_of_ble_eq_true rfl) d_Model_hash_60 (fun H locs hP hD hS => ?_)
  have hP : va_P (dC, dI) cls [(ob, .inr (3, [.int (nI C), .int lim, .int v.1, .int v.2.1, .int v.2.2.1, .int v.2.2.2, .ref bw, .long k1, .long l1, .long k2, .long l2, .ref bm, .ref bk, .ref bv, .int mv, .ref cm, .ref ck, .ref cv, .int lo, .int ti, .long (((sr (hi0 k l9 (jn x 67108864))).1) ^^^ (jn x 67108864)), .long ((sr (hi0 k l9 (jn x 67108864))).2.1), .long ((sr (hi0 k l9 (jn x 67108864))).2.2.1), .long ((sr (hi0 k l9 (jn x 67108864))).2.2.2)]))] H := hP
  have hD : va_D A [(ob, .inr (3, [.int (nI C), .int lim, .int v.1, .int v.2.1, .int v.2.2.1, .int v.2.2.2, .ref bw, .long k1, .long l1, .long k2, .long l2, .ref bm, .ref bk, .ref bv, .int mv, .ref cm, .ref ck, .ref cv, .int lo, .int ti, .long (((sr (hi0 k l9 (jn x 67108864))).1) ^^^ (jn x 67108864)), .long ((sr (hi0 k l9 (jn x 67108864))).2.1), .long ((sr (hi0 k l9 (jn x 67108864))).2.2.1), .long ((sr (hi0 k l9 (jn x 67108864))).2.2.2)]))] := hD
  refine lv_aload_n hx hb d_Model_hash_63 rfl (lv_at hl 1 rfl) ?_
  refine lv_aload_n hx hb d_Model_hash_64 rfl (lv_at hl 1 rfl) ?_
  refine va_get (ci := 3) (C := R_Model) (T := F_Model) (N := 24) hx hb hts in_Model hown hK hP 0 rfl rfl 22 (by decide) (hts _ wk_258) (fun _ h => h) rfl d_Model_hash_65 ?_
  refine lv_ldc2 hx hb hown (hts _ wk_314) d_Model_hash_68 ?_
  refine lv_lxor hx hb d_Model_hash_71 ?_
  refine va_put (D := (dC, dI)) (ci := 3) (v := .long (((sr (hi0 k l9 (jn x 67108864))).2.2.1) ^^^ 255)) (ty := .long) (C := R_Model) (T := F_Model) (N := 24) hx hb hts in_Model t_Model t_Model_ok n_Model hown hK hP hD hS 0 rfl rfl 22 (by decide) (hts _ wk_258) (fun _ h => h) rfl t_Model_22 rfl rfl (Nat.le_of_ble_eq_true rfl) d_Model_hash_72 (fun H locs hP hD hS => ?_)
  have hP : va_P (dC, dI) cls [(ob, .inr (3, [.int (nI C), .int lim, .int v.1, .int v.2.1, .int v.2.2.1, .int v.2.2.2, .ref bw, .long k1, .long l1, .long k2, .long l2, .ref bm, .ref bk, .ref bv, .int mv, .ref cm, .ref ck, .ref cv, .int lo, .int ti, .long (((sr (hi0 k l9 (jn x 67108864))).1) ^^^ (jn x 67108864)), .long ((sr (hi0 k l9 (jn x 67108864))).2.1), .long (((sr (hi0 k l9 (jn x 67108864))).2.2.1) ^^^ 255), .long ((sr (hi0 k l9 (jn x 67108864))).2.2.2)]))] H := hP
  have hD : va_D A [(ob, .inr (3, [.int (nI C), .int lim, .int v.1, .int v.2.1, .int v.2.2.1, .int v.2.2.2, .ref bw, .long k1, .long l1, .long k2, .long l2, .ref bm, .ref bk, .ref bv, .int mv, .ref cm, .ref ck, .ref cv, .int lo, .int ti, .long (((sr (hi0 k l9 (jn x 67108864))).1) ^^^ (jn x 67108864)), .long ((sr (hi0 k l9 (jn x 67108864))).2.1), .long (((sr (hi0 k l9 (jn x 67108864))).2.2.1) ^^^ 255), .long ((sr (hi0 k l9 (jn x 67108864))).2.2.2)]))] := hD
  refine lv_iconst hx hb d_Model_hash_75 (v := (nI 0)) rfl ?_
  refine lv_istore hx hb d_Model_hash_76 hl (by decide) rfl (fun ls hl => ?_)
  have hl : lv_has ls 9 [(8, .int (nI 0)), (6, .long (jn x 67108864)), (0, .ref ob), (1, .long k), (3, .long l9), (5, .int x)] := hl
  refine W.eq (g2 := F0 m 78 ls []) rfl ?_
  refine lq2 (fun (f : Nat) (zz : Int64 × Int64 × Int64 × Int64) => f) (fun (f : Nat) (zz : Int64 × Int64 × Int64 × Int64) ls H locs => (f ≤ 3) ∧ (hk (jn x 67108864) f zz = hs k l9 x) ∧ lv_has ls 9 [(0, .ref ob), (8, .int (nI (3 - f)))] ∧ va_P (dC, dI) cls [(ob, .inr (3, [.int (nI C), .int lim, .int v.1, .int v.2.1, .int v.2.2.1, .int v.2.2.2, .ref bw, .long k1, .long l1, .long k2, .long l2, .ref bm, .ref bk, .ref bv, .int mv, .ref cm, .ref ck, .ref cv, .int lo, .int ti, .long zz.1, .long zz.2.1, .long zz.2.2.1, .long zz.2.2.2]))] H ∧ va_D A [(ob, .inr (3, [.int (nI C), .int lim, .int v.1, .int v.2.1, .int v.2.2.1, .int v.2.2.2, .ref bw, .long k1, .long l1, .long k2, .long l2, .ref bm, .ref bk, .ref bv, .int mv, .ref cm, .ref ck, .ref cv, .int lo, .int ti, .long zz.1, .long zz.2.1, .long zz.2.2.1, .long zz.2.2.2]))] ∧ va_S A s.heap H locs) (fun f zz ls H locs hE ih78 => ?_) 3 (sx (jn x 67108864) (sr (hi0 k l9 (jn x 67108864)))) ls _ _ ⟨by omega, rfl, lv_sub hl [2, 0] rfl, hP, hD, hS⟩
  obtain ⟨hf, hZ, hl, hP, hD, hS⟩ := hE
  refine lv_iload hx hb d_Model_hash_78 (lv_at hl 1 rfl) ?_
  refine lv_iconst hx hb d_Model_hash_80 (v := (nI 3)) rfl ?_
  refine lv_icmp_ge hx hb d_Model_hash_81 (tgt := 94) rfl (fun hc81 => ?_) (fun hc81 => ?_)
  · skip
    have hq : f = 0 := by
        have := (nI_leI (by omega) (by omega)).mp hc81
        omega
    subst hq
    refine lv_aload_n hx hb d_Model_hash_94 rfl (lv_at hl 0 rfl) ?_
    refine va_get (ci := 3) (C := R_Model) (T := F_Model) (N := 24) hx hb hts in_Model hown hK hP 0 rfl rfl 20 (by decide) (hts _ wk_256) (fun _ h => h) rfl d_Model_hash_95 ?_
    refine lv_aload_n hx hb d_Model_hash_98 rfl (lv_at hl 0 rfl) ?_
    refine va_get (ci := 3) (C := R_Model) (T := F_Model) (N := 24) hx hb hts in_Model hown hK hP 0 rfl rfl 21 (by decide) (hts _ wk_257) (fun _ h => h) rfl d_Model_hash_99 ?_
    refine lv_lxor hx hb d_Model_hash_102 ?_
    refine lv_aload_n hx hb d_Model_hash_103 rfl (lv_at hl 0 rfl) ?_
    refine va_get (ci := 3) (C := R_Model) (T := F_Model) (N := 24) hx hb hts in_Model hown hK hP 0 rfl rfl 22 (by decide) (hts _ wk_258) (fun _ h => h) rfl d_Model_hash_104 ?_
    refine lv_lxor hx hb d_Model_hash_107 ?_
    refine lv_aload_n hx hb d_Model_hash_108 rfl (lv_at hl 0 rfl) ?_
    refine va_get (ci := 3) (C := R_Model) (T := F_Model) (N := 24) hx hb hts in_Model hown hK hP 0 rfl rfl 23 (by decide) (hts _ wk_259) (fun _ h => h) rfl d_Model_hash_109 ?_
    refine lv_lxor hx hb d_Model_hash_112 ?_
    exact W.lret hx hb hr (fun tS ht hW => ⟨⟨_, zz, rfl, hZ, by rw [ht]; exact hP, va_K.moved hW.alike hK, hD⟩, hS.F ht⟩) hS.2.2 d_Model_hash_113 hlocks
  · skip
    obtain ⟨f, rfl⟩ : ∃ y, f = y + 1 := ⟨f - 1, by
        have : ¬ 3 ≤ 3 - f := fun h => hc81 ((nI_leI (by omega) (by omega)).mpr h)
        omega⟩
    rw [hk, if_neg (by omega)] at hZ
    refine lv_aload_n hx hb d_Model_hash_84 rfl (lv_at hl 0 rfl) ?_
    refine rw_v (wc := [(ob, .inr (3, [.int (nI C), .int lim, .int v.1, .int v.2.1, .int v.2.2.1, .int v.2.2.2, .ref bw, .long k1, .long l1, .long k2, .long l2, .ref bm, .ref bk, .ref bv, .int mv, .ref cm, .ref ck, .ref cv, .int lo, .int ti, .long zz.1, .long zz.2.1, .long zz.2.2.1, .long zz.2.2.2]))]) (wr := []) hP hD hS hA (va_runV (As := []) (rest := []) ⟨hx, hb, hml, hown, hts⟩ (c_round l _ zz) (cwV 0 hts g_Model_109 rfl rfl rfl (by decide +kernel) ⟨Nat.le_of_ble_eq_true rfl, Nat.le_of_ble_eq_true rfl⟩) ⟨bl_RW, va_recv (q0 := 0) hK hP rfl rfl, pr_RW hK hP hD [0] rfl (by decide) rfl⟩ rfl rfl hl.1 rfl (lv_room (Nat.le_of_ble_eq_true rfl)) d_Model_hash_85 ⟨Nat.zero_le _, Nat.zero_le _⟩) [0] [] rfl rfl (by decide) (by decide) (fun _ H locs hq hP hD hS => ?_)
    have hP : va_P (dC, dI) cls [(ob, .inr (3, [.int (nI C), .int lim, .int v.1, .int v.2.1, .int v.2.2.1, .int v.2.2.2, .ref bw, .long k1, .long l1, .long k2, .long l2, .ref bm, .ref bk, .ref bv, .int mv, .ref cm, .ref ck, .ref cv, .int lo, .int ti, .long ((sr zz).1), .long ((sr zz).2.1), .long ((sr zz).2.2.1), .long ((sr zz).2.2.2)]))] H := hP
    have hD : va_D A [(ob, .inr (3, [.int (nI C), .int lim, .int v.1, .int v.2.1, .int v.2.2.1, .int v.2.2.2, .ref bw, .long k1, .long l1, .long k2, .long l2, .ref bm, .ref bk, .ref bv, .int mv, .ref cm, .ref ck, .ref cv, .int lo, .int ti, .long ((sr zz).1), .long ((sr zz).2.1), .long ((sr zz).2.2.1), .long ((sr zz).2.2.2)]))] := hD
    refine lv_iinc hx hb d_Model_hash_88 hl (k := 1) rfl (v := nI (3 - f)) ((nI_1 _).trans (congrArg nI (by omega))) (by decide) rfl (fun ls hl => ?_)
    have hl : lv_has ls 9 [(8, .int (nI (3 - f))), (0, .ref ob)] := hl
    refine lv_goto hx hb d_Model_hash_91 (tgt := 78) rfl ?_
    exact ih78 f (sr zz) ls _ _ ⟨by omega, hZ, lv_sub hl [1, 0] rfl, hP, hD, hS⟩ (by omega)
set_option maxHeartbeats 4000000 in
set_option maxRecDepth 100000 in
theorem c_home (l : Launch) {dC : Nat → ClassId} {dI : Nat → Nat → Nat} {cA : ClassId} (sz : Nat) {ob bw bm bk bv cm ck cv C : Nat} {lim lo ti mv : Int32} {v : Int32 × Int32 × Int32 × Int32} {k1 l1 k2 l2 : Int64} {z : Int64 × Int64 × Int64 × Int64} (hC : szC C) (x : Int32) : Met l y_Model_home (.code y_Model_home b_Model_home 2 (some .int) :: BG) ({ frames := 3, cells := 0, slots := 0, locals := 70 }) (pRW dC dI cA [.ref ob, .int x] [(ob, .inr (3, [.int (nI C), .int lim, .int v.1, .int v.2.1, .int v.2.2.1, .int v.2.2.2, .ref bw, .long k1, .long l1, .long k2, .long l2, .ref bm, .ref bk, .ref bv, .int mv, .ref cm, .ref ck, .ref cv, .int lo, .int ti, .long z.1, .long z.2.1, .long z.2.2.1, .long z.2.2.2]))] sz) (va_Qi (fun r (u : Int64 × Int64 × Int64 × Int64) => r = nI (hmk C k1 l1 x)) (fun (u : Int64 × Int64 × Int64 × Int64) tS => wdB dC dI cA (va_A [(ob, .inr (3, [.int (nI C), .int lim, .int v.1, .int v.2.1, .int v.2.2.1, .int v.2.2.2, .ref bw, .long k1, .long l1, .long k2, .long l2, .ref bm, .ref bk, .ref bv, .int mv, .ref cm, .ref ck, .ref cv, .int lo, .int ti, .long z.1, .long z.2.1, .long z.2.2.1, .long z.2.2.2]))] sz) [(ob, .inr (3, [.int (nI C), .int lim, .int v.1, .int v.2.1, .int v.2.2.1, .int v.2.2.2, .ref bw, .long k1, .long l1, .long k2, .long l2, .ref bm, .ref bk, .ref bv, .int mv, .ref cm, .ref ck, .ref cv, .int lo, .int ti, .long u.1, .long u.2.1, .long u.2.2.1, .long u.2.2.2]))] tS) (va_A [(ob, .inr (3, [.int (nI C), .int lim, .int v.1, .int v.2.1, .int v.2.2.1, .int v.2.2.2, .ref bw, .long k1, .long l1, .long k2, .long l2, .ref bm, .ref bk, .ref bv, .int mv, .ref cm, .ref ck, .ref cv, .int lo, .int ti, .long z.1, .long z.2.1, .long z.2.2.1, .long z.2.2.2]))] sz)) 0 0 (va_A [(ob, .inr (3, [.int (nI C), .int lim, .int v.1, .int v.2.1, .int v.2.2.1, .int v.2.2.2, .ref bw, .long k1, .long l1, .long k2, .long l2, .ref bm, .ref bk, .ref bv, .int mv, .ref cm, .ref ck, .ref cv, .int lo, .int ti, .long z.1, .long z.2.1, .long z.2.2.1, .long z.2.2.2]))] sz) := by
  refine Met.ofW (cc := b_Model_home) (maxL := 2) (ret := some .int) (by decide) rfl ?_
  intro p e s m args below meth c s₁ B hml hv
  obtain ⟨rfl, hsz, hP, hK, hD0⟩ := hv
  have hx := B.exec
  have hb := B.bytes
  have hr := B.returns
  have hts : ∀ w ∈ BG, w.before _ s = true := fun w h => atoms_spec (ws := .code y_Model_home b_Model_home 2 (some .int) :: BG) B.pre w (List.mem_cons_of_mem _ h)
  have hown : s.vm.findClass R_Model = some m.cls := findClass_of_methodNamed B.named
  have hlocks := B.notSynchronized
  subst hsz
  have hD := hD0.self (sz := s.heap.size)
  generalize hAe : va_A [(ob, .inr (3, [.int (nI C), .int lim, .int v.1, .int v.2.1, .int v.2.2.1, .int v.2.2.2, .ref bw, .long k1, .long l1, .long k2, .long l2, .ref bm, .ref bk, .ref bv, .int mv, .ref cm, .ref ck, .ref cv, .int lo, .int ti, .long z.1, .long z.2.1, .long z.2.2.1, .long z.2.2.2]))] s.heap.size = A at hD ⊢
  have hA : ∀ q : Nat, s.heap.size ≤ q → A q := fun q h => by rw [← hAe]; exact Or.inr h
  have hS : va_S A s.heap s.heap [] := va_S.rf
  have hP : va_P (dC, dI) cls [(ob, .inr (3, [.int (nI C), .int lim, .int v.1, .int v.2.1, .int v.2.2.1, .int v.2.2.2, .ref bw, .long k1, .long l1, .long k2, .long l2, .ref bm, .ref bk, .ref bv, .int mv, .ref cm, .ref ck, .ref cv, .int lo, .int ti, .long z.1, .long z.2.1, .long z.2.2.1, .long z.2.2.2]))] s.heap := hP
  have hl := lv_entry ([.ref ob, .int x]) (n := 2) (Nat.le_of_ble_eq_true rfl)
  rw [lg_entry_eq]
  generalize (lg_sl ([.ref ob, .int x]) ++ List.replicate (2 - (lg_sl ([.ref ob, .int x])).length) Slot.unset).toArray = ls at hl ⊢
  have hl : lv_has ls 2 [(0, .ref ob), (1, .int x)] := hl
  refine lv_aload_n hx hb d_Model_home_0 rfl (lv_at hl 0 rfl) ?_
  refine lv_aload_n hx hb d_Model_home_1 rfl (lv_at hl 0 rfl) ?_
  refine va_get (ci := 3) (C := R_Model) (T := F_Model) (N := 24) hx hb hts in_Model hown hK hP 0 rfl rfl 7 (by decide) (hts _ wk_243) (fun _ h => h) rfl d_Model_home_2 ?_
  refine lv_aload_n hx hb d_Model_home_5 rfl (lv_at hl 0 rfl) ?_
  refine va_get (ci := 3) (C := R_Model) (T := F_Model) (N := 24) hx hb hts in_Model hown hK hP 0 rfl rfl 8 (by decide) (hts _ wk_244) (fun _ h => h) rfl d_Model_home_6 ?_
  refine lv_iload_n hx hb d_Model_home_9 rfl (lv_at hl 1 rfl) ?_
  refine rw_l (wc := [(ob, .inr (3, [.int (nI C), .int lim, .int v.1, .int v.2.1, .int v.2.2.1, .int v.2.2.2, .ref bw, .long k1, .long l1, .long k2, .long l2, .ref bm, .ref bk, .ref bv, .int mv, .ref cm, .ref ck, .ref cv, .int lo, .int ti, .long z.1, .long z.2.1, .long z.2.2.1, .long z.2.2.2]))]) (wr := []) hP hD hS hA (va_runV (As := [.long k1, .long l1, .int x]) (rest := []) ⟨hx, hb, hml, hown, hts⟩ (c_hash l _ k1 l1 x) (cwV 3 hts g_Model_114 rfl rfl rfl (by decide +kernel) ⟨Nat.le_of_ble_eq_true rfl, Nat.le_of_ble_eq_true rfl⟩) ⟨bl_RW, va_recv (q0 := 0) hK hP rfl rfl, pr_RW hK hP hD [0] rfl (by decide) rfl⟩ rfl rfl hl.1 rfl (lv_room (Nat.le_of_ble_eq_true rfl)) d_Model_home_10 ⟨Nat.zero_le _, Nat.zero_le _⟩) [0] [] rfl rfl (by decide) (by decide) (fun rh y1 H locs hq hP hD hS => ?_)
  have hP : va_P (dC, dI) cls [(ob, .inr (3, [.int (nI C), .int lim, .int v.1, .int v.2.1, .int v.2.2.1, .int v.2.2.2, .ref bw, .long k1, .long l1, .long k2, .long l2, .ref bm, .ref bk, .ref bv, .int mv, .ref cm, .ref ck, .ref cv, .int lo, .int ti, .long y1.1, .long y1.2.1, .long y1.2.2.1, .long y1.2.2.2]))] H := hP
  have hD : va_D A [(ob, .inr (3, [.int (nI C), .int lim, .int v.1, .int v.2.1, .int v.2.2.1, .int v.2.2.2, .ref bw, .long k1, .long l1, .long k2, .long l2, .ref bm, .ref bk, .ref bv, .int mv, .ref cm, .ref ck, .ref cv, .int lo, .int ti, .long y1.1, .long y1.2.1, .long y1.2.2.1, .long y1.2.2.2]))] := hD
  subst hq
  refine lv_aload_n hx hb d_Model_home_13 rfl (lv_at hl 0 rfl) ?_
  refine va_get (ci := 3) (C := R_Model) (T := F_Model) (N := 24) hx hb hts in_Model hown hK hP 0 rfl rfl 0 (by decide) (hts _ wk_236) (fun _ h => h) rfl d_Model_home_14 ?_
  refine lv_iconst hx hb d_Model_home_17 (v := 1) rfl ?_
  refine lv_isub hx hb d_Model_home_18 ?_
  refine lv_i2l hx hb d_Model_home_19 (v := ((nI C) - 1).toInt64) rfl ?_
  refine lv_land hx hb d_Model_home_20 ?_
  refine lv_l2i hx hb d_Model_home_21 (v := ((hs k1 l1 x) &&& (((nI C) - 1).toInt64)).toInt32) rfl ?_
  exact W.iret hx hb hr (fun tS ht hW => ⟨⟨_, y1, rfl, hmk_eq hC _ _ _, by rw [ht]; exact hP, va_K.moved hW.alike hK, hD⟩, hS.F ht⟩) hS.2.2 d_Model_home_22 hlocks
