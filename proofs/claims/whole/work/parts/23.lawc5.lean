set_option maxHeartbeats 4000000 in
set_option maxRecDepth 100000 in
theorem c_msum2 (l : Launch) {dC : Nat → ClassId} {dI : Nat → Nat → Nat} {cA : ClassId} (sz : Nat) {ob bw bm bk bv cm ck cv C : Nat} {lim lo ti mv : Int32} {v : Int32 × Int32 × Int32 × Int32} {k2 l2 : Int64} {z : Int64 × Int64 × Int64 × Int64} {M K V Wd Wq OM OK OV : Nat → Int32} (hC : szC C) (hmv : mv = 0 → cnt OM C = 0) : Met l y_Model_sum (.code y_Model_sum b_Model_sum 4 (some .long) :: BG) ({ frames := 3, cells := 0, slots := 0, locals := 70 }) (pRW dC dI cA [.ref ob] [(ob, .inr (3, [.int (nI C), .int lim, .int v.1, .int v.2.1, .int v.2.2.1, .int v.2.2.2, .ref bw, .long (jn (Wd 0) (Wd 1)), .long (jn (Wd 2) (Wd 3)), .long k2, .long l2, .ref bm, .ref bk, .ref bv, .int mv, .ref cm, .ref ck, .ref cv, .int lo, .int ti, .long z.1, .long z.2.1, .long z.2.2.1, .long z.2.2.2])), (bw, .inl (cA, 4, .inl Wq)), (bm, .inl (cA, 128, .inl M)), (bk, .inl (cA, 128, .inl K)), (bv, .inl (cA, 128, .inl V)), (cm, .inl (cA, 128, .inl OM)), (ck, .inl (cA, 128, .inl OK)), (cv, .inl (cA, 128, .inl OV))] sz) (va_Ql (fun r (u : Int64 × Int64 × Int64 × Int64) => r = smr Wd M K V OM OK OV C) (fun (u : Int64 × Int64 × Int64 × Int64) tS => wdB dC dI cA (va_A [(ob, .inr (3, [.int (nI C), .int lim, .int v.1, .int v.2.1, .int v.2.2.1, .int v.2.2.2, .ref bw, .long (jn (Wd 0) (Wd 1)), .long (jn (Wd 2) (Wd 3)), .long k2, .long l2, .ref bm, .ref bk, .ref bv, .int mv, .ref cm, .ref ck, .ref cv, .int lo, .int ti, .long z.1, .long z.2.1, .long z.2.2.1, .long z.2.2.2])), (bw, .inl (cA, 4, .inl Wq)), (bm, .inl (cA, 128, .inl M)), (bk, .inl (cA, 128, .inl K)), (bv, .inl (cA, 128, .inl V)), (cm, .inl (cA, 128, .inl OM)), (ck, .inl (cA, 128, .inl OK)), (cv, .inl (cA, 128, .inl OV))] sz) [(ob, .inr (3, [.int (nI C), .int lim, .int v.1, .int v.2.1, .int v.2.2.1, .int v.2.2.2, .ref bw, .long (jn (Wd 0) (Wd 1)), .long (jn (Wd 2) (Wd 3)), .long k2, .long l2, .ref bm, .ref bk, .ref bv, .int mv, .ref cm, .ref ck, .ref cv, .int lo, .int ti, .long u.1, .long u.2.1, .long u.2.2.1, .long u.2.2.2])), (bw, .inl (cA, 4, .inl Wq)), (bm, .inl (cA, 128, .inl M)), (bk, .inl (cA, 128, .inl K)), (bv, .inl (cA, 128, .inl V)), (cm, .inl (cA, 128, .inl OM)), (ck, .inl (cA, 128, .inl OK)), (cv, .inl (cA, 128, .inl OV))] tS) (va_A [(ob, .inr (3, [.int (nI C), .int lim, .int v.1, .int v.2.1, .int v.2.2.1, .int v.2.2.2, .ref bw, .long (jn (Wd 0) (Wd 1)), .long (jn (Wd 2) (Wd 3)), .long k2, .long l2, .ref bm, .ref bk, .ref bv, .int mv, .ref cm, .ref ck, .ref cv, .int lo, .int ti, .long z.1, .long z.2.1, .long z.2.2.1, .long z.2.2.2])), (bw, .inl (cA, 4, .inl Wq)), (bm, .inl (cA, 128, .inl M)), (bk, .inl (cA, 128, .inl K)), (bv, .inl (cA, 128, .inl V)), (cm, .inl (cA, 128, .inl OM)), (ck, .inl (cA, 128, .inl OK)), (cv, .inl (cA, 128, .inl OV))] sz)) 0 0 (va_A [(ob, .inr (3, [.int (nI C), .int lim, .int v.1, .int v.2.1, .int v.2.2.1, .int v.2.2.2, .ref bw, .long (jn (Wd 0) (Wd 1)), .long (jn (Wd 2) (Wd 3)), .long k2, .long l2, .ref bm, .ref bk, .ref bv, .int mv, .ref cm, .ref ck, .ref cv, .int lo, .int ti, .long z.1, .long z.2.1, .long z.2.2.1, .long z.2.2.2])), (bw, .inl (cA, 4, .inl Wq)), (bm, .inl (cA, 128, .inl M)), (bk, .inl (cA, 128, .inl K)), (bv, .inl (cA, 128, .inl V)), (cm, .inl (cA, 128, .inl OM)), (ck, .inl (cA, 128, .inl OK)), (cv, .inl (cA, 128, .inl OV))] sz) := by
  refine Met.ofW (cc := b_Model_sum) (maxL := 4) (ret := some .long) (by decide) rfl ?_
  intro p e s m args below meth c s₁ B hml hv
  obtain ⟨rfl, hsz, hP, hK, hD0⟩ := hv
  have hx := B.exec
  have hb := B.bytes
  have hr := B.returns
  have hts : ∀ w ∈ BG, w.before _ s = true := fun w h => atoms_spec (ws := .code y_Model_sum b_Model_sum 4 (some .long) :: BG) B.pre w (List.mem_cons_of_mem _ h)
  have hown : s.vm.findClass R_Model = some m.cls := findClass_of_methodNamed B.named
  have hlocks := B.notSynchronized
  subst hsz
  have hD := hD0.self (sz := s.heap.size)
  generalize hAe : va_A [(ob, .inr (3, [.int (nI C), .int lim, .int v.1, .int v.2.1, .int v.2.2.1, .int v.2.2.2, .ref bw, .long (jn (Wd 0) (Wd 1)), .long (jn (Wd 2) (Wd 3)), .long k2, .long l2, .ref bm, .ref bk, .ref bv, .int mv, .ref cm, .ref ck, .ref cv, .int lo, .int ti, .long z.1, .long z.2.1, .long z.2.2.1, .long z.2.2.2])), (bw, .inl (cA, 4, .inl Wq)), (bm, .inl (cA, 128, .inl M)), (bk, .inl (cA, 128, .inl K)), (bv, .inl (cA, 128, .inl V)), (cm, .inl (cA, 128, .inl OM)), (ck, .inl (cA, 128, .inl OK)), (cv, .inl (cA, 128, .inl OV))] s.heap.size = A at hD ⊢
  have hA : ∀ q : Nat, s.heap.size ≤ q → A q := fun q h => by rw [← hAe]; exact Or.inr h
  have hS : va_S A s.heap s.heap [] := va_S.rf
  have hP : va_P (dC, dI) cls [(ob, .inr (3, [.int (nI C), .int lim, .int v.1, .int v.2.1, .int v.2.2.1, .int v.2.2.2, .ref bw, .long (jn (Wd 0) (Wd 1)), .long (jn (Wd 2) (Wd 3)), .long k2, .long l2, .ref bm, .ref bk, .ref bv, .int mv, .ref cm, .ref ck, .ref cv, .int lo, .int ti, .long z.1, .long z.2.1, .long z.2.2.1, .long z.2.2.2])), (bw, .inl (cA, 4, .inl Wq)), (bm, .inl (cA, 128, .inl M)), (bk, .inl (cA, 128, .inl K)), (bv, .inl (cA, 128, .inl V)), (cm, .inl (cA, 128, .inl OM)), (ck, .inl (cA, 128, .inl OK)), (cv, .inl (cA, 128, .inl OV))] s.heap := hP
  have hl := lv_entry ([.ref ob]) (n := 4) (Nat.le_of_ble_eq_true rfl)
  rw [lg_entry_eq]
  generalize (lg_sl ([.ref ob]) ++ List.replicate (4 - (lg_sl ([.ref ob])).length) Slot.unset).toArray = ls at hl ⊢
  have hl : lv_has ls 4 [(0, .ref ob)] := hl
  have hlo := hC.lo
  have hhi := hC.hi
  refine lv_lconst hx hb d_Model_sum_0 (v := 0) rfl ?_
  refine lv_lstore_n hx hb d_Model_sum_1 rfl hl (by decide) rfl (fun ls hl => ?_)
  have hl : lv_has ls 4 [(1, .long 0), (0, .ref ob)] := hl
  refine lv_iconst hx hb d_Model_sum_2 (v := (nI 0)) rfl ?_
  refine lv_istore_n hx hb d_Model_sum_3 rfl hl (by decide) rfl (fun ls hl => ?_)
  have hl : lv_has ls 4 [(3, .int (nI 0)), (1, .long 0), (0, .ref ob)] := hl
  refine W.eq (g2 := F0 m 4 ls []) rfl ?_
  refine lq2 (fun (j : Nat) (zz : Int64 × Int64 × Int64 × Int64) => C - j) (fun (j : Nat) (zz : Int64 × Int64 × Int64 × Int64) ls H locs => (j ≤ C) ∧ lv_has ls 4 [(0, .ref ob), (1, .long (smr Wd M K V OM OK OV j)), (3, .int (nI j))] ∧ va_P (dC, dI) cls [(ob, .inr (3, [.int (nI C), .int lim, .int v.1, .int v.2.1, .int v.2.2.1, .int v.2.2.2, .ref bw, .long (jn (Wd 0) (Wd 1)), .long (jn (Wd 2) (Wd 3)), .long k2, .long l2, .ref bm, .ref bk, .ref bv, .int mv, .ref cm, .ref ck, .ref cv, .int lo, .int ti, .long zz.1, .long zz.2.1, .long zz.2.2.1, .long zz.2.2.2])), (bw, .inl (cA, 4, .inl Wq)), (bm, .inl (cA, 128, .inl M)), (bk, .inl (cA, 128, .inl K)), (bv, .inl (cA, 128, .inl V)), (cm, .inl (cA, 128, .inl OM)), (ck, .inl (cA, 128, .inl OK)), (cv, .inl (cA, 128, .inl OV))] H ∧ va_D A [(ob, .inr (3, [.int (nI C), .int lim, .int v.1, .int v.2.1, .int v.2.2.1, .int v.2.2.2, .ref bw, .long (jn (Wd 0) (Wd 1)), .long (jn (Wd 2) (Wd 3)), .long k2, .long l2, .ref bm, .ref bk, .ref bv, .int mv, .ref cm, .ref ck, .ref cv, .int lo, .int ti, .long zz.1, .long zz.2.1, .long zz.2.2.1, .long zz.2.2.2])), (bw, .inl (cA, 4, .inl Wq)), (bm, .inl (cA, 128, .inl M)), (bk, .inl (cA, 128, .inl K)), (bv, .inl (cA, 128, .inl V)), (cm, .inl (cA, 128, .inl OM)), (ck, .inl (cA, 128, .inl OK)), (cv, .inl (cA, 128, .inl OV))] ∧ va_S A s.heap H locs) (fun j zz ls H locs hE ih4 => ?_) 0 z ls _ _ ⟨Nat.zero_le _, lv_sub hl [2, 1, 0] rfl, hP, hD, hS⟩
  obtain ⟨hj, hl, hP, hD, hS⟩ := hE
  refine lv_iload_n hx hb d_Model_sum_4 rfl (lv_at hl 2 rfl) ?_
  refine lv_aload_n hx hb d_Model_sum_5 rfl (lv_at hl 0 rfl) ?_
  refine va_get (ci := 3) (C := R_Model) (T := F_Model) (N := 24) hx hb hts in_Model hown hK hP 0 rfl rfl 0 (by decide) (hts _ wk_236) (fun _ h => h) rfl d_Model_sum_6 ?_
  refine lv_icmp_ge hx hb d_Model_sum_9 (tgt := 115) rfl (fun hc9 => ?_) (fun hc9 => ?_)
  · skip
    have hq : C = j := by
        have := (nI_leI (by omega) (by omega)).mp hc9
        omega
    subst hq
    refine lv_lload_n hx hb d_Model_sum_115 rfl (lv_at hl 1 rfl) ?_
    exact W.lret hx hb hr (fun tS ht hW => ⟨⟨_, zz, rfl, rfl, by rw [ht]; exact hP, va_K.moved hW.alike hK, hD⟩, hS.F ht⟩) hS.2.2 d_Model_sum_116 hlocks
  · skip
    have hq : ¬ C ≤ j := fun h => hc9 ((nI_leI (by omega) (by omega)).mpr h)
    refine lv_aload_n hx hb d_Model_sum_12 rfl (lv_at hl 0 rfl) ?_
    refine va_get (ci := 3) (C := R_Model) (T := F_Model) (N := 24) hx hb hts in_Model hown hK hP 0 rfl rfl 11 (by decide) (hts _ wk_247) (fun _ h => h) rfl d_Model_sum_13 ?_
    refine lv_iload_n hx hb d_Model_sum_16 rfl (lv_at hl 2 rfl) ?_
    refine ia_ld (i := j) hx hb hK hP 2 rfl rfl (by omega) (by omega) d_Model_sum_17 ?_
    refine lv_iconst hx hb d_Model_sum_18 (v := 1) rfl ?_
    refine lv_icmp_ne hx hb d_Model_sum_19 (tgt := 57) rfl (fun hc19 => ?_) (fun hc19 => ?_)
    · skip
      rw [show smr Wd M K V OM OK OV j = smr Wd M K V OM OK OV j + (if M j = 1 then hwd Wd (K j) * (2 * (V j).toInt64 + 1) else 0) by rw [if_neg hc19, Int64.add_zero]] at hl
      refine lv_aload_n hx hb d_Model_sum_57 rfl (lv_at hl 0 rfl) ?_
      refine va_get (ci := 3) (C := R_Model) (T := F_Model) (N := 24) hx hb hts in_Model hown hK hP 0 rfl rfl 14 (by decide) (hts _ wk_250) (fun _ h => h) rfl d_Model_sum_58 ?_
      refine lv_if_eq hx hb d_Model_sum_61 (tgt := 109) rfl (fun hc61 => ?_) (fun hc61 => ?_)
      · skip
        rw [show smr Wd M K V OM OK OV j + (if M j = 1 then hwd Wd (K j) * (2 * (V j).toInt64 + 1) else 0) = smr Wd M K V OM OK OV (j + 1) by rw [smr, if_neg (cnt_zero C (hmv hc61) j (by omega)), Int64.add_zero]] at hl
        refine lv_iinc hx hb d_Model_sum_109 hl (k := 2) rfl (v := nI (j + 1)) (nI_1 _) (by decide) rfl (fun ls hl => ?_)
        have hl : lv_has ls 4 [(3, .int (nI (j + 1))), (0, .ref ob), (1, .long (smr Wd M K V OM OK OV (j + 1)))] := hl
        refine lv_goto hx hb d_Model_sum_112 (tgt := 4) rfl ?_
        exact ih4 (j + 1) zz ls _ _ ⟨by omega, lv_sub hl [1, 2, 0] rfl, hP, hD, hS⟩ (by omega)
      · skip
        refine lv_aload_n hx hb d_Model_sum_64 rfl (lv_at hl 0 rfl) ?_
        refine va_get (ci := 3) (C := R_Model) (T := F_Model) (N := 24) hx hb hts in_Model hown hK hP 0 rfl rfl 15 (by decide) (hts _ wk_251) (fun _ h => h) rfl d_Model_sum_65 ?_
        refine W.eq (g2 := F0 m 68 ls [.ref cm]) rfl ?_
        refine lv_iload_n hx hb d_Model_sum_68 rfl (lv_at hl 2 rfl) ?_
        refine ia_ld (i := j) hx hb hK hP 5 rfl rfl (by omega) (by omega) d_Model_sum_69 ?_
        refine lv_iconst hx hb d_Model_sum_70 (v := 1) rfl ?_
        refine lv_icmp_ne hx hb d_Model_sum_71 (tgt := 109) rfl (fun hc71 => ?_) (fun hc71 => ?_)
        · skip
          rw [show smr Wd M K V OM OK OV j + (if M j = 1 then hwd Wd (K j) * (2 * (V j).toInt64 + 1) else 0) = smr Wd M K V OM OK OV (j + 1) by rw [smr, if_neg hc71, Int64.add_zero]] at hl
          refine lv_iinc hx hb d_Model_sum_109 hl (k := 2) rfl (v := nI (j + 1)) (nI_1 _) (by decide) rfl (fun ls hl => ?_)
          have hl : lv_has ls 4 [(3, .int (nI (j + 1))), (0, .ref ob), (1, .long (smr Wd M K V OM OK OV (j + 1)))] := hl
          refine lv_goto hx hb d_Model_sum_112 (tgt := 4) rfl ?_
          exact ih4 (j + 1) zz ls _ _ ⟨by omega, lv_sub hl [1, 2, 0] rfl, hP, hD, hS⟩ (by omega)
        · skip
          refine lv_lload_n hx hb d_Model_sum_74 rfl (lv_at hl 1 rfl) ?_
          refine lv_aload_n hx hb d_Model_sum_75 rfl (lv_at hl 0 rfl) ?_
          refine lv_aload_n hx hb d_Model_sum_76 rfl (lv_at hl 0 rfl) ?_
          refine va_get (ci := 3) (C := R_Model) (T := F_Model) (N := 24) hx hb hts in_Model hown hK hP 0 rfl rfl 7 (by decide) (hts _ wk_243) (fun _ h => h) rfl d_Model_sum_77 ?_
          refine lv_aload_n hx hb d_Model_sum_80 rfl (lv_at hl 0 rfl) ?_
          refine va_get (ci := 3) (C := R_Model) (T := F_Model) (N := 24) hx hb hts in_Model hown hK hP 0 rfl rfl 8 (by decide) (hts _ wk_244) (fun _ h => h) rfl d_Model_sum_81 ?_
          refine lv_aload_n hx hb d_Model_sum_84 rfl (lv_at hl 0 rfl) ?_
          refine va_get (ci := 3) (C := R_Model) (T := F_Model) (N := 24) hx hb hts in_Model hown hK hP 0 rfl rfl 16 (by decide) (hts _ wk_252) (fun _ h => h) rfl d_Model_sum_85 ?_
          refine lv_iload_n hx hb d_Model_sum_88 rfl (lv_at hl 2 rfl) ?_
          refine ia_ld (i := j) hx hb hK hP 6 rfl rfl (by omega) (by omega) d_Model_sum_89 ?_
          refine rw_l (wc := [(ob, .inr (3, [.int (nI C), .int lim, .int v.1, .int v.2.1, .int v.2.2.1, .int v.2.2.2, .ref bw, .long (jn (Wd 0) (Wd 1)), .long (jn (Wd 2) (Wd 3)), .long k2, .long l2, .ref bm, .ref bk, .ref bv, .int mv, .ref cm, .ref ck, .ref cv, .int lo, .int ti, .long zz.1, .long zz.2.1, .long zz.2.2.1, .long zz.2.2.2]))]) (wr := [(bw, .inl (cA, 4, .inl Wq)), (bm, .inl (cA, 128, .inl M)), (bk, .inl (cA, 128, .inl K)), (bv, .inl (cA, 128, .inl V)), (cm, .inl (cA, 128, .inl OM)), (ck, .inl (cA, 128, .inl OK)), (cv, .inl (cA, 128, .inl OV))]) hP hD hS hA (va_runV (As := [.long (jn (Wd 0) (Wd 1)), .long (jn (Wd 2) (Wd 3)), .int (OK j)]) (rest := [.long (smr Wd M K V OM OK OV j + (if M j = 1 then hwd Wd (K j) * (2 * (V j).toInt64 + 1) else 0))]) ⟨hx, hb, hml, hown, hts⟩ (c_hash l _ (jn (Wd 0) (Wd 1)) (jn (Wd 2) (Wd 3)) (OK j)) (cwV 3 hts g_Model_114 rfl rfl rfl (by decide +kernel) ⟨Nat.le_of_ble_eq_true rfl, Nat.le_of_ble_eq_true rfl⟩) ⟨bl_RW, va_recv (q0 := 0) hK hP rfl rfl, pr_RW hK hP hD [0] rfl (by decide) rfl⟩ rfl rfl hl.1 rfl (lv_room (Nat.le_of_ble_eq_true rfl)) d_Model_sum_90 ⟨Nat.zero_le _, Nat.zero_le _⟩) [0] [1, 2, 3, 4, 5, 6, 7] rfl rfl (by decide) (by decide) (fun rh y2 H locs hq hP hD hS => ?_)
          have hP : va_P (dC, dI) cls [(bw, .inl (cA, 4, .inl Wq)), (bm, .inl (cA, 128, .inl M)), (bk, .inl (cA, 128, .inl K)), (bv, .inl (cA, 128, .inl V)), (cm, .inl (cA, 128, .inl OM)), (ck, .inl (cA, 128, .inl OK)), (cv, .inl (cA, 128, .inl OV)), (ob, .inr (3, [.int (nI C), .int lim, .int v.1, .int v.2.1, .int v.2.2.1, .int v.2.2.2, .ref bw, .long (jn (Wd 0) (Wd 1)), .long (jn (Wd 2) (Wd 3)), .long k2, .long l2, .ref bm, .ref bk, .ref bv, .int mv, .ref cm, .ref ck, .ref cv, .int lo, .int ti, .long y2.1, .long y2.2.1, .long y2.2.2.1, .long y2.2.2.2]))] H := hP
          have hD : va_D A [(bw, .inl (cA, 4, .inl Wq)), (bm, .inl (cA, 128, .inl M)), (bk, .inl (cA, 128, .inl K)), (bv, .inl (cA, 128, .inl V)), (cm, .inl (cA, 128, .inl OM)), (ck, .inl (cA, 128, .inl OK)), (cv, .inl (cA, 128, .inl OV)), (ob, .inr (3, [.int (nI C), .int lim, .int v.1, .int v.2.1, .int v.2.2.1, .int v.2.2.2, .ref bw, .long (jn (Wd 0) (Wd 1)), .long (jn (Wd 2) (Wd 3)), .long k2, .long l2, .ref bm, .ref bk, .ref bv, .int mv, .ref cm, .ref ck, .ref cv, .int lo, .int ti, .long y2.1, .long y2.2.1, .long y2.2.2.1, .long y2.2.2.2]))] := hD
          have hP := hP.sub (ws' := [(ob, .inr (3, [.int (nI C), .int lim, .int v.1, .int v.2.1, .int v.2.2.1, .int v.2.2.2, .ref bw, .long (jn (Wd 0) (Wd 1)), .long (jn (Wd 2) (Wd 3)), .long k2, .long l2, .ref bm, .ref bk, .ref bv, .int mv, .ref cm, .ref ck, .ref cv, .int lo, .int ti, .long y2.1, .long y2.2.1, .long y2.2.2.1, .long y2.2.2.2])), (bw, .inl (cA, 4, .inl Wq)), (bm, .inl (cA, 128, .inl M)), (bk, .inl (cA, 128, .inl K)), (bv, .inl (cA, 128, .inl V)), (cm, .inl (cA, 128, .inl OM)), (ck, .inl (cA, 128, .inl OK)), (cv, .inl (cA, 128, .inl OV))]) [7, 0, 1, 2, 3, 4, 5, 6] rfl
          have hD := hD.sub (ws' := [(ob, .inr (3, [.int (nI C), .int lim, .int v.1, .int v.2.1, .int v.2.2.1, .int v.2.2.2, .ref bw, .long (jn (Wd 0) (Wd 1)), .long (jn (Wd 2) (Wd 3)), .long k2, .long l2, .ref bm, .ref bk, .ref bv, .int mv, .ref cm, .ref ck, .ref cv, .int lo, .int ti, .long y2.1, .long y2.2.1, .long y2.2.2.1, .long y2.2.2.2])), (bw, .inl (cA, 4, .inl Wq)), (bm, .inl (cA, 128, .inl M)), (bk, .inl (cA, 128, .inl K)), (bv, .inl (cA, 128, .inl V)), (cm, .inl (cA, 128, .inl OM)), (ck, .inl (cA, 128, .inl OK)), (cv, .inl (cA, 128, .inl OV))]) [7, 0, 1, 2, 3, 4, 5, 6] (by decide) rfl
          subst hq
          refine lv_ldc2 hx hb hown (hts _ wk_392) d_Model_sum_93 ?_
          refine W.eq (g2 := F0 m 96 ls [.long 2, .long (hs (jn (Wd 0) (Wd 1)) (jn (Wd 2) (Wd 3)) (OK j)), .long (smr Wd M K V OM OK OV j + (if M j = 1 then hwd Wd (K j) * (2 * (V j).toInt64 + 1) else 0))]) rfl ?_
          refine lv_aload_n hx hb d_Model_sum_96 rfl (lv_at hl 0 rfl) ?_
          refine va_get (ci := 3) (C := R_Model) (T := F_Model) (N := 24) hx hb hts in_Model hown hK hP 0 rfl rfl 17 (by decide) (hts _ wk_253) (fun _ h => h) rfl d_Model_sum_97 ?_
          refine lv_iload_n hx hb d_Model_sum_100 rfl (lv_at hl 2 rfl) ?_
          refine ia_ld (i := j) hx hb hK hP 7 rfl rfl (by omega) (by omega) d_Model_sum_101 ?_
          refine lv_i2l hx hb d_Model_sum_102 (v := (OV j).toInt64) rfl ?_
          refine lv_lmul hx hb d_Model_sum_103 ?_
          refine lv_lconst hx hb d_Model_sum_104 (v := 1) rfl ?_
          refine lv_ladd hx hb d_Model_sum_105 ?_
          refine lv_lmul hx hb d_Model_sum_106 ?_
          refine lv_ladd hx hb d_Model_sum_107 ?_
          refine lv_asL (y := smr Wd M K V OM OK OV (j + 1)) (by rw [smr, if_pos hc71]; rfl) ?_
          refine lv_lstore_n hx hb d_Model_sum_108 rfl hl (by decide) rfl (fun ls hl => ?_)
          have hl : lv_has ls 4 [(1, .long (smr Wd M K V OM OK OV (j + 1))), (0, .ref ob), (3, .int (nI j))] := hl
          refine lv_iinc hx hb d_Model_sum_109 hl (k := 2) rfl (v := nI (j + 1)) (nI_1 _) (by decide) rfl (fun ls hl => ?_)
          have hl : lv_has ls 4 [(3, .int (nI (j + 1))), (1, .long (smr Wd M K V OM OK OV (j + 1))), (0, .ref ob)] := hl
          refine lv_goto hx hb d_Model_sum_112 (tgt := 4) rfl ?_
          exact ih4 (j + 1) y2 ls _ _ ⟨by omega, lv_sub hl [2, 1, 0] rfl, hP, hD, hS⟩ (by omega)
    · skip
      refine lv_lload_n hx hb d_Model_sum_22 rfl (lv_at hl 1 rfl) ?_
      refine lv_aload_n hx hb d_Model_sum_23 rfl (lv_at hl 0 rfl) ?_
      refine lv_aload_n hx hb d_Model_sum_24 rfl (lv_at hl 0 rfl) ?_
      refine va_get (ci := 3) (C := R_Model) (T := F_Model) (N := 24) hx hb hts in_Model hown hK hP 0 rfl rfl 7 (by decide) (hts _ wk_243) (fun _ h => h) rfl d_Model_sum_25 ?_
      refine lv_aload_n hx hb d_Model_sum_28 rfl (lv_at hl 0 rfl) ?_
      refine W.eq (g2 := F0 m 29 ls [.ref ob, .long (jn (Wd 0) (Wd 1)), .ref ob, .long (smr Wd M K V OM OK OV j)]) rfl ?_
      refine va_get (ci := 3) (C := R_Model) (T := F_Model) (N := 24) hx hb hts in_Model hown hK hP 0 rfl rfl 8 (by decide) (hts _ wk_244) (fun _ h => h) rfl d_Model_sum_29 ?_
      refine lv_aload_n hx hb d_Model_sum_32 rfl (lv_at hl 0 rfl) ?_
      refine va_get (ci := 3) (C := R_Model) (T := F_Model) (N := 24) hx hb hts in_Model hown hK hP 0 rfl rfl 12 (by decide) (hts _ wk_248) (fun _ h => h) rfl d_Model_sum_33 ?_
      refine lv_iload_n hx hb d_Model_sum_36 rfl (lv_at hl 2 rfl) ?_
      refine ia_ld (i := j) hx hb hK hP 3 rfl rfl (by omega) (by omega) d_Model_sum_37 ?_
      refine rw_l (wc := [(ob, .inr (3, [.int (nI C), .int lim, .int v.1, .int v.2.1, .int v.2.2.1, .int v.2.2.2, .ref bw, .long (jn (Wd 0) (Wd 1)), .long (jn (Wd 2) (Wd 3)), .long k2, .long l2, .ref bm, .ref bk, .ref bv, .int mv, .ref cm, .ref ck, .ref cv, .int lo, .int ti, .long zz.1, .long zz.2.1, .long zz.2.2.1, .long zz.2.2.2]))]) (wr := [(bw, .inl (cA, 4, .inl Wq)), (bm, .inl (cA, 128, .inl M)), (bk, .inl (cA, 128, .inl K)), (bv, .inl (cA, 128, .inl V)), (cm, .inl (cA, 128, .inl OM)), (ck, .inl (cA, 128, .inl OK)), (cv, .inl (cA, 128, .inl OV))]) hP hD hS hA (va_runV (As := [.long (jn (Wd 0) (Wd 1)), .long (jn (Wd 2) (Wd 3)), .int (K j)]) (rest := [.long (smr Wd M K V OM OK OV j)]) ⟨hx, hb, hml, hown, hts⟩ (c_hash l _ (jn (Wd 0) (Wd 1)) (jn (Wd 2) (Wd 3)) (K j)) (cwV 3 hts g_Model_114 rfl rfl rfl (by decide +kernel) ⟨Nat.le_of_ble_eq_true rfl, Nat.le_of_ble_eq_true rfl⟩) ⟨bl_RW, va_recv (q0 := 0) hK hP rfl rfl, pr_RW hK hP hD [0] rfl (by decide) rfl⟩ rfl rfl hl.1 rfl (lv_room (Nat.le_of_ble_eq_true rfl)) d_Model_sum_38 ⟨Nat.zero_le _, Nat.zero_le _⟩) [0] [1, 2, 3, 4, 5, 6, 7] rfl rfl (by decide) (by decide) (fun rh y1 H locs hq hP hD hS => ?_)
      have hP : va_P (dC, dI) cls [(bw, .inl (cA, 4, .inl Wq)), (bm, .inl (cA, 128, .inl M)), (bk, .inl (cA, 128, .inl K)), (bv, .inl (cA, 128, .inl V)), (cm, .inl (cA, 128, .inl OM)), (ck, .inl (cA, 128, .inl OK)), (cv, .inl (cA, 128, .inl OV)), (ob, .inr (3, [.int (nI C), .int lim, .int v.1, .int v.2.1, .int v.2.2.1, .int v.2.2.2, .ref bw, .long (jn (Wd 0) (Wd 1)), .long (jn (Wd 2) (Wd 3)), .long k2, .long l2, .ref bm, .ref bk, .ref bv, .int mv, .ref cm, .ref ck, .ref cv, .int lo, .int ti, .long y1.1, .long y1.2.1, .long y1.2.2.1, .long y1.2.2.2]))] H := hP
      have hD : va_D A [(bw, .inl (cA, 4, .inl Wq)), (bm, .inl (cA, 128, .inl M)), (bk, .inl (cA, 128, .inl K)), (bv, .inl (cA, 128, .inl V)), (cm, .inl (cA, 128, .inl OM)), (ck, .inl (cA, 128, .inl OK)), (cv, .inl (cA, 128, .inl OV)), (ob, .inr (3, [.int (nI C), .int lim, .int v.1, .int v.2.1, .int v.2.2.1, .int v.2.2.2, .ref bw, .long (jn (Wd 0) (Wd 1)), .long (jn (Wd 2) (Wd 3)), .long k2, .long l2, .ref bm, .ref bk, .ref bv, .int mv, .ref cm, .ref ck, .ref cv, .int lo, .int ti, .long y1.1, .long y1.2.1, .long y1.2.2.1, .long y1.2.2.2]))] := hD
      have hP := hP.sub (ws' := [(ob, .inr (3, [.int (nI C), .int lim, .int v.1, .int v.2.1, .int v.2.2.1, .int v.2.2.2, .ref bw, .long (jn (Wd 0) (Wd 1)), .long (jn (Wd 2) (Wd 3)), .long k2, .long l2, .ref bm, .ref bk, .ref bv, .int mv, .ref cm, .ref ck, .ref cv, .int lo, .int ti, .long y1.1, .long y1.2.1, .long y1.2.2.1, .long y1.2.2.2])), (bw, .inl (cA, 4, .inl Wq)), (bm, .inl (cA, 128, .inl M)), (bk, .inl (cA, 128, .inl K)), (bv, .inl (cA, 128, .inl V)), (cm, .inl (cA, 128, .inl OM)), (ck, .inl (cA, 128, .inl OK)), (cv, .inl (cA, 128, .inl OV))]) [7, 0, 1, 2, 3, 4, 5, 6] rfl
      have hD := hD.sub (ws' := [(ob, .inr (3, [.int (nI C), .int lim, .int v.1, .int v.2.1, .int v.2.2.1, .int v.2.2.2, .ref bw, .long (jn (Wd 0) (Wd 1)), .long (jn (Wd 2) (Wd 3)), .long k2, .long l2, .ref bm, .ref bk, .ref bv, .int mv, .ref cm, .ref ck, .ref cv, .int lo, .int ti, .long y1.1, .long y1.2.1, .long y1.2.2.1, .long y1.2.2.2])), (bw, .inl (cA, 4, .inl Wq)), (bm, .inl (cA, 128, .inl M)), (bk, .inl (cA, 128, .inl K)), (bv, .inl (cA, 128, .inl V)), (cm, .inl (cA, 128, .inl OM)), (ck, .inl (cA, 128, .inl OK)), (cv, .inl (cA, 128, .inl OV))]) [7, 0, 1, 2, 3, 4, 5, 6] (by decide) rfl
      subst hq
      refine lv_ldc2 hx hb hown (hts _ wk_392) d_Model_sum_41 ?_
      refine lv_aload_n hx hb d_Model_sum_44 rfl (lv_at hl 0 rfl) ?_
      refine va_get (ci := 3) (C := R_Model) (T := F_Model) (N := 24) hx hb hts in_Model hown hK hP 0 rfl rfl 13 (by decide) (hts _ wk_249) (fun _ h => h) rfl d_Model_sum_45 ?_
      refine lv_iload_n hx hb d_Model_sum_48 rfl (lv_at hl 2 rfl) ?_
      refine ia_ld (i := j) hx hb hK hP 4 rfl rfl (by omega) (by omega) d_Model_sum_49 ?_
      refine lv_i2l hx hb d_Model_sum_50 (v := (V j).toInt64) rfl ?_
      refine lv_lmul hx hb d_Model_sum_51 ?_
      refine lv_lconst hx hb d_Model_sum_52 (v := 1) rfl ?_
      refine lv_ladd hx hb d_Model_sum_53 ?_
      refine lv_lmul hx hb d_Model_sum_54 ?_
      refine W.eq (g2 := F0 m 55 ls [.long ((hs (jn (Wd 0) (Wd 1)) (jn (Wd 2) (Wd 3)) (K j)) * ((2 * ((V j).toInt64)) + 1)), .long (smr Wd M K V OM OK OV j)]) rfl ?_
      refine lv_ladd hx hb d_Model_sum_55 ?_
      refine lv_asL (y := smr Wd M K V OM OK OV j + (if M j = 1 then hwd Wd (K j) * (2 * (V j).toInt64 + 1) else 0)) (by rw [if_pos hc19]; rfl) ?_
      refine lv_lstore_n hx hb d_Model_sum_56 rfl hl (by decide) rfl (fun ls hl => ?_)
      have hl : lv_has ls 4 [(1, .long (smr Wd M K V OM OK OV j + (if M j = 1 then hwd Wd (K j) * (2 * (V j).toInt64 + 1) else 0))), (0, .ref ob), (3, .int (nI j))] := hl
      refine lv_aload_n hx hb d_Model_sum_57 rfl (lv_at hl 1 rfl) ?_
      refine va_get (ci := 3) (C := R_Model) (T := F_Model) (N := 24) hx hb hts in_Model hown hK hP 0 rfl rfl 14 (by decide) (hts _ wk_250) (fun _ h => h) rfl d_Model_sum_58 ?_
      refine lv_if_eq hx hb d_Model_sum_61 (tgt := 109) rfl (fun hc61 => ?_) (fun hc61 => ?_)
      · skip
        rw [show smr Wd M K V OM OK OV j + (if M j = 1 then hwd Wd (K j) * (2 * (V j).toInt64 + 1) else 0) = smr Wd M K V OM OK OV (j + 1) by rw [smr, if_neg (cnt_zero C (hmv hc61) j (by omega)), Int64.add_zero]] at hl
        refine lv_iinc hx hb d_Model_sum_109 hl (k := 2) rfl (v := nI (j + 1)) (nI_1 _) (by decide) rfl (fun ls hl => ?_)
        have hl : lv_has ls 4 [(3, .int (nI (j + 1))), (1, .long (smr Wd M K V OM OK OV (j + 1))), (0, .ref ob)] := hl
        refine lv_goto hx hb d_Model_sum_112 (tgt := 4) rfl ?_
        exact ih4 (j + 1) y1 ls _ _ ⟨by omega, lv_sub hl [2, 1, 0] rfl, hP, hD, hS⟩ (by omega)
      · skip
        refine lv_aload_n hx hb d_Model_sum_64 rfl (lv_at hl 1 rfl) ?_
        refine va_get (ci := 3) (C := R_Model) (T := F_Model) (N := 24) hx hb hts in_Model hown hK hP 0 rfl rfl 15 (by decide) (hts _ wk_251) (fun _ h => h) rfl d_Model_sum_65 ?_
        refine lv_iload_n hx hb d_Model_sum_68 rfl (lv_at hl 2 rfl) ?_
        refine ia_ld (i := j) hx hb hK hP 5 rfl rfl (by omega) (by omega) d_Model_sum_69 ?_
        refine lv_iconst hx hb d_Model_sum_70 (v := 1) rfl ?_
        refine lv_icmp_ne hx hb d_Model_sum_71 (tgt := 109) rfl (fun hc71 => ?_) (fun hc71 => ?_)
        · skip
          rw [show smr Wd M K V OM OK OV j + (if M j = 1 then hwd Wd (K j) * (2 * (V j).toInt64 + 1) else 0) = smr Wd M K V OM OK OV (j + 1) by rw [smr, if_neg hc71, Int64.add_zero]] at hl
          refine lv_iinc hx hb d_Model_sum_109 hl (k := 2) rfl (v := nI (j + 1)) (nI_1 _) (by decide) rfl (fun ls hl => ?_)
          have hl : lv_has ls 4 [(3, .int (nI (j + 1))), (1, .long (smr Wd M K V OM OK OV (j + 1))), (0, .ref ob)] := hl
          refine lv_goto hx hb d_Model_sum_112 (tgt := 4) rfl ?_
          exact ih4 (j + 1) y1 ls _ _ ⟨by omega, lv_sub hl [2, 1, 0] rfl, hP, hD, hS⟩ (by omega)
        · skip
          refine lv_lload_n hx hb d_Model_sum_74 rfl (lv_at hl 0 rfl) ?_
          refine lv_aload_n hx hb d_Model_sum_75 rfl (lv_at hl 1 rfl) ?_
          refine lv_aload_n hx hb d_Model_sum_76 rfl (lv_at hl 1 rfl) ?_
          refine va_get (ci := 3) (C := R_Model) (T := F_Model) (N := 24) hx hb hts in_Model hown hK hP 0 rfl rfl 7 (by decide) (hts _ wk_243) (fun _ h => h) rfl d_Model_sum_77 ?_
          refine lv_aload_n hx hb d_Model_sum_80 rfl (lv_at hl 1 rfl) ?_
          refine W.eq (g2 := F0 m 81 ls [.ref ob, .long (jn (Wd 0) (Wd 1)), .ref ob, .long (smr Wd M K V OM OK OV j + (if M j = 1 then hwd Wd (K j) * (2 * (V j).toInt64 + 1) else 0))]) rfl ?_
          refine va_get (ci := 3) (C := R_Model) (T := F_Model) (N := 24) hx hb hts in_Model hown hK hP 0 rfl rfl 8 (by decide) (hts _ wk_244) (fun _ h => h) rfl d_Model_sum_81 ?_
          refine lv_aload_n hx hb d_Model_sum_84 rfl (lv_at hl 1 rfl) ?_
          refine va_get (ci := 3) (C := R_Model) (T := F_Model) (N := 24) hx hb hts in_Model hown hK hP 0 rfl rfl 16 (by decide) (hts _ wk_252) (fun _ h => h) rfl d_Model_sum_85 ?_
          refine lv_iload_n hx hb d_Model_sum_88 rfl (lv_at hl 2 rfl) ?_
          refine ia_ld (i := j) hx hb hK hP 6 rfl rfl (by omega) (by omega) d_Model_sum_89 ?_
          refine rw_l (wc := [(ob, .inr (3, [.int (nI C), .int lim, .int v.1, .int v.2.1, .int v.2.2.1, .int v.2.2.2, .ref bw, .long (jn (Wd 0) (Wd 1)), .long (jn (Wd 2) (Wd 3)), .long k2, .long l2, .ref bm, .ref bk, .ref bv, .int mv, .ref cm, .ref ck, .ref cv, .int lo, .int ti, .long y1.1, .long y1.2.1, .long y1.2.2.1, .long y1.2.2.2]))]) (wr := [(bw, .inl (cA, 4, .inl Wq)), (bm, .inl (cA, 128, .inl M)), (bk, .inl (cA, 128, .inl K)), (bv, .inl (cA, 128, .inl V)), (cm, .inl (cA, 128, .inl OM)), (ck, .inl (cA, 128, .inl OK)), (cv, .inl (cA, 128, .inl OV))]) hP hD hS hA (va_runV (As := [.long (jn (Wd 0) (Wd 1)), .long (jn (Wd 2) (Wd 3)), .int (OK j)]) (rest := [.long (smr Wd M K V OM OK OV j + (if M j = 1 then hwd Wd (K j) * (2 * (V j).toInt64 + 1) else 0))]) ⟨hx, hb, hml, hown, hts⟩ (c_hash l _ (jn (Wd 0) (Wd 1)) (jn (Wd 2) (Wd 3)) (OK j)) (cwV 3 hts g_Model_114 rfl rfl rfl (by decide +kernel) ⟨Nat.le_of_ble_eq_true rfl, Nat.le_of_ble_eq_true rfl⟩) ⟨bl_RW, va_recv (q0 := 0) hK hP rfl rfl, pr_RW hK hP hD [0] rfl (by decide) rfl⟩ rfl rfl hl.1 rfl (lv_room (Nat.le_of_ble_eq_true rfl)) d_Model_sum_90 ⟨Nat.zero_le _, Nat.zero_le _⟩) [0] [1, 2, 3, 4, 5, 6, 7] rfl rfl (by decide) (by decide) (fun rh y2 H locs hq hP hD hS => ?_)
          have hP : va_P (dC, dI) cls [(bw, .inl (cA, 4, .inl Wq)), (bm, .inl (cA, 128, .inl M)), (bk, .inl (cA, 128, .inl K)), (bv, .inl (cA, 128, .inl V)), (cm, .inl (cA, 128, .inl OM)), (ck, .inl (cA, 128, .inl OK)), (cv, .inl (cA, 128, .inl OV)), (ob, .inr (3, [.int (nI C), .int lim, .int v.1, .int v.2.1, .int v.2.2.1, .int v.2.2.2, .ref bw, .long (jn (Wd 0) (Wd 1)), .long (jn (Wd 2) (Wd 3)), .long k2, .long l2, .ref bm, .ref bk, .ref bv, .int mv, .ref cm, .ref ck, .ref cv, .int lo, .int ti, .long y2.1, .long y2.2.1, .long y2.2.2.1, .long y2.2.2.2]))] H := hP
          have hD : va_D A [(bw, .inl (cA, 4, .inl Wq)), (bm, .inl (cA, 128, .inl M)), (bk, .inl (cA, 128, .inl K)), (bv, .inl (cA, 128, .inl V)), (cm, .inl (cA, 128, .inl OM)), (ck, .inl (cA, 128, .inl OK)), (cv, .inl (cA, 128, .inl OV)), (ob, .inr (3, [.int (nI C), .int lim, .int v.1, .int v.2.1, .int v.2.2.1, .int v.2.2.2, .ref bw, .long (jn (Wd 0) (Wd 1)), .long (jn (Wd 2) (Wd 3)), .long k2, .long l2, .ref bm, .ref bk, .ref bv, .int mv, .ref cm, .ref ck, .ref cv, .int lo, .int ti, .long y2.1, .long y2.2.1, .long y2.2.2.1, .long y2.2.2.2]))] := hD
          have hP := hP.sub (ws' := [(ob, .inr (3, [.int (nI C), .int lim, .int v.1, .int v.2.1, .int v.2.2.1, .int v.2.2.2, .ref bw, .long (jn (Wd 0) (Wd 1)), .long (jn (Wd 2) (Wd 3)), .long k2, .long l2, .ref bm, .ref bk, .ref bv, .int mv, .ref cm, .ref ck, .ref cv, .int lo, .int ti, .long y2.1, .long y2.2.1, .long y2.2.2.1, .long y2.2.2.2])), (bw, .inl (cA, 4, .inl Wq)), (bm, .inl (cA, 128, .inl M)), (bk, .inl (cA, 128, .inl K)), (bv, .inl (cA, 128, .inl V)), (cm, .inl (cA, 128, .inl OM)), (ck, .inl (cA, 128, .inl OK)), (cv, .inl (cA, 128, .inl OV))]) [7, 0, 1, 2, 3, 4, 5, 6] rfl
          have hD := hD.sub (ws' := [(ob, .inr (3, [.int (nI C), .int lim, .int v.1, .int v.2.1, .int v.2.2.1, .int v.2.2.2, .ref bw, .long (jn (Wd 0) (Wd 1)), .long (jn (Wd 2) (Wd 3)), .long k2, .long l2, .ref bm, .ref bk, .ref bv, .int mv, .ref cm, .ref ck, .ref cv, .int lo, .int ti, .long y2.1, .long y2.2.1, .long y2.2.2.1, .long y2.2.2.2])), (bw, .inl (cA, 4, .inl Wq)), (bm, .inl (cA, 128, .inl M)), (bk, .inl (cA, 128, .inl K)), (bv, .inl (cA, 128, .inl V)), (cm, .inl (cA, 128, .inl OM)), (ck, .inl (cA, 128, .inl OK)), (cv, .inl (cA, 128, .inl OV))]) [7, 0, 1, 2, 3, 4, 5, 6] (by decide) rfl
          subst hq
          refine lv_ldc2 hx hb hown (hts _ wk_392) d_Model_sum_93 ?_
          refine lv_aload_n hx hb d_Model_sum_96 rfl (lv_at hl 1 rfl) ?_
          refine va_get (ci := 3) (C := R_Model) (T := F_Model) (N := 24) hx hb hts in_Model hown hK hP 0 rfl rfl 17 (by decide) (hts _ wk_253) (fun _ h => h) rfl d_Model_sum_97 ?_
          refine lv_iload_n hx hb d_Model_sum_100 rfl (lv_at hl 2 rfl) ?_
          refine ia_ld (i := j) hx hb hK hP 7 rfl rfl (by omega) (by omega) d_Model_sum_101 ?_
          refine lv_i2l hx hb d_Model_sum_102 (v := (OV j).toInt64) rfl ?_
          refine lv_lmul hx hb d_Model_sum_103 ?_
          refine lv_lconst hx hb d_Model_sum_104 (v := 1) rfl ?_
          refine lv_ladd hx hb d_Model_sum_105 ?_
          refine lv_lmul hx hb d_Model_sum_106 ?_
          refine W.eq (g2 := F0 m 107 ls [.long ((hs (jn (Wd 0) (Wd 1)) (jn (Wd 2) (Wd 3)) (OK j)) * ((2 * ((OV j).toInt64)) + 1)), .long (smr Wd M K V OM OK OV j + (if M j = 1 then hwd Wd (K j) * (2 * (V j).toInt64 + 1) else 0))]) rfl ?_
          refine lv_ladd hx hb d_Model_sum_107 ?_
          refine lv_asL (y := smr Wd M K V OM OK OV (j + 1)) (by rw [smr, if_pos hc71]; rfl) ?_
          refine lv_lstore_n hx hb d_Model_sum_108 rfl hl (by decide) rfl (fun ls hl => ?_)
          have hl : lv_has ls 4 [(1, .long (smr Wd M K V OM OK OV (j + 1))), (0, .ref ob), (3, .int (nI j))] := hl
          refine lv_iinc hx hb d_Model_sum_109 hl (k := 2) rfl (v := nI (j + 1)) (nI_1 _) (by decide) rfl (fun ls hl => ?_)
          have hl : lv_has ls 4 [(3, .int (nI (j + 1))), (1, .long (smr Wd M K V OM OK OV (j + 1))), (0, .ref ob)] := hl
          refine lv_goto hx hb d_Model_sum_112 (tgt := 4) rfl ?_
          exact ih4 (j + 1) y2 ls _ _ ⟨by omega, lv_sub hl [2, 1, 0] rfl, hP, hD, hS⟩ (by omega)
