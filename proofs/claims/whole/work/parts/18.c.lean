set_option maxHeartbeats 4000000 in
set_option maxRecDepth 100000 in
theorem c_close (l : Launch) {dC : Nat → ClassId} {dI : Nat → Nat → Nat} {cA : ClassId} (sz : Nat) {ob bw bm bk bv cm ck cv C : Nat} {lim lo ti mv : Int32} {v : Int32 × Int32 × Int32 × Int32} {k1 l1 k2 l2 : Int64} {z : Int64 × Int64 × Int64 × Int64} {M K V Wd OM OK OV : Nat → Int32} (hC : szC C) (fr : Nat) (hfr : fr < C) (h01 : ∀ a, a < C → M a = 0 ∨ M a = 1) (hmk1 : M fr = 1) (hfe : ∃ j, j < C ∧ M j = 0) : Met l y_Model_close (.code y_Model_close b_Model_close 7 none :: BG) ({ frames := 4, cells := 0, slots := 0, locals := 91 }) (pRW dC dI cA [.ref ob, .int (nI fr)] [(ob, .inr (3, [.int (nI C), .int lim, .int v.1, .int v.2.1, .int v.2.2.1, .int v.2.2.2, .ref bw, .long k1, .long l1, .long k2, .long l2, .ref bm, .ref bk, .ref bv, .int mv, .ref cm, .ref ck, .ref cv, .int lo, .int ti, .long z.1, .long z.2.1, .long z.2.2.1, .long z.2.2.2])), (bw, .inl (cA, 4, .inl Wd)), (bm, .inl (cA, 128, .inl M)), (bk, .inl (cA, 128, .inl K)), (bv, .inl (cA, 128, .inl V)), (cm, .inl (cA, 128, .inl OM)), (ck, .inl (cA, 128, .inl OK)), (cv, .inl (cA, 128, .inl OV))] sz) (va_Qv (fun (u : Int64 × Int64 × Int64 × Int64) => True) (fun (u : Int64 × Int64 × Int64 × Int64) tS => wdB dC dI cA (va_A [(ob, .inr (3, [.int (nI C), .int lim, .int v.1, .int v.2.1, .int v.2.2.1, .int v.2.2.2, .ref bw, .long k1, .long l1, .long k2, .long l2, .ref bm, .ref bk, .ref bv, .int mv, .ref cm, .ref ck, .ref cv, .int lo, .int ti, .long z.1, .long z.2.1, .long z.2.2.1, .long z.2.2.2])), (bw, .inl (cA, 4, .inl Wd)), (bm, .inl (cA, 128, .inl M)), (bk, .inl (cA, 128, .inl K)), (bv, .inl (cA, 128, .inl V)), (cm, .inl (cA, 128, .inl OM)), (ck, .inl (cA, 128, .inl OK)), (cv, .inl (cA, 128, .inl OV))] sz) [(ob, .inr (3, [.int (nI C), .int lim, .int v.1, .int v.2.1, .int v.2.2.1, .int v.2.2.2, .ref bw, .long k1, .long l1, .long k2, .long l2, .ref bm, .ref bk, .ref bv, .int mv, .ref cm, .ref ck, .ref cv, .int lo, .int ti, .long u.1, .long u.2.1, .long u.2.2.1, .long u.2.2.2])), (bw, .inl (cA, 4, .inl Wd)), (bm, .inl (cA, 128, .inl ((tk C (hmk C k1 l1) fr (C - 1) 1 (upd M fr 0) K V fr).1))), (bk, .inl (cA, 128, .inl ((tk C (hmk C k1 l1) fr (C - 1) 1 (upd M fr 0) K V fr).2.1))), (bv, .inl (cA, 128, .inl ((tk C (hmk C k1 l1) fr (C - 1) 1 (upd M fr 0) K V fr).2.2))), (cm, .inl (cA, 128, .inl OM)), (ck, .inl (cA, 128, .inl OK)), (cv, .inl (cA, 128, .inl OV))] tS) (va_A [(ob, .inr (3, [.int (nI C), .int lim, .int v.1, .int v.2.1, .int v.2.2.1, .int v.2.2.2, .ref bw, .long k1, .long l1, .long k2, .long l2, .ref bm, .ref bk, .ref bv, .int mv, .ref cm, .ref ck, .ref cv, .int lo, .int ti, .long z.1, .long z.2.1, .long z.2.2.1, .long z.2.2.2])), (bw, .inl (cA, 4, .inl Wd)), (bm, .inl (cA, 128, .inl M)), (bk, .inl (cA, 128, .inl K)), (bv, .inl (cA, 128, .inl V)), (cm, .inl (cA, 128, .inl OM)), (ck, .inl (cA, 128, .inl OK)), (cv, .inl (cA, 128, .inl OV))] sz)) 0 0 (va_A [(ob, .inr (3, [.int (nI C), .int lim, .int v.1, .int v.2.1, .int v.2.2.1, .int v.2.2.2, .ref bw, .long k1, .long l1, .long k2, .long l2, .ref bm, .ref bk, .ref bv, .int mv, .ref cm, .ref ck, .ref cv, .int lo, .int ti, .long z.1, .long z.2.1, .long z.2.2.1, .long z.2.2.2])), (bw, .inl (cA, 4, .inl Wd)), (bm, .inl (cA, 128, .inl M)), (bk, .inl (cA, 128, .inl K)), (bv, .inl (cA, 128, .inl V)), (cm, .inl (cA, 128, .inl OM)), (ck, .inl (cA, 128, .inl OK)), (cv, .inl (cA, 128, .inl OV))] sz) := by
  refine Met.ofW (cc := b_Model_close) (maxL := 7) (ret := none) (by decide) rfl ?_
  intro p e s m args below meth c s₁ B hml hv
  obtain ⟨rfl, hsz, hP, hK, hD0⟩ := hv
  have hx := B.exec
  have hb := B.bytes
  have hr := B.returns
  have hts : ∀ w ∈ BG, w.before _ s = true := fun w h => atoms_spec (ws := .code y_Model_close b_Model_close 7 none :: BG) B.pre w (List.mem_cons_of_mem _ h)
  have hown : s.vm.findClass R_Model = some m.cls := findClass_of_methodNamed B.named
  have hlocks := B.notSynchronized
  subst hsz
  have hD := hD0.self (sz := s.heap.size)
  generalize hAe : va_A [(ob, .inr (3, [.int (nI C), .int lim, .int v.1, .int v.2.1, .int v.2.2.1, .int v.2.2.2, .ref bw, .long k1, .long l1, .long k2, .long l2, .ref bm, .ref bk, .ref bv, .int mv, .ref cm, .ref ck, .ref cv, .int lo, .int ti, .long z.1, .long z.2.1, .long z.2.2.1, .long z.2.2.2])), (bw, .inl (cA, 4, .inl Wd)), (bm, .inl (cA, 128, .inl M)), (bk, .inl (cA, 128, .inl K)), (bv, .inl (cA, 128, .inl V)), (cm, .inl (cA, 128, .inl OM)), (ck, .inl (cA, 128, .inl OK)), (cv, .inl (cA, 128, .inl OV))] s.heap.size = A at hD ⊢
  have hA : ∀ q : Nat, s.heap.size ≤ q → A q := fun q h => by rw [← hAe]; exact Or.inr h
  have hS : va_S A s.heap s.heap [] := va_S.rf
  have hP : va_P (dC, dI) cls [(ob, .inr (3, [.int (nI C), .int lim, .int v.1, .int v.2.1, .int v.2.2.1, .int v.2.2.2, .ref bw, .long k1, .long l1, .long k2, .long l2, .ref bm, .ref bk, .ref bv, .int mv, .ref cm, .ref ck, .ref cv, .int lo, .int ti, .long z.1, .long z.2.1, .long z.2.2.1, .long z.2.2.2])), (bw, .inl (cA, 4, .inl Wd)), (bm, .inl (cA, 128, .inl M)), (bk, .inl (cA, 128, .inl K)), (bv, .inl (cA, 128, .inl V)), (cm, .inl (cA, 128, .inl OM)), (ck, .inl (cA, 128, .inl OK)), (cv, .inl (cA, 128, .inl OV))] s.heap := hP
  have hl := lv_entry ([.ref ob, .int (nI fr)]) (n := 7) (Nat.le_of_ble_eq_true rfl)
  rw [lg_entry_eq]
  generalize (lg_sl ([.ref ob, .int (nI fr)]) ++ List.replicate (7 - (lg_sl ([.ref ob, .int (nI fr)])).length) Slot.unset).toArray = ls at hl ⊢
  have hl : lv_has ls 7 [(0, .ref ob), (1, .int (nI fr))] := hl
  have hlo := hC.lo
  have hhi := hC.hi
  obtain ⟨i0, hi1, hi2, hi3⟩ := free_ahead hC hfr hmk1 hfe
  refine lv_iload_n hx hb d_Model_close_0 rfl (lv_at hl 1 rfl) ?_
  refine lv_istore_n hx hb d_Model_close_1 rfl hl (by decide) rfl (fun ls hl => ?_)
  have hl : lv_has ls 7 [(2, .int (nI fr)), (0, .ref ob), (1, .int (nI fr))] := hl
  refine lv_aload_n hx hb d_Model_close_2 rfl (lv_at hl 1 rfl) ?_
  refine va_get (ci := 3) (C := R_Model) (T := F_Model) (N := 24) hx hb hts in_Model hown hK hP 0 rfl rfl 11 (by decide) (hts _ wk_247) (fun _ h => h) rfl d_Model_close_3 ?_
  refine lv_iload_n hx hb d_Model_close_6 rfl (lv_at hl 0 rfl) ?_
  refine lv_iconst hx hb d_Model_close_7 (v := 0) rfl ?_
  refine ia_st (i := fr) hx hb hK hP hD hS 2 rfl rfl (by omega) (by omega) d_Model_close_8 (fun H locs hP hD hS => ?_)
  have hP : va_P (dC, dI) cls [(ob, .inr (3, [.int (nI C), .int lim, .int v.1, .int v.2.1, .int v.2.2.1, .int v.2.2.2, .ref bw, .long k1, .long l1, .long k2, .long l2, .ref bm, .ref bk, .ref bv, .int mv, .ref cm, .ref ck, .ref cv, .int lo, .int ti, .long z.1, .long z.2.1, .long z.2.2.1, .long z.2.2.2])), (bw, .inl (cA, 4, .inl Wd)), (bm, .inl (cA, 128, .inl (upd M fr 0))), (bk, .inl (cA, 128, .inl K)), (bv, .inl (cA, 128, .inl V)), (cm, .inl (cA, 128, .inl OM)), (ck, .inl (cA, 128, .inl OK)), (cv, .inl (cA, 128, .inl OV))] H := hP
  have hD : va_D A [(ob, .inr (3, [.int (nI C), .int lim, .int v.1, .int v.2.1, .int v.2.2.1, .int v.2.2.2, .ref bw, .long k1, .long l1, .long k2, .long l2, .ref bm, .ref bk, .ref bv, .int mv, .ref cm, .ref ck, .ref cv, .int lo, .int ti, .long z.1, .long z.2.1, .long z.2.2.1, .long z.2.2.2])), (bw, .inl (cA, 4, .inl Wd)), (bm, .inl (cA, 128, .inl (upd M fr 0))), (bk, .inl (cA, 128, .inl K)), (bv, .inl (cA, 128, .inl V)), (cm, .inl (cA, 128, .inl OM)), (ck, .inl (cA, 128, .inl OK)), (cv, .inl (cA, 128, .inl OV))] := hD
  refine lv_iconst hx hb d_Model_close_9 (v := (nI 1)) rfl ?_
  refine lv_istore_n hx hb d_Model_close_10 rfl hl (by decide) rfl (fun ls hl => ?_)
  have hl : lv_has ls 7 [(3, .int (nI 1)), (2, .int (nI fr)), (0, .ref ob), (1, .int (nI fr))] := hl
  refine W.eq (g2 := F0 m 11 ls []) rfl ?_
  refine lq6 (fun (n : Nat) (ho : Nat) (M1 : Nat → Int32) (K1 : Nat → Int32) (V1 : Nat → Int32) (zz : Int64 × Int64 × Int64 × Int64) => C - n) (fun (n : Nat) (ho : Nat) (M1 : Nat → Int32) (K1 : Nat → Int32) (V1 : Nat → Int32) (zz : Int64 × Int64 × Int64 × Int64) ls H locs => (n ≤ i0) ∧ (1 ≤ n) ∧ (ho < C) ∧ (∃ n1, n1 < n ∧ ho = (fr + n1) % C) ∧ (tk C (hmk C k1 l1) fr (C - n) n M1 K1 V1 ho = tk C (hmk C k1 l1) fr (C - 1) 1 (upd M fr 0) K V fr) ∧ (M1 ((fr + i0) % C) = 0) ∧ (∀ a, a < C → M1 a = 0 ∨ M1 a = 1) ∧ lv_has ls 7 [(0, .ref ob), (1, .int (nI fr)), (2, .int (nI ho)), (3, .int (nI n))] ∧ va_P (dC, dI) cls [(ob, .inr (3, [.int (nI C), .int lim, .int v.1, .int v.2.1, .int v.2.2.1, .int v.2.2.2, .ref bw, .long k1, .long l1, .long k2, .long l2, .ref bm, .ref bk, .ref bv, .int mv, .ref cm, .ref ck, .ref cv, .int lo, .int ti, .long zz.1, .long zz.2.1, .long zz.2.2.1, .long zz.2.2.2])), (bw, .inl (cA, 4, .inl Wd)), (bm, .inl (cA, 128, .inl M1)), (bk, .inl (cA, 128, .inl K1)), (bv, .inl (cA, 128, .inl V1)), (cm, .inl (cA, 128, .inl OM)), (ck, .inl (cA, 128, .inl OK)), (cv, .inl (cA, 128, .inl OV))] H ∧ va_D A [(ob, .inr (3, [.int (nI C), .int lim, .int v.1, .int v.2.1, .int v.2.2.1, .int v.2.2.2, .ref bw, .long k1, .long l1, .long k2, .long l2, .ref bm, .ref bk, .ref bv, .int mv, .ref cm, .ref ck, .ref cv, .int lo, .int ti, .long zz.1, .long zz.2.1, .long zz.2.2.1, .long zz.2.2.2])), (bw, .inl (cA, 4, .inl Wd)), (bm, .inl (cA, 128, .inl M1)), (bk, .inl (cA, 128, .inl K1)), (bv, .inl (cA, 128, .inl V1)), (cm, .inl (cA, 128, .inl OM)), (ck, .inl (cA, 128, .inl OK)), (cv, .inl (cA, 128, .inl OV))] ∧ va_S A s.heap H locs) (fun n ho M1 K1 V1 zz ls H locs hE ih11 => ?_) 1 fr (upd M fr 0) K V z ls _ _ ⟨hi1, Nat.le_refl _, hfr, ⟨0, by omega, by rw [Nat.add_zero, Nat.mod_eq_of_lt hfr]⟩, rfl, by rw [pk_un (fun e => by rw [e, hmk1] at hi3; exact absurd hi3 (by decide))]; exact hi3, fun a ha => by
      by_cases e : a = fr
      · rw [e, pk_us]; exact Or.inl rfl
      · rw [pk_un e]; exact h01 a ha, lv_sub hl [2, 3, 1, 0] rfl, hP, hD, hS⟩
  obtain ⟨hn, hn0, hho, hoi, hZ, hfz, h01, hl, hP, hD, hS⟩ := hE
  obtain ⟨n1, hn2, hn1⟩ := hoi
  rw [show C - n = (C - (n + 1)) + 1 by omega, tk] at hZ
  obtain ⟨k, hk⟩ : ∃ k, k = (fr + n) % C := ⟨_, rfl⟩
  have hkC : k < C := by rw [hk]; exact md_lt hC
  have hkne : k ≠ ho := by rw [hk, hn1]; exact off_ne hC (by omega) (by omega) (by omega)
  rw [← hk] at hZ
  have hhk := hmk_lt hC k1 l1 (K1 k)
  refine lv_aload_n hx hb d_Model_close_11 rfl (lv_at hl 0 rfl) ?_
  refine va_get (ci := 3) (C := R_Model) (T := F_Model) (N := 24) hx hb hts in_Model hown hK hP 0 rfl rfl 11 (by decide) (hts _ wk_247) (fun _ h => h) rfl d_Model_close_12 ?_
  refine lv_iload_n hx hb d_Model_close_15 rfl (lv_at hl 1 rfl) ?_
  refine lv_iload_n hx hb d_Model_close_16 rfl (lv_at hl 3 rfl) ?_
  refine lv_iadd hx hb d_Model_close_17 ?_
  refine lv_asI (y := nI (fr + n)) (nI_add _ _) ?_
  refine lv_aload_n hx hb d_Model_close_18 rfl (lv_at hl 0 rfl) ?_
  refine va_get (ci := 3) (C := R_Model) (T := F_Model) (N := 24) hx hb hts in_Model hown hK hP 0 rfl rfl 0 (by decide) (hts _ wk_236) (fun _ h => h) rfl d_Model_close_19 ?_
  refine lv_irem hx hb d_Model_close_22 (nI_C0 hC) ?_
  refine lv_asI (y := nI k) ((nI_rem hC (by omega)).trans (by rw [← hk])) ?_
  refine ia_ld (i := k) hx hb hK hP 2 rfl rfl (by omega) (by omega) d_Model_close_23 ?_
  refine lv_if_eq hx hb d_Model_close_24 (tgt := 135) rfl (fun hc24 => ?_) (fun hc24 => ?_)
  · skip
    rw [if_pos hc24] at hZ
    exact W.vret hx hb hr (fun tS ht hW => ⟨⟨zz, rfl, trivial, by rw [ht]; exact (by rw [← hZ]; exact hP), va_K.moved hW.alike hK, (by rw [← hZ]; exact hD)⟩, hS.F ht⟩) hS.2.2 d_Model_close_135 hlocks
  · skip
    rw [if_neg hc24] at hZ
    have hne : n ≠ i0 := fun e => hc24 (by rw [hk, e]; exact hfz)
    refine lv_iload_n hx hb d_Model_close_27 rfl (lv_at hl 1 rfl) ?_
    refine lv_iload_n hx hb d_Model_close_28 rfl (lv_at hl 3 rfl) ?_
    refine lv_iadd hx hb d_Model_close_29 ?_
    refine lv_asI (y := nI (fr + n)) (nI_add _ _) ?_
    refine lv_aload_n hx hb d_Model_close_30 rfl (lv_at hl 0 rfl) ?_
    refine va_get (ci := 3) (C := R_Model) (T := F_Model) (N := 24) hx hb hts in_Model hown hK hP 0 rfl rfl 0 (by decide) (hts _ wk_236) (fun _ h => h) rfl d_Model_close_31 ?_
    refine W.eq (g2 := F0 m 34 ls [.int (nI C), .int (nI (fr + n))]) rfl ?_
    refine lv_irem hx hb d_Model_close_34 (nI_C0 hC) ?_
    refine lv_asI (y := nI k) ((nI_rem hC (by omega)).trans (by rw [← hk])) ?_
    refine lv_istore hx hb d_Model_close_35 hl (by decide) rfl (fun ls hl => ?_)
    have hl : lv_has ls 7 [(4, .int (nI k)), (0, .ref ob), (1, .int (nI fr)), (2, .int (nI ho)), (3, .int (nI n))] := hl
    refine lv_aload_n hx hb d_Model_close_37 rfl (lv_at hl 1 rfl) ?_
    refine lv_aload_n hx hb d_Model_close_38 rfl (lv_at hl 1 rfl) ?_
    refine va_get (ci := 3) (C := R_Model) (T := F_Model) (N := 24) hx hb hts in_Model hown hK hP 0 rfl rfl 12 (by decide) (hts _ wk_248) (fun _ h => h) rfl d_Model_close_39 ?_
    refine lv_iload hx hb d_Model_close_42 (lv_at hl 0 rfl) ?_
    refine ia_ld (i := k) hx hb hK hP 3 rfl rfl (by omega) (by omega) d_Model_close_44 ?_
    refine rw_i (wc := [(ob, .inr (3, [.int (nI C), .int lim, .int v.1, .int v.2.1, .int v.2.2.1, .int v.2.2.2, .ref bw, .long k1, .long l1, .long k2, .long l2, .ref bm, .ref bk, .ref bv, .int mv, .ref cm, .ref ck, .ref cv, .int lo, .int ti, .long zz.1, .long zz.2.1, .long zz.2.2.1, .long zz.2.2.2]))]) (wr := [(bw, .inl (cA, 4, .inl Wd)), (bm, .inl (cA, 128, .inl M1)), (bk, .inl (cA, 128, .inl K1)), (bv, .inl (cA, 128, .inl V1)), (cm, .inl (cA, 128, .inl OM)), (ck, .inl (cA, 128, .inl OK)), (cv, .inl (cA, 128, .inl OV))]) hP hD hS hA (va_runV (As := [.int (K1 k)]) (rest := []) ⟨hx, hb, hml, hown, hts⟩ (c_home l _ hC (K1 k)) (cwV 1 hts g_Model_118 rfl rfl rfl (by decide +kernel) ⟨Nat.le_of_ble_eq_true rfl, Nat.le_of_ble_eq_true rfl⟩) ⟨bl_RW, va_recv (q0 := 0) hK hP rfl rfl, pr_RW hK hP hD [0] rfl (by decide) rfl⟩ rfl rfl hl.1 rfl (lv_room (Nat.le_of_ble_eq_true rfl)) d_Model_close_45 ⟨Nat.zero_le _, Nat.zero_le _⟩) [0] [1, 2, 3, 4, 5, 6, 7] rfl rfl (by decide) (by decide) (fun rh y2 H locs hq hP hD hS => ?_)
    have hP : va_P (dC, dI) cls [(bw, .inl (cA, 4, .inl Wd)), (bm, .inl (cA, 128, .inl M1)), (bk, .inl (cA, 128, .inl K1)), (bv, .inl (cA, 128, .inl V1)), (cm, .inl (cA, 128, .inl OM)), (ck, .inl (cA, 128, .inl OK)), (cv, .inl (cA, 128, .inl OV)), (ob, .inr (3, [.int (nI C), .int lim, .int v.1, .int v.2.1, .int v.2.2.1, .int v.2.2.2, .ref bw, .long k1, .long l1, .long k2, .long l2, .ref bm, .ref bk, .ref bv, .int mv, .ref cm, .ref ck, .ref cv, .int lo, .int ti, .long y2.1, .long y2.2.1, .long y2.2.2.1, .long y2.2.2.2]))] H := hP
    have hD : va_D A [(bw, .inl (cA, 4, .inl Wd)), (bm, .inl (cA, 128, .inl M1)), (bk, .inl (cA, 128, .inl K1)), (bv, .inl (cA, 128, .inl V1)), (cm, .inl (cA, 128, .inl OM)), (ck, .inl (cA, 128, .inl OK)), (cv, .inl (cA, 128, .inl OV)), (ob, .inr (3, [.int (nI C), .int lim, .int v.1, .int v.2.1, .int v.2.2.1, .int v.2.2.2, .ref bw, .long k1, .long l1, .long k2, .long l2, .ref bm, .ref bk, .ref bv, .int mv, .ref cm, .ref ck, .ref cv, .int lo, .int ti, .long y2.1, .long y2.2.1, .long y2.2.2.1, .long y2.2.2.2]))] := hD
    have hP := hP.sub (ws' := [(ob, .inr (3, [.int (nI C), .int lim, .int v.1, .int v.2.1, .int v.2.2.1, .int v.2.2.2, .ref bw, .long k1, .long l1, .long k2, .long l2, .ref bm, .ref bk, .ref bv, .int mv, .ref cm, .ref ck, .ref cv, .int lo, .int ti, .long y2.1, .long y2.2.1, .long y2.2.2.1, .long y2.2.2.2])), (bw, .inl (cA, 4, .inl Wd)), (bm, .inl (cA, 128, .inl M1)), (bk, .inl (cA, 128, .inl K1)), (bv, .inl (cA, 128, .inl V1)), (cm, .inl (cA, 128, .inl OM)), (ck, .inl (cA, 128, .inl OK)), (cv, .inl (cA, 128, .inl OV))]) [7, 0, 1, 2, 3, 4, 5, 6] rfl
    have hD := hD.sub (ws' := [(ob, .inr (3, [.int (nI C), .int lim, .int v.1, .int v.2.1, .int v.2.2.1, .int v.2.2.2, .ref bw, .long k1, .long l1, .long k2, .long l2, .ref bm, .ref bk, .ref bv, .int mv, .ref cm, .ref ck, .ref cv, .int lo, .int ti, .long y2.1, .long y2.2.1, .long y2.2.2.1, .long y2.2.2.2])), (bw, .inl (cA, 4, .inl Wd)), (bm, .inl (cA, 128, .inl M1)), (bk, .inl (cA, 128, .inl K1)), (bv, .inl (cA, 128, .inl V1)), (cm, .inl (cA, 128, .inl OM)), (ck, .inl (cA, 128, .inl OK)), (cv, .inl (cA, 128, .inl OV))]) [7, 0, 1, 2, 3, 4, 5, 6] (by decide) rfl
    subst hq
    refine lv_istore hx hb d_Model_close_48 hl (by decide) rfl (fun ls hl => ?_)
    have hl : lv_has ls 7 [(5, .int (nI (hmk C k1 l1 (K1 k)))), (4, .int (nI k)), (0, .ref ob), (1, .int (nI fr)), (2, .int (nI ho)), (3, .int (nI n))] := hl
    refine lv_iload hx hb d_Model_close_50 (lv_at hl 0 rfl) ?_
    refine lv_iload_n hx hb d_Model_close_52 rfl (lv_at hl 4 rfl) ?_
    refine lv_icmp_eq hx hb d_Model_close_53 (tgt := 77) rfl (fun hc53 => ?_) (fun hc53 => ?_)
    · skip
      have heq : hmk C k1 l1 (K1 k) = ho := (nI_eq (by omega) (by omega)).mp hc53
      have hcond : (k + C - ho) % C ≤ (k + C - hmk C k1 l1 (K1 k)) % C := (st_iff hC hhk hkC hho hkne).mpr (fun q => q.1 heq)
      rw [if_pos hcond] at hZ
      refine lv_iconst hx hb d_Model_close_77 (v := 0) rfl ?_
      refine lv_istore hx hb d_Model_close_78 hl (by decide) rfl (fun ls hl => ?_)
      have hl : lv_has ls 7 [(6, .int 0), (5, .int (nI (hmk C k1 l1 (K1 k)))), (4, .int (nI k)), (0, .ref ob), (1, .int (nI fr)), (2, .int (nI ho)), (3, .int (nI n))] := hl
      refine lv_iload hx hb d_Model_close_80 (lv_at hl 0 rfl) ?_
      refine lv_if_ne hx hb d_Model_close_82 (tgt := 129) rfl (fun hc => absurd hc (fun q => q rfl)) (fun hc => ?_)
      refine W.eq (g2 := F0 m 85 ls []) rfl ?_
      refine lv_aload_n hx hb d_Model_close_85 rfl (lv_at hl 3 rfl) ?_
      refine va_get (ci := 3) (C := R_Model) (T := F_Model) (N := 24) hx hb hts in_Model hown hK hP 0 rfl rfl 11 (by decide) (hts _ wk_247) (fun _ h => h) rfl d_Model_close_86 ?_
      refine lv_iload_n hx hb d_Model_close_89 rfl (lv_at hl 5 rfl) ?_
      refine lv_iconst hx hb d_Model_close_90 (v := 1) rfl ?_
      refine ia_st (i := ho) hx hb hK hP hD hS 2 rfl rfl (by omega) (by omega) d_Model_close_91 (fun H locs hP hD hS => ?_)
      have hP : va_P (dC, dI) cls [(ob, .inr (3, [.int (nI C), .int lim, .int v.1, .int v.2.1, .int v.2.2.1, .int v.2.2.2, .ref bw, .long k1, .long l1, .long k2, .long l2, .ref bm, .ref bk, .ref bv, .int mv, .ref cm, .ref ck, .ref cv, .int lo, .int ti, .long y2.1, .long y2.2.1, .long y2.2.2.1, .long y2.2.2.2])), (bw, .inl (cA, 4, .inl Wd)), (bm, .inl (cA, 128, .inl (upd M1 ho 1))), (bk, .inl (cA, 128, .inl K1)), (bv, .inl (cA, 128, .inl V1)), (cm, .inl (cA, 128, .inl OM)), (ck, .inl (cA, 128, .inl OK)), (cv, .inl (cA, 128, .inl OV))] H := hP
      have hD : va_D A [(ob, .inr (3, [.int (nI C), .int lim, .int v.1, .int v.2.1, .int v.2.2.1, .int v.2.2.2, .ref bw, .long k1, .long l1, .long k2, .long l2, .ref bm, .ref bk, .ref bv, .int mv, .ref cm, .ref ck, .ref cv, .int lo, .int ti, .long y2.1, .long y2.2.1, .long y2.2.2.1, .long y2.2.2.2])), (bw, .inl (cA, 4, .inl Wd)), (bm, .inl (cA, 128, .inl (upd M1 ho 1))), (bk, .inl (cA, 128, .inl K1)), (bv, .inl (cA, 128, .inl V1)), (cm, .inl (cA, 128, .inl OM)), (ck, .inl (cA, 128, .inl OK)), (cv, .inl (cA, 128, .inl OV))] := hD
      refine lv_aload_n hx hb d_Model_close_92 rfl (lv_at hl 3 rfl) ?_
      refine va_get (ci := 3) (C := R_Model) (T := F_Model) (N := 24) hx hb hts in_Model hown hK hP 0 rfl rfl 12 (by decide) (hts _ wk_248) (fun _ h => h) rfl d_Model_close_93 ?_
      refine lv_iload_n hx hb d_Model_close_96 rfl (lv_at hl 5 rfl) ?_
      refine lv_aload_n hx hb d_Model_close_97 rfl (lv_at hl 3 rfl) ?_
      refine va_get (ci := 3) (C := R_Model) (T := F_Model) (N := 24) hx hb hts in_Model hown hK hP 0 rfl rfl 12 (by decide) (hts _ wk_248) (fun _ h => h) rfl d_Model_close_98 ?_
      refine lv_iload hx hb d_Model_close_101 (lv_at hl 2 rfl) ?_
      refine ia_ld (i := k) hx hb hK hP 3 rfl rfl (by omega) (by omega) d_Model_close_103 ?_
      refine ia_st (i := ho) hx hb hK hP hD hS 3 rfl rfl (by omega) (by omega) d_Model_close_104 (fun H locs hP hD hS => ?_)
      have hP : va_P (dC, dI) cls [(ob, .inr (3, [.int (nI C), .int lim, .int v.1, .int v.2.1, .int v.2.2.1, .int v.2.2.2, .ref bw, .long k1, .long l1, .long k2, .long l2, .ref bm, .ref bk, .ref bv, .int mv, .ref cm, .ref ck, .ref cv, .int lo, .int ti, .long y2.1, .long y2.2.1, .long y2.2.2.1, .long y2.2.2.2])), (bw, .inl (cA, 4, .inl Wd)), (bm, .inl (cA, 128, .inl (upd M1 ho 1))), (bk, .inl (cA, 128, .inl (upd K1 ho (K1 k)))), (bv, .inl (cA, 128, .inl V1)), (cm, .inl (cA, 128, .inl OM)), (ck, .inl (cA, 128, .inl OK)), (cv, .inl (cA, 128, .inl OV))] H := hP
      have hD : va_D A [(ob, .inr (3, [.int (nI C), .int lim, .int v.1, .int v.2.1, .int v.2.2.1, .int v.2.2.2, .ref bw, .long k1, .long l1, .long k2, .long l2, .ref bm, .ref bk, .ref bv, .int mv, .ref cm, .ref ck, .ref cv, .int lo, .int ti, .long y2.1, .long y2.2.1, .long y2.2.2.1, .long y2.2.2.2])), (bw, .inl (cA, 4, .inl Wd)), (bm, .inl (cA, 128, .inl (upd M1 ho 1))), (bk, .inl (cA, 128, .inl (upd K1 ho (K1 k)))), (bv, .inl (cA, 128, .inl V1)), (cm, .inl (cA, 128, .inl OM)), (ck, .inl (cA, 128, .inl OK)), (cv, .inl (cA, 128, .inl OV))] := hD
      refine lv_aload_n hx hb d_Model_close_105 rfl (lv_at hl 3 rfl) ?_
      refine va_get (ci := 3) (C := R_Model) (T := F_Model) (N := 24) hx hb hts in_Model hown hK hP 0 rfl rfl 13 (by decide) (hts _ wk_249) (fun _ h => h) rfl d_Model_close_106 ?_
      refine lv_iload_n hx hb d_Model_close_109 rfl (lv_at hl 5 rfl) ?_
      refine W.eq (g2 := F0 m 110 ls [.int (nI ho), .ref bv]) rfl ?_
      refine lv_aload_n hx hb d_Model_close_110 rfl (lv_at hl 3 rfl) ?_
      refine va_get (ci := 3) (C := R_Model) (T := F_Model) (N := 24) hx hb hts in_Model hown hK hP 0 rfl rfl 13 (by decide) (hts _ wk_249) (fun _ h => h) rfl d_Model_close_111 ?_
      refine lv_iload hx hb d_Model_close_114 (lv_at hl 2 rfl) ?_
      refine ia_ld (i := k) hx hb hK hP 4 rfl rfl (by omega) (by omega) d_Model_close_116 ?_
      refine ia_st (i := ho) hx hb hK hP hD hS 4 rfl rfl (by omega) (by omega) d_Model_close_117 (fun H locs hP hD hS => ?_)
      have hP : va_P (dC, dI) cls [(ob, .inr (3, [.int (nI C), .int lim, .int v.1, .int v.2.1, .int v.2.2.1, .int v.2.2.2, .ref bw, .long k1, .long l1, .long k2, .long l2, .ref bm, .ref bk, .ref bv, .int mv, .ref cm, .ref ck, .ref cv, .int lo, .int ti, .long y2.1, .long y2.2.1, .long y2.2.2.1, .long y2.2.2.2])), (bw, .inl (cA, 4, .inl Wd)), (bm, .inl (cA, 128, .inl (upd M1 ho 1))), (bk, .inl (cA, 128, .inl (upd K1 ho (K1 k)))), (bv, .inl (cA, 128, .inl (upd V1 ho (V1 k)))), (cm, .inl (cA, 128, .inl OM)), (ck, .inl (cA, 128, .inl OK)), (cv, .inl (cA, 128, .inl OV))] H := hP
      have hD : va_D A [(ob, .inr (3, [.int (nI C), .int lim, .int v.1, .int v.2.1, .int v.2.2.1, .int v.2.2.2, .ref bw, .long k1, .long l1, .long k2, .long l2, .ref bm, .ref bk, .ref bv, .int mv, .ref cm, .ref ck, .ref cv, .int lo, .int ti, .long y2.1, .long y2.2.1, .long y2.2.2.1, .long y2.2.2.2])), (bw, .inl (cA, 4, .inl Wd)), (bm, .inl (cA, 128, .inl (upd M1 ho 1))), (bk, .inl (cA, 128, .inl (upd K1 ho (K1 k)))), (bv, .inl (cA, 128, .inl (upd V1 ho (V1 k)))), (cm, .inl (cA, 128, .inl OM)), (ck, .inl (cA, 128, .inl OK)), (cv, .inl (cA, 128, .inl OV))] := hD
      refine lv_aload_n hx hb d_Model_close_118 rfl (lv_at hl 3 rfl) ?_
      refine va_get (ci := 3) (C := R_Model) (T := F_Model) (N := 24) hx hb hts in_Model hown hK hP 0 rfl rfl 11 (by decide) (hts _ wk_247) (fun _ h => h) rfl d_Model_close_119 ?_
      refine lv_iload hx hb d_Model_close_122 (lv_at hl 2 rfl) ?_
      refine lv_iconst hx hb d_Model_close_124 (v := 0) rfl ?_
      refine ia_st (i := k) hx hb hK hP hD hS 2 rfl rfl (by omega) (by omega) d_Model_close_125 (fun H locs hP hD hS => ?_)
      have hP : va_P (dC, dI) cls [(ob, .inr (3, [.int (nI C), .int lim, .int v.1, .int v.2.1, .int v.2.2.1, .int v.2.2.2, .ref bw, .long k1, .long l1, .long k2, .long l2, .ref bm, .ref bk, .ref bv, .int mv, .ref cm, .ref ck, .ref cv, .int lo, .int ti, .long y2.1, .long y2.2.1, .long y2.2.2.1, .long y2.2.2.2])), (bw, .inl (cA, 4, .inl Wd)), (bm, .inl (cA, 128, .inl (upd (upd M1 ho 1) k 0))), (bk, .inl (cA, 128, .inl (upd K1 ho (K1 k)))), (bv, .inl (cA, 128, .inl (upd V1 ho (V1 k)))), (cm, .inl (cA, 128, .inl OM)), (ck, .inl (cA, 128, .inl OK)), (cv, .inl (cA, 128, .inl OV))] H := hP
      have hD : va_D A [(ob, .inr (3, [.int (nI C), .int lim, .int v.1, .int v.2.1, .int v.2.2.1, .int v.2.2.2, .ref bw, .long k1, .long l1, .long k2, .long l2, .ref bm, .ref bk, .ref bv, .int mv, .ref cm, .ref ck, .ref cv, .int lo, .int ti, .long y2.1, .long y2.2.1, .long y2.2.2.1, .long y2.2.2.2])), (bw, .inl (cA, 4, .inl Wd)), (bm, .inl (cA, 128, .inl (upd (upd M1 ho 1) k 0))), (bk, .inl (cA, 128, .inl (upd K1 ho (K1 k)))), (bv, .inl (cA, 128, .inl (upd V1 ho (V1 k)))), (cm, .inl (cA, 128, .inl OM)), (ck, .inl (cA, 128, .inl OK)), (cv, .inl (cA, 128, .inl OV))] := hD
      refine lv_iload hx hb d_Model_close_126 (lv_at hl 2 rfl) ?_
      refine lv_istore_n hx hb d_Model_close_128 rfl hl (by decide) rfl (fun ls hl => ?_)
      have hl : lv_has ls 7 [(2, .int (nI k)), (6, .int 0), (5, .int (nI (hmk C k1 l1 (K1 k)))), (4, .int (nI k)), (0, .ref ob), (1, .int (nI fr)), (3, .int (nI n))] := hl
      refine lv_iinc hx hb d_Model_close_129 hl (k := 6) rfl (v := nI (n + 1)) (nI_1 _) (by decide) rfl (fun ls hl => ?_)
      have hl : lv_has ls 7 [(3, .int (nI (n + 1))), (2, .int (nI k)), (6, .int 0), (5, .int (nI (hmk C k1 l1 (K1 k)))), (4, .int (nI k)), (0, .ref ob), (1, .int (nI fr))] := hl
      refine lv_goto hx hb d_Model_close_132 (tgt := 11) rfl ?_
      exact ih11 (n + 1) k (upd (upd M1 ho 1) k 0) (upd K1 ho (K1 k)) (upd V1 ho (V1 k)) y2 ls _ _ ⟨by omega, by omega, hkC, ⟨n, by omega, hk⟩, hZ, by rw [pk_un (by rw [hk]; exact off_ne hC (by omega) (by omega) (by omega)), pk_un (by rw [hn1]; exact off_ne hC (by omega) (by omega) (by omega))]; exact hfz, fun a ha => by
          by_cases e : a = k
          · rw [e, pk_us]; exact Or.inl rfl
          · rw [pk_un e]
            by_cases e2 : a = ho
            · rw [e2, pk_us]; exact Or.inr rfl
            · rw [pk_un e2]; exact h01 a ha, lv_sub hl [5, 6, 1, 0] rfl, hP, hD, hS⟩ (by omega)
    · skip
      have hnq : hmk C k1 l1 (K1 k) ≠ ho := fun e => hc53 (congrArg nI e)
      refine lv_aload_n hx hb d_Model_close_56 rfl (lv_at hl 2 rfl) ?_
      refine lv_iload hx hb d_Model_close_57 (lv_at hl 0 rfl) ?_
      refine lv_iload_n hx hb d_Model_close_59 rfl (lv_at hl 4 rfl) ?_
      refine ro_i (va_runV (As := [.int (nI (hmk C k1 l1 (K1 k))), .int (nI ho)]) (rest := []) ⟨hx, hb, hml, hown, hts⟩ (c_behind l hC (hmk C k1 l1 (K1 k)) ho hhk hho hP) (cwV 2 hts g_Model_161 rfl rfl rfl (by decide +kernel) ⟨Nat.le_of_ble_eq_true rfl, Nat.le_of_ble_eq_true rfl⟩) ⟨bl_RO, va_recv (q0 := 0) hK hP rfl rfl, fun U hU hW => ⟨rfl, hU, va_K.moved hW.alike hK⟩⟩ rfl rfl hl.1 rfl (lv_room (Nat.le_of_ble_eq_true rfl)) d_Model_close_60 ⟨Nat.zero_le _, Nat.zero_le _⟩) hS (fun locs hS => ?_)
      refine W.eq (g2 := F0 m 63 ls [.int (nI (((hmk C k1 l1 (K1 k)) + C - ho) % C))]) rfl ?_
      refine lv_aload_n hx hb d_Model_close_63 rfl (lv_at hl 2 rfl) ?_
      refine lv_iload hx hb d_Model_close_64 (lv_at hl 1 rfl) ?_
      refine lv_iload_n hx hb d_Model_close_66 rfl (lv_at hl 4 rfl) ?_
      refine ro_i (va_runV (As := [.int (nI k), .int (nI ho)]) (rest := [.int (nI (((hmk C k1 l1 (K1 k)) + C - ho) % C))]) ⟨hx, hb, hml, hown, hts⟩ (c_behind l hC k ho hkC hho hP) (cwV 2 hts g_Model_161 rfl rfl rfl (by decide +kernel) ⟨Nat.le_of_ble_eq_true rfl, Nat.le_of_ble_eq_true rfl⟩) ⟨bl_RO, va_recv (q0 := 0) hK hP rfl rfl, fun U hU hW => ⟨rfl, hU, va_K.moved hW.alike hK⟩⟩ rfl rfl hl.1 rfl (lv_room (Nat.le_of_ble_eq_true rfl)) d_Model_close_67 ⟨Nat.zero_le _, Nat.zero_le _⟩) hS (fun locs hS => ?_)
      refine lv_icmp_gt hx hb d_Model_close_70 (tgt := 77) rfl (fun hc70 => ?_) (fun hc70 => ?_)
      · skip
        have hgt : (k + C - ho) % C < (hmk C k1 l1 (K1 k) + C - ho) % C := by
            have h8 := @md_lt C (k + C - ho) hC
            have h9 := @md_lt C (hmk C k1 l1 (K1 k) + C - ho) hC
            exact (nI_ltI (by omega) (by omega)).mp hc70
        have hcond : (k + C - ho) % C ≤ (k + C - hmk C k1 l1 (K1 k)) % C := (st_iff hC hhk hkC hho hkne).mpr (fun q => by omega)
        rw [if_pos hcond] at hZ
        refine lv_iconst hx hb d_Model_close_77 (v := 0) rfl ?_
        refine lv_istore hx hb d_Model_close_78 hl (by decide) rfl (fun ls hl => ?_)
        have hl : lv_has ls 7 [(6, .int 0), (5, .int (nI (hmk C k1 l1 (K1 k)))), (4, .int (nI k)), (0, .ref ob), (1, .int (nI fr)), (2, .int (nI ho)), (3, .int (nI n))] := hl
        refine lv_iload hx hb d_Model_close_80 (lv_at hl 0 rfl) ?_
        refine lv_if_ne hx hb d_Model_close_82 (tgt := 129) rfl (fun hc => absurd hc (fun q => q rfl)) (fun hc => ?_)
        refine lv_aload_n hx hb d_Model_close_85 rfl (lv_at hl 3 rfl) ?_
        refine va_get (ci := 3) (C := R_Model) (T := F_Model) (N := 24) hx hb hts in_Model hown hK hP 0 rfl rfl 11 (by decide) (hts _ wk_247) (fun _ h => h) rfl d_Model_close_86 ?_
        refine lv_iload_n hx hb d_Model_close_89 rfl (lv_at hl 5 rfl) ?_
        refine lv_iconst hx hb d_Model_close_90 (v := 1) rfl ?_
        refine ia_st (i := ho) hx hb hK hP hD hS 2 rfl rfl (by omega) (by omega) d_Model_close_91 (fun H locs hP hD hS => ?_)
        have hP : va_P (dC, dI) cls [(ob, .inr (3, [.int (nI C), .int lim, .int v.1, .int v.2.1, .int v.2.2.1, .int v.2.2.2, .ref bw, .long k1, .long l1, .long k2, .long l2, .ref bm, .ref bk, .ref bv, .int mv, .ref cm, .ref ck, .ref cv, .int lo, .int ti, .long y2.1, .long y2.2.1, .long y2.2.2.1, .long y2.2.2.2])), (bw, .inl (cA, 4, .inl Wd)), (bm, .inl (cA, 128, .inl (upd M1 ho 1))), (bk, .inl (cA, 128, .inl K1)), (bv, .inl (cA, 128, .inl V1)), (cm, .inl (cA, 128, .inl OM)), (ck, .inl (cA, 128, .inl OK)), (cv, .inl (cA, 128, .inl OV))] H := hP
        have hD : va_D A [(ob, .inr (3, [.int (nI C), .int lim, .int v.1, .int v.2.1, .int v.2.2.1, .int v.2.2.2, .ref bw, .long k1, .long l1, .long k2, .long l2, .ref bm, .ref bk, .ref bv, .int mv, .ref cm, .ref ck, .ref cv, .int lo, .int ti, .long y2.1, .long y2.2.1, .long y2.2.2.1, .long y2.2.2.2])), (bw, .inl (cA, 4, .inl Wd)), (bm, .inl (cA, 128, .inl (upd M1 ho 1))), (bk, .inl (cA, 128, .inl K1)), (bv, .inl (cA, 128, .inl V1)), (cm, .inl (cA, 128, .inl OM)), (ck, .inl (cA, 128, .inl OK)), (cv, .inl (cA, 128, .inl OV))] := hD
        refine lv_aload_n hx hb d_Model_close_92 rfl (lv_at hl 3 rfl) ?_
        refine va_get (ci := 3) (C := R_Model) (T := F_Model) (N := 24) hx hb hts in_Model hown hK hP 0 rfl rfl 12 (by decide) (hts _ wk_248) (fun _ h => h) rfl d_Model_close_93 ?_
        refine W.eq (g2 := F0 m 96 ls [.ref bk]) rfl ?_
        refine lv_iload_n hx hb d_Model_close_96 rfl (lv_at hl 5 rfl) ?_
        refine lv_aload_n hx hb d_Model_close_97 rfl (lv_at hl 3 rfl) ?_
        refine va_get (ci := 3) (C := R_Model) (T := F_Model) (N := 24) hx hb hts in_Model hown hK hP 0 rfl rfl 12 (by decide) (hts _ wk_248) (fun _ h => h) rfl d_Model_close_98 ?_
        refine lv_iload hx hb d_Model_close_101 (lv_at hl 2 rfl) ?_
        refine ia_ld (i := k) hx hb hK hP 3 rfl rfl (by omega) (by omega) d_Model_close_103 ?_
        refine ia_st (i := ho) hx hb hK hP hD hS 3 rfl rfl (by omega) (by omega) d_Model_close_104 (fun H locs hP hD hS => ?_)
        have hP : va_P (dC, dI) cls [(ob, .inr (3, [.int (nI C), .int lim, .int v.1, .int v.2.1, .int v.2.2.1, .int v.2.2.2, .ref bw, .long k1, .long l1, .long k2, .long l2, .ref bm, .ref bk, .ref bv, .int mv, .ref cm, .ref ck, .ref cv, .int lo, .int ti, .long y2.1, .long y2.2.1, .long y2.2.2.1, .long y2.2.2.2])), (bw, .inl (cA, 4, .inl Wd)), (bm, .inl (cA, 128, .inl (upd M1 ho 1))), (bk, .inl (cA, 128, .inl (upd K1 ho (K1 k)))), (bv, .inl (cA, 128, .inl V1)), (cm, .inl (cA, 128, .inl OM)), (ck, .inl (cA, 128, .inl OK)), (cv, .inl (cA, 128, .inl OV))] H := hP
        have hD : va_D A [(ob, .inr (3, [.int (nI C), .int lim, .int v.1, .int v.2.1, .int v.2.2.1, .int v.2.2.2, .ref bw, .long k1, .long l1, .long k2, .long l2, .ref bm, .ref bk, .ref bv, .int mv, .ref cm, .ref ck, .ref cv, .int lo, .int ti, .long y2.1, .long y2.2.1, .long y2.2.2.1, .long y2.2.2.2])), (bw, .inl (cA, 4, .inl Wd)), (bm, .inl (cA, 128, .inl (upd M1 ho 1))), (bk, .inl (cA, 128, .inl (upd K1 ho (K1 k)))), (bv, .inl (cA, 128, .inl V1)), (cm, .inl (cA, 128, .inl OM)), (ck, .inl (cA, 128, .inl OK)), (cv, .inl (cA, 128, .inl OV))] := hD
        refine lv_aload_n hx hb d_Model_close_105 rfl (lv_at hl 3 rfl) ?_
        refine va_get (ci := 3) (C := R_Model) (T := F_Model) (N := 24) hx hb hts in_Model hown hK hP 0 rfl rfl 13 (by decide) (hts _ wk_249) (fun _ h => h) rfl d_Model_close_106 ?_
        refine lv_iload_n hx hb d_Model_close_109 rfl (lv_at hl 5 rfl) ?_
        refine lv_aload_n hx hb d_Model_close_110 rfl (lv_at hl 3 rfl) ?_
        refine va_get (ci := 3) (C := R_Model) (T := F_Model) (N := 24) hx hb hts in_Model hown hK hP 0 rfl rfl 13 (by decide) (hts _ wk_249) (fun _ h => h) rfl d_Model_close_111 ?_
        refine lv_iload hx hb d_Model_close_114 (lv_at hl 2 rfl) ?_
        refine ia_ld (i := k) hx hb hK hP 4 rfl rfl (by omega) (by omega) d_Model_close_116 ?_
        refine ia_st (i := ho) hx hb hK hP hD hS 4 rfl rfl (by omega) (by omega) d_Model_close_117 (fun H locs hP hD hS => ?_)
        have hP : va_P (dC, dI) cls [(ob, .inr (3, [.int (nI C), .int lim, .int v.1, .int v.2.1, .int v.2.2.1, .int v.2.2.2, .ref bw, .long k1, .long l1, .long k2, .long l2, .ref bm, .ref bk, .ref bv, .int mv, .ref cm, .ref ck, .ref cv, .int lo, .int ti, .long y2.1, .long y2.2.1, .long y2.2.2.1, .long y2.2.2.2])), (bw, .inl (cA, 4, .inl Wd)), (bm, .inl (cA, 128, .inl (upd M1 ho 1))), (bk, .inl (cA, 128, .inl (upd K1 ho (K1 k)))), (bv, .inl (cA, 128, .inl (upd V1 ho (V1 k)))), (cm, .inl (cA, 128, .inl OM)), (ck, .inl (cA, 128, .inl OK)), (cv, .inl (cA, 128, .inl OV))] H := hP
        have hD : va_D A [(ob, .inr (3, [.int (nI C), .int lim, .int v.1, .int v.2.1, .int v.2.2.1, .int v.2.2.2, .ref bw, .long k1, .long l1, .long k2, .long l2, .ref bm, .ref bk, .ref bv, .int mv, .ref cm, .ref ck, .ref cv, .int lo, .int ti, .long y2.1, .long y2.2.1, .long y2.2.2.1, .long y2.2.2.2])), (bw, .inl (cA, 4, .inl Wd)), (bm, .inl (cA, 128, .inl (upd M1 ho 1))), (bk, .inl (cA, 128, .inl (upd K1 ho (K1 k)))), (bv, .inl (cA, 128, .inl (upd V1 ho (V1 k)))), (cm, .inl (cA, 128, .inl OM)), (ck, .inl (cA, 128, .inl OK)), (cv, .inl (cA, 128, .inl OV))] := hD
        refine lv_aload_n hx hb d_Model_close_118 rfl (lv_at hl 3 rfl) ?_
        refine va_get (ci := 3) (C := R_Model) (T := F_Model) (N := 24) hx hb hts in_Model hown hK hP 0 rfl rfl 11 (by decide) (hts _ wk_247) (fun _ h => h) rfl d_Model_close_119 ?_
        refine W.eq (g2 := F0 m 122 ls [.ref bm]) rfl ?_
        refine lv_iload hx hb d_Model_close_122 (lv_at hl 2 rfl) ?_
        refine lv_iconst hx hb d_Model_close_124 (v := 0) rfl ?_
        refine ia_st (i := k) hx hb hK hP hD hS 2 rfl rfl (by omega) (by omega) d_Model_close_125 (fun H locs hP hD hS => ?_)
        have hP : va_P (dC, dI) cls [(ob, .inr (3, [.int (nI C), .int lim, .int v.1, .int v.2.1, .int v.2.2.1, .int v.2.2.2, .ref bw, .long k1, .long l1, .long k2, .long l2, .ref bm, .ref bk, .ref bv, .int mv, .ref cm, .ref ck, .ref cv, .int lo, .int ti, .long y2.1, .long y2.2.1, .long y2.2.2.1, .long y2.2.2.2])), (bw, .inl (cA, 4, .inl Wd)), (bm, .inl (cA, 128, .inl (upd (upd M1 ho 1) k 0))), (bk, .inl (cA, 128, .inl (upd K1 ho (K1 k)))), (bv, .inl (cA, 128, .inl (upd V1 ho (V1 k)))), (cm, .inl (cA, 128, .inl OM)), (ck, .inl (cA, 128, .inl OK)), (cv, .inl (cA, 128, .inl OV))] H := hP
        have hD : va_D A [(ob, .inr (3, [.int (nI C), .int lim, .int v.1, .int v.2.1, .int v.2.2.1, .int v.2.2.2, .ref bw, .long k1, .long l1, .long k2, .long l2, .ref bm, .ref bk, .ref bv, .int mv, .ref cm, .ref ck, .ref cv, .int lo, .int ti, .long y2.1, .long y2.2.1, .long y2.2.2.1, .long y2.2.2.2])), (bw, .inl (cA, 4, .inl Wd)), (bm, .inl (cA, 128, .inl (upd (upd M1 ho 1) k 0))), (bk, .inl (cA, 128, .inl (upd K1 ho (K1 k)))), (bv, .inl (cA, 128, .inl (upd V1 ho (V1 k)))), (cm, .inl (cA, 128, .inl OM)), (ck, .inl (cA, 128, .inl OK)), (cv, .inl (cA, 128, .inl OV))] := hD
        refine lv_iload hx hb d_Model_close_126 (lv_at hl 2 rfl) ?_
        refine lv_istore_n hx hb d_Model_close_128 rfl hl (by decide) rfl (fun ls hl => ?_)
        have hl : lv_has ls 7 [(2, .int (nI k)), (6, .int 0), (5, .int (nI (hmk C k1 l1 (K1 k)))), (4, .int (nI k)), (0, .ref ob), (1, .int (nI fr)), (3, .int (nI n))] := hl
        refine lv_iinc hx hb d_Model_close_129 hl (k := 6) rfl (v := nI (n + 1)) (nI_1 _) (by decide) rfl (fun ls hl => ?_)
        have hl : lv_has ls 7 [(3, .int (nI (n + 1))), (2, .int (nI k)), (6, .int 0), (5, .int (nI (hmk C k1 l1 (K1 k)))), (4, .int (nI k)), (0, .ref ob), (1, .int (nI fr))] := hl
        refine lv_goto hx hb d_Model_close_132 (tgt := 11) rfl ?_
        exact ih11 (n + 1) k (upd (upd M1 ho 1) k 0) (upd K1 ho (K1 k)) (upd V1 ho (V1 k)) y2 ls _ _ ⟨by omega, by omega, hkC, ⟨n, by omega, hk⟩, hZ, by rw [pk_un (by rw [hk]; exact off_ne hC (by omega) (by omega) (by omega)), pk_un (by rw [hn1]; exact off_ne hC (by omega) (by omega) (by omega))]; exact hfz, fun a ha => by
            by_cases e : a = k
            · rw [e, pk_us]; exact Or.inl rfl
            · rw [pk_un e]
              by_cases e2 : a = ho
              · rw [e2, pk_us]; exact Or.inr rfl
              · rw [pk_un e2]; exact h01 a ha, lv_sub hl [5, 6, 1, 0] rfl, hP, hD, hS⟩ (by omega)
      · skip
        have hle : ¬ (k + C - ho) % C < (hmk C k1 l1 (K1 k) + C - ho) % C := by
            have h8 := @md_lt C (k + C - ho) hC
            have h9 := @md_lt C (hmk C k1 l1 (K1 k) + C - ho) hC
            exact fun h => hc70 ((nI_ltI (by omega) (by omega)).mpr h)
        have hcond : ¬ (k + C - ho) % C ≤ (k + C - hmk C k1 l1 (K1 k)) % C := fun h => (st_iff hC hhk hkC hho hkne).mp h ⟨hnq, by omega⟩
        rw [if_neg hcond] at hZ
        refine lv_iconst hx hb d_Model_close_73 (v := 1) rfl ?_
        refine lv_goto hx hb d_Model_close_74 (tgt := 78) rfl ?_
        refine lv_istore hx hb d_Model_close_78 hl (by decide) rfl (fun ls hl => ?_)
        have hl : lv_has ls 7 [(6, .int 1), (5, .int (nI (hmk C k1 l1 (K1 k)))), (4, .int (nI k)), (0, .ref ob), (1, .int (nI fr)), (2, .int (nI ho)), (3, .int (nI n))] := hl
        refine lv_iload hx hb d_Model_close_80 (lv_at hl 0 rfl) ?_
        refine lv_if_ne hx hb d_Model_close_82 (tgt := 129) rfl (fun hc => ?_) (fun hc => absurd hc (by decide))
        refine lv_iinc hx hb d_Model_close_129 hl (k := 6) rfl (v := nI (n + 1)) (nI_1 _) (by decide) rfl (fun ls hl => ?_)
        have hl : lv_has ls 7 [(3, .int (nI (n + 1))), (6, .int 1), (5, .int (nI (hmk C k1 l1 (K1 k)))), (4, .int (nI k)), (0, .ref ob), (1, .int (nI fr)), (2, .int (nI ho))] := hl
        refine lv_goto hx hb d_Model_close_132 (tgt := 11) rfl ?_
        exact ih11 (n + 1) ho M1 K1 V1 y2 ls _ _ ⟨by omega, by omega, hho, ⟨n1, by omega, hn1⟩, hZ, hfz, h01, lv_sub hl [4, 5, 6, 0] rfl, hP, hD, hS⟩ (by omega)
