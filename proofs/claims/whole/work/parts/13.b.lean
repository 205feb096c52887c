set_option maxHeartbeats 4000000 in
set_option maxRecDepth 100000 in
theorem c_makeStep (l : Launch) {dC : Nat → ClassId} {dI : Nat → Nat → Nat} {cA : ClassId} (sz : Nat) {o g tn nm nk nv nw to om ok ov ow C : Nat} {lim mb lo rk : Int32} {v : Int32 × Int32 × Int32 × Int32} {M K V Wd OM OK OV Wo : Nat → Int32} {OM1 M1 K1 V1 : Nat → Int32} (hC : szC C) (h01 : ∀ a, a < C → M a = 0 ∨ M a = 1) (hcn : cnt OM C + cnt M C < C) (hst : mst C (hm C Wd) OK OV 4 (OM, M, K, V) = (OM1, M1, K1, V1)) : Met l y_Cells_makeStep (.code y_Cells_makeStep b_Cells_makeStep 3 (some .int) :: BG) ({ frames := 4, cells := 0, slots := 0, locals := 103 }) (pNW dC dI cA [.ref o] [(o, .inr (2, [.int lim, .int mb, .ref g, .ref tn, .ref to, .int lo, .int rk])), (g, .inr (0, [.int v.1, .int v.2.1, .int v.2.2.1, .int v.2.2.2])), (tn, .inr (1, [.int (nI (C - 1)), .ref nm, .ref nk, .ref nv, .ref nw, .int (nI (cnt M C))])), (nm, .inl (cA, C, .inl M)), (nk, .inl (cA, C, .inl K)), (nv, .inl (cA, C, .inl V)), (nw, .inl (cA, 4, .inl Wd)), (to, .inr (1, [.int (nI (C - 1)), .ref om, .ref ok, .ref ov, .ref ow, .int (nI (cnt OM C))])), (om, .inl (cA, C, .inl OM)), (ok, .inl (cA, C, .inl OK)), (ov, .inl (cA, C, .inl OV)), (ow, .inl (cA, 4, .inl Wo))] sz) (va_Qi (fun r (_ : Unit) => r = nI (mcn C 4 OM)) (fun _ tS => wdB dC dI cA (va_A [(o, .inr (2, [.int lim, .int mb, .ref g, .ref tn, .ref to, .int lo, .int rk])), (g, .inr (0, [.int v.1, .int v.2.1, .int v.2.2.1, .int v.2.2.2])), (tn, .inr (1, [.int (nI (C - 1)), .ref nm, .ref nk, .ref nv, .ref nw, .int (nI (cnt M C))])), (nm, .inl (cA, C, .inl M)), (nk, .inl (cA, C, .inl K)), (nv, .inl (cA, C, .inl V)), (nw, .inl (cA, 4, .inl Wd)), (to, .inr (1, [.int (nI (C - 1)), .ref om, .ref ok, .ref ov, .ref ow, .int (nI (cnt OM C))])), (om, .inl (cA, C, .inl OM)), (ok, .inl (cA, C, .inl OK)), (ov, .inl (cA, C, .inl OV)), (ow, .inl (cA, 4, .inl Wo))] sz) [(o, .inr (2, [.int lim, .int mb, .ref g, .ref tn, .ref to, .int lo, .int rk])), (g, .inr (0, [.int v.1, .int v.2.1, .int v.2.2.1, .int v.2.2.2])), (tn, .inr (1, [.int (nI (C - 1)), .ref nm, .ref nk, .ref nv, .ref nw, .int (nI (cnt M1 C))])), (nm, .inl (cA, C, .inl M1)), (nk, .inl (cA, C, .inl K1)), (nv, .inl (cA, C, .inl V1)), (nw, .inl (cA, 4, .inl Wd)), (to, .inr (1, [.int (nI (C - 1)), .ref om, .ref ok, .ref ov, .ref ow, .int (nI (cnt OM1 C))])), (om, .inl (cA, C, .inl OM1)), (ok, .inl (cA, C, .inl OK)), (ov, .inl (cA, C, .inl OV)), (ow, .inl (cA, 4, .inl Wo))] tS) (va_A [(o, .inr (2, [.int lim, .int mb, .ref g, .ref tn, .ref to, .int lo, .int rk])), (g, .inr (0, [.int v.1, .int v.2.1, .int v.2.2.1, .int v.2.2.2])), (tn, .inr (1, [.int (nI (C - 1)), .ref nm, .ref nk, .ref nv, .ref nw, .int (nI (cnt M C))])), (nm, .inl (cA, C, .inl M)), (nk, .inl (cA, C, .inl K)), (nv, .inl (cA, C, .inl V)), (nw, .inl (cA, 4, .inl Wd)), (to, .inr (1, [.int (nI (C - 1)), .ref om, .ref ok, .ref ov, .ref ow, .int (nI (cnt OM C))])), (om, .inl (cA, C, .inl OM)), (ok, .inl (cA, C, .inl OK)), (ov, .inl (cA, C, .inl OV)), (ow, .inl (cA, 4, .inl Wo))] sz)) 0 0 (va_A [(o, .inr (2, [.int lim, .int mb, .ref g, .ref tn, .ref to, .int lo, .int rk])), (g, .inr (0, [.int v.1, .int v.2.1, .int v.2.2.1, .int v.2.2.2])), (tn, .inr (1, [.int (nI (C - 1)), .ref nm, .ref nk, .ref nv, .ref nw, .int (nI (cnt M C))])), (nm, .inl (cA, C, .inl M)), (nk, .inl (cA, C, .inl K)), (nv, .inl (cA, C, .inl V)), (nw, .inl (cA, 4, .inl Wd)), (to, .inr (1, [.int (nI (C - 1)), .ref om, .ref ok, .ref ov, .ref ow, .int (nI (cnt OM C))])), (om, .inl (cA, C, .inl OM)), (ok, .inl (cA, C, .inl OK)), (ov, .inl (cA, C, .inl OV)), (ow, .inl (cA, 4, .inl Wo))] sz) := by
  refine Met.ofW (cc := b_Cells_makeStep) (maxL := 3) (ret := some .int) (by decide) rfl ?_
  intro p e s m args below meth c s₁ B hml hv
  obtain ⟨rfl, hsz, hP, hK, hD0, hN⟩ := hv
  have hx := B.exec
  have hb := B.bytes
  have hr := B.returns
  have hts : ∀ w ∈ BG, w.before _ s = true := fun w h => atoms_spec (ws := .code y_Cells_makeStep b_Cells_makeStep 3 (some .int) :: BG) B.pre w (List.mem_cons_of_mem _ h)
  have hown : s.vm.findClass R_Cells = some m.cls := findClass_of_methodNamed B.named
  have hlocks := B.notSynchronized
  subst hsz
  have hD := hD0.self (sz := s.heap.size)
  generalize hAe : va_A [(o, .inr (2, [.int lim, .int mb, .ref g, .ref tn, .ref to, .int lo, .int rk])), (g, .inr (0, [.int v.1, .int v.2.1, .int v.2.2.1, .int v.2.2.2])), (tn, .inr (1, [.int (nI (C - 1)), .ref nm, .ref nk, .ref nv, .ref nw, .int (nI (cnt M C))])), (nm, .inl (cA, C, .inl M)), (nk, .inl (cA, C, .inl K)), (nv, .inl (cA, C, .inl V)), (nw, .inl (cA, 4, .inl Wd)), (to, .inr (1, [.int (nI (C - 1)), .ref om, .ref ok, .ref ov, .ref ow, .int (nI (cnt OM C))])), (om, .inl (cA, C, .inl OM)), (ok, .inl (cA, C, .inl OK)), (ov, .inl (cA, C, .inl OV)), (ow, .inl (cA, 4, .inl Wo))] s.heap.size = A at hD ⊢
  have hA : ∀ q : Nat, s.heap.size ≤ q → A q := fun q h => by rw [← hAe]; exact Or.inr h
  have hS : va_S A s.heap s.heap [] := va_S.rf
  have hP : va_P (dC, dI) cls [(o, .inr (2, [.int lim, .int mb, .ref g, .ref tn, .ref to, .int lo, .int rk])), (g, .inr (0, [.int v.1, .int v.2.1, .int v.2.2.1, .int v.2.2.2])), (tn, .inr (1, [.int (nI (C - 1)), .ref nm, .ref nk, .ref nv, .ref nw, .int (nI (cnt M C))])), (nm, .inl (cA, C, .inl M)), (nk, .inl (cA, C, .inl K)), (nv, .inl (cA, C, .inl V)), (nw, .inl (cA, 4, .inl Wd)), (to, .inr (1, [.int (nI (C - 1)), .ref om, .ref ok, .ref ov, .ref ow, .int (nI (cnt OM C))])), (om, .inl (cA, C, .inl OM)), (ok, .inl (cA, C, .inl OK)), (ov, .inl (cA, C, .inl OV)), (ow, .inl (cA, 4, .inl Wo))] s.heap := hP
  have hl := lv_entry ([.ref o]) (n := 3) (Nat.le_of_ble_eq_true rfl)
  rw [lg_entry_eq]
  generalize (lg_sl ([.ref o]) ++ List.replicate (3 - (lg_sl ([.ref o])).length) Slot.unset).toArray = ls at hl ⊢
  have hl : lv_has ls 3 [(0, .ref o)] := hl
  have hlo := hC.lo
  have hhi := hC.hi
  refine lv_iconst hx hb d_Cells_makeStep_0 (v := (nI 0)) rfl ?_
  refine lv_istore_n hx hb d_Cells_makeStep_1 rfl hl (by decide) rfl (fun ls hl => ?_)
  have hl : lv_has ls 3 [(1, .int (nI 0)), (0, .ref o)] := hl
  refine lv_iconst hx hb d_Cells_makeStep_2 (v := (nI 0)) rfl ?_
  refine lv_istore_n hx hb d_Cells_makeStep_3 rfl hl (by decide) rfl (fun ls hl => ?_)
  have hl : lv_has ls 3 [(2, .int (nI 0)), (1, .int (nI 0)), (0, .ref o)] := hl
  refine W.eq (g2 := F0 m 4 ls []) rfl ?_
  refine lq6 (fun (mv : Nat) (j : Nat) (OMx : Nat → Int32) (Mx : Nat → Int32) (Kx : Nat → Int32) (Vx : Nat → Int32) => C - j) (fun (mv : Nat) (j : Nat) (OMx : Nat → Int32) (Mx : Nat → Int32) (Kx : Nat → Int32) (Vx : Nat → Int32) ls H locs => (mv ≤ 4) ∧ (j ≤ C) ∧ (∀ a, a < j → OMx a ≠ 1) ∧ (mst C (hm C Wd) OK OV (4 - mv) (OMx, Mx, Kx, Vx) = (OM1, M1, K1, V1)) ∧ (mv + mcn C (4 - mv) OMx = mcn C 4 OM) ∧ (∀ a, a < C → Mx a = 0 ∨ Mx a = 1) ∧ (cnt OMx C + cnt Mx C < C) ∧ lv_has ls 3 [(0, .ref o), (1, .int (nI mv)), (2, .int (nI j))] ∧ va_P (dC, dI) cls [(o, .inr (2, [.int lim, .int mb, .ref g, .ref tn, .ref to, .int lo, .int rk])), (g, .inr (0, [.int v.1, .int v.2.1, .int v.2.2.1, .int v.2.2.2])), (tn, .inr (1, [.int (nI (C - 1)), .ref nm, .ref nk, .ref nv, .ref nw, .int (nI (cnt Mx C))])), (nm, .inl (cA, C, .inl Mx)), (nk, .inl (cA, C, .inl Kx)), (nv, .inl (cA, C, .inl Vx)), (nw, .inl (cA, 4, .inl Wd)), (to, .inr (1, [.int (nI (C - 1)), .ref om, .ref ok, .ref ov, .ref ow, .int (nI (cnt OMx C))])), (om, .inl (cA, C, .inl OMx)), (ok, .inl (cA, C, .inl OK)), (ov, .inl (cA, C, .inl OV)), (ow, .inl (cA, 4, .inl Wo))] H ∧ va_D A [(o, .inr (2, [.int lim, .int mb, .ref g, .ref tn, .ref to, .int lo, .int rk])), (g, .inr (0, [.int v.1, .int v.2.1, .int v.2.2.1, .int v.2.2.2])), (tn, .inr (1, [.int (nI (C - 1)), .ref nm, .ref nk, .ref nv, .ref nw, .int (nI (cnt Mx C))])), (nm, .inl (cA, C, .inl Mx)), (nk, .inl (cA, C, .inl Kx)), (nv, .inl (cA, C, .inl Vx)), (nw, .inl (cA, 4, .inl Wd)), (to, .inr (1, [.int (nI (C - 1)), .ref om, .ref ok, .ref ov, .ref ow, .int (nI (cnt OMx C))])), (om, .inl (cA, C, .inl OMx)), (ok, .inl (cA, C, .inl OK)), (ov, .inl (cA, C, .inl OV)), (ow, .inl (cA, 4, .inl Wo))] ∧ va_S A s.heap H locs) (fun mv j OMx Mx Kx Vx ls H locs hE ih4 => ?_) 0 0 OM M K V ls _ _ ⟨by omega, by omega, fun a ha => absurd ha (by omega), hst, Nat.zero_add _, h01, hcn, lv_sub hl [2, 1, 0] rfl, hP, hD, hS⟩
  obtain ⟨hmv, hj, hlow, hZ, hNm, h01, hcn, hl, hP, hD, hS⟩ := hE
  refine lv_iload_n hx hb d_Cells_makeStep_4 rfl (lv_at hl 2 rfl) ?_
  refine lv_aload_n hx hb d_Cells_makeStep_5 rfl (lv_at hl 0 rfl) ?_
  refine va_get (ci := 2) (C := R_Cells) (T := F_Cells) (N := 7) hx hb hts in_Cells hown hK hP 0 rfl rfl 4 (by decide) (hts _ wk_76) (fun _ h => h) rfl d_Cells_makeStep_6 ?_
  refine va_getN (ci := 1) (C := R_Table) (T := F_Table) (N := 6) hx hb hts in_Table hown hK hP 7 rfl rfl 0 (by decide) (va_Nw.use rfl (hN _ wn_2)) (fun _ h => h) rfl d_Cells_makeStep_9 ?_
  refine lv_icmp_gt hx hb d_Cells_makeStep_12 (tgt := 89) rfl (fun hc12 => ?_) (fun hc12 => ?_)
  · skip
    have hq : j = C := by
        have := (nI_ltI (by omega) (by omega)).mp hc12
        omega
    have h0 : cnt OMx C = 0 := cnt_none C (fun a ha => hlow a (by omega))
    have hlst : lst C OMx = C := lst_none (cnt_zero C h0)
    rw [mst_stop (s := (OMx, Mx, Kx, Vx)) hlst] at hZ
    rw [mcn_min, h0] at hNm
    have hN2 : mv = mcn C 4 OM := by omega
    simp only [Prod.mk.injEq] at hZ
    obtain ⟨rfl, rfl, rfl, rfl⟩ := hZ
    refine lv_iload_n hx hb d_Cells_makeStep_89 rfl (lv_at hl 1 rfl) ?_
    exact W.iret hx hb hr (fun tS ht hW => ⟨⟨_, (), rfl, congrArg nI hN2, by rw [ht]; exact hP, va_K.moved hW.alike hK, hD⟩, hS.F ht⟩) hS.2.2 d_Cells_makeStep_90 hlocks
  · skip
    have hq : j < C := by
        have : ¬ C - 1 < j := fun h => hc12 ((nI_ltI (by omega) (by omega)).mpr h)
        omega
    refine lv_iload_n hx hb d_Cells_makeStep_15 rfl (lv_at hl 1 rfl) ?_
    refine lv_iconst hx hb d_Cells_makeStep_16 (v := (nI 4)) rfl ?_
    refine lv_icmp_eq hx hb d_Cells_makeStep_17 (tgt := 89) rfl (fun hc17 => ?_) (fun hc17 => ?_)
    · skip
      have hq4 : mv = 4 := (nI_eq (by omega) (by omega)).mp hc17
      subst hq4
      have hN2 : 4 = mcn C 4 OM := by simpa [mcn] using hNm
      have hZ : (OMx, Mx, Kx, Vx) = (OM1, M1, K1, V1) := hZ
      simp only [Prod.mk.injEq] at hZ
      obtain ⟨rfl, rfl, rfl, rfl⟩ := hZ
      refine lv_iload_n hx hb d_Cells_makeStep_89 rfl (lv_at hl 1 rfl) ?_
      exact W.iret hx hb hr (fun tS ht hW => ⟨⟨_, (), rfl, congrArg nI hN2, by rw [ht]; exact hP, va_K.moved hW.alike hK, hD⟩, hS.F ht⟩) hS.2.2 d_Cells_makeStep_90 hlocks
    · skip
      have hq4 : ¬ mv = 4 := fun h => hc17 (congrArg nI h)
      have hcl := cnt_le OMx C
      refine lv_aload_n hx hb d_Cells_makeStep_20 rfl (lv_at hl 0 rfl) ?_
      refine va_get (ci := 2) (C := R_Cells) (T := F_Cells) (N := 7) hx hb hts in_Cells hown hK hP 0 rfl rfl 4 (by decide) (hts _ wk_76) (fun _ h => h) rfl d_Cells_makeStep_21 ?_
      refine va_getN (ci := 1) (C := R_Table) (T := F_Table) (N := 6) hx hb hts in_Table hown hK hP 7 rfl rfl 5 (by decide) (va_Nw.use rfl (hN _ wn_7)) (fun _ h => h) rfl d_Cells_makeStep_24 ?_
      refine lv_if_ne hx hb d_Cells_makeStep_27 (tgt := 33) rfl (fun hc27 => ?_) (fun hc27 => ?_)
      · skip
        refine lv_aload_n hx hb d_Cells_makeStep_33 rfl (lv_at hl 0 rfl) ?_
        refine va_get (ci := 2) (C := R_Cells) (T := F_Cells) (N := 7) hx hb hts in_Cells hown hK hP 0 rfl rfl 4 (by decide) (hts _ wk_76) (fun _ h => h) rfl d_Cells_makeStep_34 ?_
        refine va_getN (ci := 1) (C := R_Table) (T := F_Table) (N := 6) hx hb hts in_Table hown hK hP 7 rfl rfl 1 (by decide) (va_Nw.use rfl (hN _ wn_3)) (fun _ h => h) rfl d_Cells_makeStep_37 ?_
        refine W.eq (g2 := F0 m 40 ls [.ref om]) rfl ?_
        refine lv_iload_n hx hb d_Cells_makeStep_40 rfl (lv_at hl 2 rfl) ?_
        refine ia_ld (i := j) hx hb hK hP 8 rfl rfl (by omega) (by omega) d_Cells_makeStep_41 ?_
        refine lv_iconst hx hb d_Cells_makeStep_42 (v := 1) rfl ?_
        refine lv_icmp_ne hx hb d_Cells_makeStep_43 (tgt := 83) rfl (fun hc43 => ?_) (fun hc43 => ?_)
        · skip
          refine lv_iinc hx hb d_Cells_makeStep_83 hl (k := 2) rfl (v := nI (j + 1)) (nI_1 _) (by decide) rfl (fun ls hl => ?_)
          have hl : lv_has ls 3 [(2, .int (nI (j + 1))), (0, .ref o), (1, .int (nI mv))] := hl
          refine lv_goto hx hb d_Cells_makeStep_86 (tgt := 4) rfl ?_
          exact ih4 mv (j + 1) OMx Mx Kx Vx ls _ _ ⟨hmv, by omega, fun a ha => by
              by_cases e : a = j
              · rw [e]; exact hc43
              · exact hlow a (by omega), hZ, hNm, h01, hcn, lv_sub hl [1, 2, 0] rfl, hP, hD, hS⟩ (by omega)
        · skip
          have hlst : lst C OMx = j := lst_some hq hc43 hlow
          have c2 := cnt_out (x := 2) hq hc43 (by decide)
          have hfree := (plc_free hC (hm_lt hC Wd (OK j)) (cnt_free C h01 (by omega))).1
          have c1 := cnt_put (M := Mx) (n := C) (plc_lt hC Mx (hm C Wd (OK j))) (by rw [hfree]; decide)
          rw [show 4 - mv = (4 - (mv + 1)) + 1 by omega, mst] at hZ
          dsimp only at hZ
          rw [if_neg (by omega), hlst] at hZ
          rw [show 4 - mv = (4 - (mv + 1)) + 1 by omega, mcn, if_neg (by omega), hlst] at hNm
          refine lv_aload_n hx hb d_Cells_makeStep_46 rfl (lv_at hl 0 rfl) ?_
          refine va_get (ci := 2) (C := R_Cells) (T := F_Cells) (N := 7) hx hb hts in_Cells hown hK hP 0 rfl rfl 4 (by decide) (hts _ wk_76) (fun _ h => h) rfl d_Cells_makeStep_47 ?_
          refine lv_iload_n hx hb d_Cells_makeStep_50 rfl (lv_at hl 2 rfl) ?_
          refine rw_v (wc := [(to, .inr (1, [.int (nI (C - 1)), .ref om, .ref ok, .ref ov, .ref ow, .int (nI (cnt OMx C))])), (om, .inl (cA, C, .inl OMx)), (ok, .inl (cA, C, .inl OK)), (ov, .inl (cA, C, .inl OV)), (ow, .inl (cA, 4, .inl Wo))]) (wr := [(o, .inr (2, [.int lim, .int mb, .ref g, .ref tn, .ref to, .int lo, .int rk])), (g, .inr (0, [.int v.1, .int v.2.1, .int v.2.2.1, .int v.2.2.2])), (tn, .inr (1, [.int (nI (C - 1)), .ref nm, .ref nk, .ref nv, .ref nw, .int (nI (cnt Mx C))])), (nm, .inl (cA, C, .inl Mx)), (nk, .inl (cA, C, .inl Kx)), (nv, .inl (cA, C, .inl Vx)), (nw, .inl (cA, 4, .inl Wd))]) hP hD hS hA (va_runVN (As := [.int (nI j)]) (rest := []) ⟨hx, hb, hml, hown, hts⟩ (c_markGone l _ hC j hq) (⟨va_cnB 1 hts g_Cells_84 rfl rfl rfl (hN _ wn_10) (hts _ wk_4) (by decide +kernel) ⟨Nat.le_of_ble_eq_true rfl, Nat.le_of_ble_eq_true rfl⟩, hts _ wk_93, hts _ wk_401⟩) ⟨bl_RW, va_recv (q0 := 7) hK hP rfl rfl, pr_RW hK hP hD [7, 8, 9, 10, 11] rfl (by decide) rfl⟩ rfl rfl hl.1 rfl (lv_room (Nat.le_of_ble_eq_true rfl)) d_Cells_makeStep_51 ⟨Nat.zero_le _, Nat.zero_le _⟩) [7, 8, 9, 10, 11] [0, 1, 2, 3, 4, 5, 6] rfl rfl (by decide) (by decide) (fun _ H locs hq hP hD hS => ?_)
          have hP : va_P (dC, dI) cls [(o, .inr (2, [.int lim, .int mb, .ref g, .ref tn, .ref to, .int lo, .int rk])), (g, .inr (0, [.int v.1, .int v.2.1, .int v.2.2.1, .int v.2.2.2])), (tn, .inr (1, [.int (nI (C - 1)), .ref nm, .ref nk, .ref nv, .ref nw, .int (nI (cnt Mx C))])), (nm, .inl (cA, C, .inl Mx)), (nk, .inl (cA, C, .inl Kx)), (nv, .inl (cA, C, .inl Vx)), (nw, .inl (cA, 4, .inl Wd)), (to, .inr (1, [.int (nI (C - 1)), .ref om, .ref ok, .ref ov, .ref ow, .int ((nI (cnt OMx C)) - 1)])), (om, .inl (cA, C, .inl (upd OMx j 2))), (ok, .inl (cA, C, .inl OK)), (ov, .inl (cA, C, .inl OV)), (ow, .inl (cA, 4, .inl Wo))] H := hP
          have hD : va_D A [(o, .inr (2, [.int lim, .int mb, .ref g, .ref tn, .ref to, .int lo, .int rk])), (g, .inr (0, [.int v.1, .int v.2.1, .int v.2.2.1, .int v.2.2.2])), (tn, .inr (1, [.int (nI (C - 1)), .ref nm, .ref nk, .ref nv, .ref nw, .int (nI (cnt Mx C))])), (nm, .inl (cA, C, .inl Mx)), (nk, .inl (cA, C, .inl Kx)), (nv, .inl (cA, C, .inl Vx)), (nw, .inl (cA, 4, .inl Wd)), (to, .inr (1, [.int (nI (C - 1)), .ref om, .ref ok, .ref ov, .ref ow, .int ((nI (cnt OMx C)) - 1)])), (om, .inl (cA, C, .inl (upd OMx j 2))), (ok, .inl (cA, C, .inl OK)), (ov, .inl (cA, C, .inl OV)), (ow, .inl (cA, 4, .inl Wo))] := hD
          have e1 : nI (cnt OMx C) - 1 = nI (cnt (upd OMx j 2) C) := by rw [← c2]; exact nI_pred _
          rw [e1] at hP hD
          refine lv_aload_n hx hb d_Cells_makeStep_54 rfl (lv_at hl 0 rfl) ?_
          refine va_get (ci := 2) (C := R_Cells) (T := F_Cells) (N := 7) hx hb hts in_Cells hown hK hP 0 rfl rfl 3 (by decide) (hts _ wk_75) (fun _ h => h) rfl d_Cells_makeStep_55 ?_
          refine lv_aload_n hx hb d_Cells_makeStep_58 rfl (lv_at hl 0 rfl) ?_
          refine va_get (ci := 2) (C := R_Cells) (T := F_Cells) (N := 7) hx hb hts in_Cells hown hK hP 0 rfl rfl 4 (by decide) (hts _ wk_76) (fun _ h => h) rfl d_Cells_makeStep_59 ?_
          refine va_getN (ci := 1) (C := R_Table) (T := F_Table) (N := 6) hx hb hts in_Table hown hK hP 7 rfl rfl 2 (by decide) (va_Nw.use rfl (hN _ wn_4)) (fun _ h => h) rfl d_Cells_makeStep_62 ?_
          refine lv_iload_n hx hb d_Cells_makeStep_65 rfl (lv_at hl 2 rfl) ?_
          refine ia_ld (i := j) hx hb hK hP 9 rfl rfl (by omega) (by omega) d_Cells_makeStep_66 ?_
          refine lv_aload_n hx hb d_Cells_makeStep_67 rfl (lv_at hl 0 rfl) ?_
          refine W.eq (g2 := F0 m 68 ls [.ref o, .int (OK j), .ref tn]) rfl ?_
          refine va_get (ci := 2) (C := R_Cells) (T := F_Cells) (N := 7) hx hb hts in_Cells hown hK hP 0 rfl rfl 4 (by decide) (hts _ wk_76) (fun _ h => h) rfl d_Cells_makeStep_68 ?_
          refine va_getN (ci := 1) (C := R_Table) (T := F_Table) (N := 6) hx hb hts in_Table hown hK hP 7 rfl rfl 3 (by decide) (va_Nw.use rfl (hN _ wn_5)) (fun _ h => h) rfl d_Cells_makeStep_71 ?_
          refine lv_iload_n hx hb d_Cells_makeStep_74 rfl (lv_at hl 2 rfl) ?_
          refine ia_ld (i := j) hx hb hK hP 10 rfl rfl (by omega) (by omega) d_Cells_makeStep_75 ?_
          refine rw_i (wc := [(tn, .inr (1, [.int (nI (C - 1)), .ref nm, .ref nk, .ref nv, .ref nw, .int (nI (cnt Mx C))])), (nm, .inl (cA, C, .inl Mx)), (nk, .inl (cA, C, .inl Kx)), (nv, .inl (cA, C, .inl Vx)), (nw, .inl (cA, 4, .inl Wd))]) (wr := [(o, .inr (2, [.int lim, .int mb, .ref g, .ref tn, .ref to, .int lo, .int rk])), (g, .inr (0, [.int v.1, .int v.2.1, .int v.2.2.1, .int v.2.2.2])), (to, .inr (1, [.int (nI (C - 1)), .ref om, .ref ok, .ref ov, .ref ow, .int (nI (cnt (upd OMx j 2) C))])), (om, .inl (cA, C, .inl (upd OMx j 2))), (ok, .inl (cA, C, .inl OK)), (ov, .inl (cA, C, .inl OV)), (ow, .inl (cA, 4, .inl Wo))]) hP hD hS hA (va_runVN (As := [.int (OK j), .int (OV j)]) (rest := []) ⟨hx, hb, hml, hown, hts⟩ (c_place l _ hC (OK j) (OV j)) (⟨va_cnB 2 hts g_Cells_68 rfl rfl rfl (hN _ wn_11) (hts _ wk_4) (by decide +kernel) ⟨Nat.le_of_ble_eq_true rfl, Nat.le_of_ble_eq_true rfl⟩, hts _ wk_95, hts _ wk_402⟩) ⟨bl_RW, va_recv (q0 := 2) hK hP rfl rfl, pr_RW hK hP hD [2, 3, 4, 5, 6] rfl (by decide) rfl⟩ rfl rfl hl.1 rfl (lv_room (Nat.le_of_ble_eq_true rfl)) d_Cells_makeStep_76 ⟨Nat.zero_le _, Nat.zero_le _⟩) [2, 3, 4, 5, 6] [0, 1, 7, 8, 9, 10, 11] rfl rfl (by decide) (by decide) (fun rp _ H locs hq hP hD hS => ?_)
          have hP : va_P (dC, dI) cls [(o, .inr (2, [.int lim, .int mb, .ref g, .ref tn, .ref to, .int lo, .int rk])), (g, .inr (0, [.int v.1, .int v.2.1, .int v.2.2.1, .int v.2.2.2])), (to, .inr (1, [.int (nI (C - 1)), .ref om, .ref ok, .ref ov, .ref ow, .int (nI (cnt (upd OMx j 2) C))])), (om, .inl (cA, C, .inl (upd OMx j 2))), (ok, .inl (cA, C, .inl OK)), (ov, .inl (cA, C, .inl OV)), (ow, .inl (cA, 4, .inl Wo)), (tn, .inr (1, [.int (nI (C - 1)), .ref nm, .ref nk, .ref nv, .ref nw, .int ((nI (cnt Mx C)) + 1)])), (nm, .inl (cA, C, .inl (upd Mx (plc C Mx (hm C Wd (OK j))) 1))), (nk, .inl (cA, C, .inl (upd Kx (plc C Mx (hm C Wd (OK j))) (OK j)))), (nv, .inl (cA, C, .inl (upd Vx (plc C Mx (hm C Wd (OK j))) (OV j)))), (nw, .inl (cA, 4, .inl Wd))] H := hP
          have hD : va_D A [(o, .inr (2, [.int lim, .int mb, .ref g, .ref tn, .ref to, .int lo, .int rk])), (g, .inr (0, [.int v.1, .int v.2.1, .int v.2.2.1, .int v.2.2.2])), (to, .inr (1, [.int (nI (C - 1)), .ref om, .ref ok, .ref ov, .ref ow, .int (nI (cnt (upd OMx j 2) C))])), (om, .inl (cA, C, .inl (upd OMx j 2))), (ok, .inl (cA, C, .inl OK)), (ov, .inl (cA, C, .inl OV)), (ow, .inl (cA, 4, .inl Wo)), (tn, .inr (1, [.int (nI (C - 1)), .ref nm, .ref nk, .ref nv, .ref nw, .int ((nI (cnt Mx C)) + 1)])), (nm, .inl (cA, C, .inl (upd Mx (plc C Mx (hm C Wd (OK j))) 1))), (nk, .inl (cA, C, .inl (upd Kx (plc C Mx (hm C Wd (OK j))) (OK j)))), (nv, .inl (cA, C, .inl (upd Vx (plc C Mx (hm C Wd (OK j))) (OV j)))), (nw, .inl (cA, 4, .inl Wd))] := hD
          have hP := hP.sub (ws' := [(o, .inr (2, [.int lim, .int mb, .ref g, .ref tn, .ref to, .int lo, .int rk])), (g, .inr (0, [.int v.1, .int v.2.1, .int v.2.2.1, .int v.2.2.2])), (tn, .inr (1, [.int (nI (C - 1)), .ref nm, .ref nk, .ref nv, .ref nw, .int ((nI (cnt Mx C)) + 1)])), (nm, .inl (cA, C, .inl (upd Mx (plc C Mx (hm C Wd (OK j))) 1))), (nk, .inl (cA, C, .inl (upd Kx (plc C Mx (hm C Wd (OK j))) (OK j)))), (nv, .inl (cA, C, .inl (upd Vx (plc C Mx (hm C Wd (OK j))) (OV j)))), (nw, .inl (cA, 4, .inl Wd)), (to, .inr (1, [.int (nI (C - 1)), .ref om, .ref ok, .ref ov, .ref ow, .int (nI (cnt (upd OMx j 2) C))])), (om, .inl (cA, C, .inl (upd OMx j 2))), (ok, .inl (cA, C, .inl OK)), (ov, .inl (cA, C, .inl OV)), (ow, .inl (cA, 4, .inl Wo))]) [0, 1, 7, 8, 9, 10, 11, 2, 3, 4, 5, 6] rfl
          have hD := hD.sub (ws' := [(o, .inr (2, [.int lim, .int mb, .ref g, .ref tn, .ref to, .int lo, .int rk])), (g, .inr (0, [.int v.1, .int v.2.1, .int v.2.2.1, .int v.2.2.2])), (tn, .inr (1, [.int (nI (C - 1)), .ref nm, .ref nk, .ref nv, .ref nw, .int ((nI (cnt Mx C)) + 1)])), (nm, .inl (cA, C, .inl (upd Mx (plc C Mx (hm C Wd (OK j))) 1))), (nk, .inl (cA, C, .inl (upd Kx (plc C Mx (hm C Wd (OK j))) (OK j)))), (nv, .inl (cA, C, .inl (upd Vx (plc C Mx (hm C Wd (OK j))) (OV j)))), (nw, .inl (cA, 4, .inl Wd)), (to, .inr (1, [.int (nI (C - 1)), .ref om, .ref ok, .ref ov, .ref ow, .int (nI (cnt (upd OMx j 2) C))])), (om, .inl (cA, C, .inl (upd OMx j 2))), (ok, .inl (cA, C, .inl OK)), (ov, .inl (cA, C, .inl OV)), (ow, .inl (cA, 4, .inl Wo))]) [0, 1, 7, 8, 9, 10, 11, 2, 3, 4, 5, 6] (by decide) rfl
          have e2 : nI (cnt Mx C) + 1 = nI (cnt (upd Mx (plc C Mx (hm C Wd (OK j))) 1) C) := by rw [c1]; exact nI_1 _
          rw [e2] at hP hD
          refine lv_pop hx hb d_Cells_makeStep_79 rfl ?_
          refine lv_iinc hx hb d_Cells_makeStep_80 hl (k := 1) rfl (v := nI (mv + 1)) (nI_1 _) (by decide) rfl (fun ls hl => ?_)
          have hl : lv_has ls 3 [(1, .int (nI (mv + 1))), (0, .ref o), (2, .int (nI j))] := hl
          refine lv_iinc hx hb d_Cells_makeStep_83 hl (k := 2) rfl (v := nI (j + 1)) (nI_1 _) (by decide) rfl (fun ls hl => ?_)
          have hl : lv_has ls 3 [(2, .int (nI (j + 1))), (1, .int (nI (mv + 1))), (0, .ref o)] := hl
          refine lv_goto hx hb d_Cells_makeStep_86 (tgt := 4) rfl ?_
          exact ih4 (mv + 1) (j + 1) (upd OMx j 2) (upd Mx (plc C Mx (hm C Wd (OK j))) 1) (upd Kx (plc C Mx (hm C Wd (OK j))) (OK j)) (upd Vx (plc C Mx (hm C Wd (OK j))) (OV j)) ls _ _ ⟨by omega, by omega, fun a ha => by
              by_cases e : a = j
              · rw [e, pk_us]; decide
              · rw [pk_un e]; exact hlow a (by omega), hZ, by omega, fun a ha => by
              by_cases e : a = plc C Mx (hm C Wd (OK j))
              · rw [e, pk_us]; exact Or.inr rfl
              · rw [pk_un e]; exact h01 a ha, by omega, lv_sub hl [2, 1, 0] rfl, hP, hD, hS⟩ (by omega)
      · skip
        have h0 : cnt OMx C = 0 := (nI_eq (a := cnt OMx C) (b := 0) (by omega) (by omega)).mp hc27
        have hlst : lst C OMx = C := lst_none (cnt_zero C h0)
        rw [mst_stop (s := (OMx, Mx, Kx, Vx)) hlst] at hZ
        rw [mcn_min, h0] at hNm
        have hN2 : mv = mcn C 4 OM := by omega
        simp only [Prod.mk.injEq] at hZ
        obtain ⟨rfl, rfl, rfl, rfl⟩ := hZ
        refine lv_goto hx hb d_Cells_makeStep_30 (tgt := 89) rfl ?_
        refine lv_iload_n hx hb d_Cells_makeStep_89 rfl (lv_at hl 1 rfl) ?_
        exact W.iret hx hb hr (fun tS ht hW => ⟨⟨_, (), rfl, congrArg nI hN2, by rw [ht]; exact hP, va_K.moved hW.alike hK, hD⟩, hS.F ht⟩) hS.2.2 d_Cells_makeStep_90 hlocks
