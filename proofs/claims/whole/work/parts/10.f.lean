set_option maxHeartbeats 4000000 in
set_option maxRecDepth 100000 in
theorem c_place (l : Launch) {dC : Nat → ClassId} {dI : Nat → Nat → Nat} {cA : ClassId} (sz : Nat) {t am ak av aw C : Nat} {n : Int32} {M K V Wd : Nat → Int32} (hC : szC C) (x y : Int32) : Met l y_Table_place (.code y_Table_place b_Table_place 5 (some .int) :: BG) ({ frames := 3, cells := 0, slots := 0, locals := 79 }) (pRW dC dI cA [.ref t, .int x, .int y] [(t, .inr (1, [.int (nI (C - 1)), .ref am, .ref ak, .ref av, .ref aw, .int n])), (am, .inl (cA, C, .inl M)), (ak, .inl (cA, C, .inl K)), (av, .inl (cA, C, .inl V)), (aw, .inl (cA, 4, .inl Wd))] sz) (va_Qi (fun r (_ : Unit) => r = nI (pld C M (hm C Wd x) + 1)) (fun _ tS => wdB dC dI cA (va_A [(t, .inr (1, [.int (nI (C - 1)), .ref am, .ref ak, .ref av, .ref aw, .int n])), (am, .inl (cA, C, .inl M)), (ak, .inl (cA, C, .inl K)), (av, .inl (cA, C, .inl V)), (aw, .inl (cA, 4, .inl Wd))] sz) [(t, .inr (1, [.int (nI (C - 1)), .ref am, .ref ak, .ref av, .ref aw, .int (n + 1)])), (am, .inl (cA, C, .inl (upd M (plc C M (hm C Wd x)) 1))), (ak, .inl (cA, C, .inl (upd K (plc C M (hm C Wd x)) x))), (av, .inl (cA, C, .inl (upd V (plc C M (hm C Wd x)) y))), (aw, .inl (cA, 4, .inl Wd))] tS) (va_A [(t, .inr (1, [.int (nI (C - 1)), .ref am, .ref ak, .ref av, .ref aw, .int n])), (am, .inl (cA, C, .inl M)), (ak, .inl (cA, C, .inl K)), (av, .inl (cA, C, .inl V)), (aw, .inl (cA, 4, .inl Wd))] sz)) 0 0 (va_A [(t, .inr (1, [.int (nI (C - 1)), .ref am, .ref ak, .ref av, .ref aw, .int n])), (am, .inl (cA, C, .inl M)), (ak, .inl (cA, C, .inl K)), (av, .inl (cA, C, .inl V)), (aw, .inl (cA, 4, .inl Wd))] sz) := by
  refine Met.ofW (cc := b_Table_place) (maxL := 5) (ret := some .int) (by decide) rfl ?_
  intro p e s m args below meth c s₁ B hml hv
  obtain ⟨rfl, hsz, hP, hK, hD0⟩ := hv
  have hx := B.exec
  have hb := B.bytes
  have hr := B.returns
  have hts : ∀ w ∈ BG, w.before _ s = true := fun w h => atoms_spec (ws := .code y_Table_place b_Table_place 5 (some .int) :: BG) B.pre w (List.mem_cons_of_mem _ h)
  have hown : s.vm.findClass R_Table = some m.cls := findClass_of_methodNamed B.named
  have hlocks := B.notSynchronized
  subst hsz
  have hD := hD0.self (sz := s.heap.size)
  generalize hAe : va_A [(t, .inr (1, [.int (nI (C - 1)), .ref am, .ref ak, .ref av, .ref aw, .int n])), (am, .inl (cA, C, .inl M)), (ak, .inl (cA, C, .inl K)), (av, .inl (cA, C, .inl V)), (aw, .inl (cA, 4, .inl Wd))] s.heap.size = A at hD ⊢
  have hA : ∀ q : Nat, s.heap.size ≤ q → A q := fun q h => by rw [← hAe]; exact Or.inr h
  have hS : va_S A s.heap s.heap [] := va_S.rf
  have hP : va_P (dC, dI) cls [(t, .inr (1, [.int (nI (C - 1)), .ref am, .ref ak, .ref av, .ref aw, .int n])), (am, .inl (cA, C, .inl M)), (ak, .inl (cA, C, .inl K)), (av, .inl (cA, C, .inl V)), (aw, .inl (cA, 4, .inl Wd))] s.heap := hP
  have hl := lv_entry ([.ref t, .int x, .int y]) (n := 5) (Nat.le_of_ble_eq_true rfl)
  rw [lg_entry_eq]
  generalize (lg_sl ([.ref t, .int x, .int y]) ++ List.replicate (5 - (lg_sl ([.ref t, .int x, .int y])).length) Slot.unset).toArray = ls at hl ⊢
  have hl : lv_has ls 5 [(0, .ref t), (1, .int x), (2, .int y)] := hl
  refine lv_aload_n hx hb d_Table_place_0 rfl (lv_at hl 0 rfl) ?_
  refine lv_iload_n hx hb d_Table_place_1 rfl (lv_at hl 1 rfl) ?_
  refine ro_i (va_runV (As := [.int x]) (rest := []) ⟨hx, hb, hml, hown, hts⟩ (c_homeOf l hC x hP) (cwV 1 hts g_Table_58 rfl rfl rfl (by decide +kernel) ⟨Nat.le_of_ble_eq_true rfl, Nat.le_of_ble_eq_true rfl⟩) ⟨bl_RO, va_recv (q0 := 0) hK hP rfl rfl, fun U hU hW => ⟨rfl, hU, va_K.moved hW.alike hK⟩⟩ rfl rfl hl.1 rfl (lv_room (Nat.le_of_ble_eq_true rfl)) d_Table_place_2 ⟨Nat.zero_le _, Nat.zero_le _⟩) hS (fun locs hS => ?_)
  refine lv_istore_n hx hb d_Table_place_5 rfl hl (by decide) rfl (fun ls hl => ?_)
  have hl : lv_has ls 5 [(3, .int (nI (hm C Wd x))), (0, .ref t), (1, .int x), (2, .int y)] := hl
  refine lv_iconst hx hb d_Table_place_6 (v := (nI 1)) rfl ?_
  refine lv_istore hx hb d_Table_place_7 hl (by decide) rfl (fun ls hl => ?_)
  have hl : lv_has ls 5 [(4, .int (nI 1)), (3, .int (nI (hm C Wd x))), (0, .ref t), (1, .int x), (2, .int y)] := hl
  have hlo := hC.lo
  have hhi := hC.hi
  have hh := hm_lt hC Wd x
  rw [show nI (hm C Wd x) = nI ((hm C Wd x + 0) % C) by rw [Nat.add_zero, Nat.mod_eq_of_lt hh]] at hl
  refine W.eq (g2 := F0 m 9 ls []) rfl ?_
  refine lq1 (fun (d : Nat) => C - d) (fun (d : Nat) ls H locs => (d ≤ C - 1) ∧ (fd C M (C - 1 - d) ((hm C Wd x + d) % C) + d = pld C M (hm C Wd x)) ∧ lv_has ls 5 [(0, .ref t), (1, .int x), (2, .int y), (3, .int (nI ((hm C Wd x + d) % C))), (4, .int (nI (d + 1)))] ∧ va_P (dC, dI) cls [(t, .inr (1, [.int (nI (C - 1)), .ref am, .ref ak, .ref av, .ref aw, .int n])), (am, .inl (cA, C, .inl M)), (ak, .inl (cA, C, .inl K)), (av, .inl (cA, C, .inl V)), (aw, .inl (cA, 4, .inl Wd))] H ∧ va_D A [(t, .inr (1, [.int (nI (C - 1)), .ref am, .ref ak, .ref av, .ref aw, .int n])), (am, .inl (cA, C, .inl M)), (ak, .inl (cA, C, .inl K)), (av, .inl (cA, C, .inl V)), (aw, .inl (cA, 4, .inl Wd))] ∧ va_S A s.heap H locs) (fun d ls H locs hE ih9 => ?_) 0 ls _ _ ⟨Nat.zero_le _, by rw [Nat.add_zero, Nat.add_zero, Nat.mod_eq_of_lt hh]; rfl, lv_sub hl [2, 3, 4, 1, 0] rfl, hP, hD, hS⟩
  obtain ⟨hd, hZ, hl, hP, hD, hS⟩ := hE
  have hc : (hm C Wd x + d) % C < C := md_lt hC
  refine lv_iload hx hb d_Table_place_9 (lv_at hl 4 rfl) ?_
  refine lv_aload_n hx hb d_Table_place_11 rfl (lv_at hl 0 rfl) ?_
  refine va_get (ci := 1) (C := R_Table) (T := F_Table) (N := 6) hx hb hts in_Table hown hK hP 0 rfl rfl 0 (by decide) (hts _ wk_49) (fun _ h => h) rfl d_Table_place_12 ?_
  refine lv_icmp_gt hx hb d_Table_place_15 (tgt := 42) rfl (fun hc15 => ?_) (fun hc15 => ?_)
  · skip
    have hq : d = pld C M (hm C Wd x) := by
      have h9 := (nI_ltI (by omega) (by omega)).mp hc15
      rw [show C - 1 - d = 0 by omega] at hZ
      simpa [fd] using hZ
    obtain rfl : d = pld C M (hm C Wd x) := hq
    refine lv_aload_n hx hb d_Table_place_42 rfl (lv_at hl 0 rfl) ?_
    refine lv_iload_n hx hb d_Table_place_43 rfl (lv_at hl 3 rfl) ?_
    refine lv_iload_n hx hb d_Table_place_44 rfl (lv_at hl 1 rfl) ?_
    refine lv_iload_n hx hb d_Table_place_45 rfl (lv_at hl 2 rfl) ?_
    refine rw_v (wc := [(t, .inr (1, [.int (nI (C - 1)), .ref am, .ref ak, .ref av, .ref aw, .int n])), (am, .inl (cA, C, .inl M)), (ak, .inl (cA, C, .inl K)), (av, .inl (cA, C, .inl V)), (aw, .inl (cA, 4, .inl Wd))]) (wr := []) hP hD hS hA (va_runV (As := [.int (nI (plc C M (hm C Wd x))), .int x, .int y]) (rest := []) ⟨hx, hb, hml, hown, hts⟩ (c_fill l _ hC _ (plc_lt hC M (hm C Wd x)) x y) (cwV 3 hts g_Table_65 rfl rfl rfl (by decide +kernel) ⟨Nat.le_of_ble_eq_true rfl, Nat.le_of_ble_eq_true rfl⟩) ⟨bl_RW, va_recv (q0 := 0) hK hP rfl rfl, pr_RW hK hP hD [0, 1, 2, 3, 4] rfl (by decide) rfl⟩ rfl rfl hl.1 rfl (lv_room (Nat.le_of_ble_eq_true rfl)) d_Table_place_46 ⟨Nat.zero_le _, Nat.zero_le _⟩) [0, 1, 2, 3, 4] [] rfl rfl (by decide) (by decide) (fun _ H locs hq hP hD hS => ?_)
    have hP : va_P (dC, dI) cls [(t, .inr (1, [.int (nI (C - 1)), .ref am, .ref ak, .ref av, .ref aw, .int n])), (am, .inl (cA, C, .inl (upd M (plc C M (hm C Wd x)) 1))), (ak, .inl (cA, C, .inl (upd K (plc C M (hm C Wd x)) x))), (av, .inl (cA, C, .inl (upd V (plc C M (hm C Wd x)) y))), (aw, .inl (cA, 4, .inl Wd))] H := hP
    have hD : va_D A [(t, .inr (1, [.int (nI (C - 1)), .ref am, .ref ak, .ref av, .ref aw, .int n])), (am, .inl (cA, C, .inl (upd M (plc C M (hm C Wd x)) 1))), (ak, .inl (cA, C, .inl (upd K (plc C M (hm C Wd x)) x))), (av, .inl (cA, C, .inl (upd V (plc C M (hm C Wd x)) y))), (aw, .inl (cA, 4, .inl Wd))] := hD
    refine lv_aload_n hx hb d_Table_place_49 rfl (lv_at hl 0 rfl) ?_
    refine lv_dup hx hb d_Table_place_50 rfl ?_
    refine va_get (ci := 1) (C := R_Table) (T := F_Table) (N := 6) hx hb hts in_Table hown hK hP 0 rfl rfl 5 (by decide) (hts _ wk_54) (fun _ h => h) rfl d_Table_place_51 ?_
    refine lv_iconst hx hb d_Table_place_54 (v := 1) rfl ?_
    refine lv_iadd hx hb d_Table_place_55 ?_
    refine va_put (D := (dC, dI)) (ci := 1) (v := .int (n + 1)) (ty := .int) (C := R_Table) (T := F_Table) (N := 6) hx hb hts in_Table t_Table t_Table_ok n_Table hown hK hP hD hS 0 rfl rfl 5 (by decide) (hts _ wk_54) (fun _ h => h) rfl t_Table_5 rfl rfl (Nat.le_of_ble_eq_true rfl) d_Table_place_56 (fun H locs hP hD hS => ?_)
    have hP : va_P (dC, dI) cls [(t, .inr (1, [.int (nI (C - 1)), .ref am, .ref ak, .ref av, .ref aw, .int (n + 1)])), (am, .inl (cA, C, .inl (upd M (plc C M (hm C Wd x)) 1))), (ak, .inl (cA, C, .inl (upd K (plc C M (hm C Wd x)) x))), (av, .inl (cA, C, .inl (upd V (plc C M (hm C Wd x)) y))), (aw, .inl (cA, 4, .inl Wd))] H := hP
    have hD : va_D A [(t, .inr (1, [.int (nI (C - 1)), .ref am, .ref ak, .ref av, .ref aw, .int (n + 1)])), (am, .inl (cA, C, .inl (upd M (plc C M (hm C Wd x)) 1))), (ak, .inl (cA, C, .inl (upd K (plc C M (hm C Wd x)) x))), (av, .inl (cA, C, .inl (upd V (plc C M (hm C Wd x)) y))), (aw, .inl (cA, 4, .inl Wd))] := hD
    refine W.eq (g2 := F0 m 59 ls []) rfl ?_
    refine lv_iload hx hb d_Table_place_59 (lv_at hl 4 rfl) ?_
    exact W.iret hx hb hr (fun tS ht hW => ⟨⟨_, (), rfl, rfl, by rw [ht]; exact hP, va_K.moved hW.alike hK, hD⟩, hS.F ht⟩) hS.2.2 d_Table_place_61 hlocks
  · skip
    have hq : ¬ C - 1 < d + 1 := fun h => hc15 ((nI_ltI (by omega) (by omega)).mpr h)
    rw [show C - 1 - d = (C - 1 - (d + 1)) + 1 by omega, fd] at hZ
    refine lv_aload_n hx hb d_Table_place_18 rfl (lv_at hl 0 rfl) ?_
    refine va_get (ci := 1) (C := R_Table) (T := F_Table) (N := 6) hx hb hts in_Table hown hK hP 0 rfl rfl 1 (by decide) (hts _ wk_50) (fun _ h => h) rfl d_Table_place_19 ?_
    refine lv_iload_n hx hb d_Table_place_22 rfl (lv_at hl 3 rfl) ?_
    refine ia_ld (i := ((hm C Wd x + d) % C)) hx hb hK hP 1 rfl rfl (by omega) (by omega) d_Table_place_23 ?_
    refine lv_if_eq hx hb d_Table_place_24 (tgt := 42) rfl (fun hc24 => ?_) (fun hc24 => ?_)
    · skip
      rw [if_pos hc24] at hZ
      have hq : d = pld C M (hm C Wd x) := by omega
      obtain rfl : d = pld C M (hm C Wd x) := hq
      refine lv_aload_n hx hb d_Table_place_42 rfl (lv_at hl 0 rfl) ?_
      refine lv_iload_n hx hb d_Table_place_43 rfl (lv_at hl 3 rfl) ?_
      refine lv_iload_n hx hb d_Table_place_44 rfl (lv_at hl 1 rfl) ?_
      refine lv_iload_n hx hb d_Table_place_45 rfl (lv_at hl 2 rfl) ?_
      refine rw_v (wc := [(t, .inr (1, [.int (nI (C - 1)), .ref am, .ref ak, .ref av, .ref aw, .int n])), (am, .inl (cA, C, .inl M)), (ak, .inl (cA, C, .inl K)), (av, .inl (cA, C, .inl V)), (aw, .inl (cA, 4, .inl Wd))]) (wr := []) hP hD hS hA (va_runV (As := [.int (nI (plc C M (hm C Wd x))), .int x, .int y]) (rest := []) ⟨hx, hb, hml, hown, hts⟩ (c_fill l _ hC _ (plc_lt hC M (hm C Wd x)) x y) (cwV 3 hts g_Table_65 rfl rfl rfl (by decide +kernel) ⟨Nat.le_of_ble_eq_true rfl, Nat.le_of_ble_eq_true rfl⟩) ⟨bl_RW, va_recv (q0 := 0) hK hP rfl rfl, pr_RW hK hP hD [0, 1, 2, 3, 4] rfl (by decide) rfl⟩ rfl rfl hl.1 rfl (lv_room (Nat.le_of_ble_eq_true rfl)) d_Table_place_46 ⟨Nat.zero_le _, Nat.zero_le _⟩) [0, 1, 2, 3, 4] [] rfl rfl (by decide) (by decide) (fun _ H locs hq hP hD hS => ?_)
      have hP : va_P (dC, dI) cls [(t, .inr (1, [.int (nI (C - 1)), .ref am, .ref ak, .ref av, .ref aw, .int n])), (am, .inl (cA, C, .inl (upd M (plc C M (hm C Wd x)) 1))), (ak, .inl (cA, C, .inl (upd K (plc C M (hm C Wd x)) x))), (av, .inl (cA, C, .inl (upd V (plc C M (hm C Wd x)) y))), (aw, .inl (cA, 4, .inl Wd))] H := hP
      have hD : va_D A [(t, .inr (1, [.int (nI (C - 1)), .ref am, .ref ak, .ref av, .ref aw, .int n])), (am, .inl (cA, C, .inl (upd M (plc C M (hm C Wd x)) 1))), (ak, .inl (cA, C, .inl (upd K (plc C M (hm C Wd x)) x))), (av, .inl (cA, C, .inl (upd V (plc C M (hm C Wd x)) y))), (aw, .inl (cA, 4, .inl Wd))] := hD
      refine lv_aload_n hx hb d_Table_place_49 rfl (lv_at hl 0 rfl) ?_
      refine W.eq (g2 := F0 m 50 ls [.ref t]) rfl ?_
      refine lv_dup hx hb d_Table_place_50 rfl ?_
      refine va_get (ci := 1) (C := R_Table) (T := F_Table) (N := 6) hx hb hts in_Table hown hK hP 0 rfl rfl 5 (by decide) (hts _ wk_54) (fun _ h => h) rfl d_Table_place_51 ?_
      refine lv_iconst hx hb d_Table_place_54 (v := 1) rfl ?_
      refine lv_iadd hx hb d_Table_place_55 ?_
      refine va_put (D := (dC, dI)) (ci := 1) (v := .int (n + 1)) (ty := .int) (C := R_Table) (T := F_Table) (N := 6) hx hb hts in_Table t_Table t_Table_ok n_Table hown hK hP hD hS 0 rfl rfl 5 (by decide) (hts _ wk_54) (fun _ h => h) rfl t_Table_5 rfl rfl (Nat.le_of_ble_eq_true rfl) d_Table_place_56 (fun H locs hP hD hS => ?_)
      have hP : va_P (dC, dI) cls [(t, .inr (1, [.int (nI (C - 1)), .ref am, .ref ak, .ref av, .ref aw, .int (n + 1)])), (am, .inl (cA, C, .inl (upd M (plc C M (hm C Wd x)) 1))), (ak, .inl (cA, C, .inl (upd K (plc C M (hm C Wd x)) x))), (av, .inl (cA, C, .inl (upd V (plc C M (hm C Wd x)) y))), (aw, .inl (cA, 4, .inl Wd))] H := hP
      have hD : va_D A [(t, .inr (1, [.int (nI (C - 1)), .ref am, .ref ak, .ref av, .ref aw, .int (n + 1)])), (am, .inl (cA, C, .inl (upd M (plc C M (hm C Wd x)) 1))), (ak, .inl (cA, C, .inl (upd K (plc C M (hm C Wd x)) x))), (av, .inl (cA, C, .inl (upd V (plc C M (hm C Wd x)) y))), (aw, .inl (cA, 4, .inl Wd))] := hD
      refine lv_iload hx hb d_Table_place_59 (lv_at hl 4 rfl) ?_
      exact W.iret hx hb hr (fun tS ht hW => ⟨⟨_, (), rfl, rfl, by rw [ht]; exact hP, va_K.moved hW.alike hK, hD⟩, hS.F ht⟩) hS.2.2 d_Table_place_61 hlocks
    · skip
      rw [if_neg hc24, md_next hC] at hZ
      refine lv_iload_n hx hb d_Table_place_27 rfl (lv_at hl 3 rfl) ?_
      refine lv_iconst hx hb d_Table_place_28 (v := 1) rfl ?_
      refine lv_iadd hx hb d_Table_place_29 ?_
      refine lv_aload_n hx hb d_Table_place_30 rfl (lv_at hl 0 rfl) ?_
      refine va_get (ci := 1) (C := R_Table) (T := F_Table) (N := 6) hx hb hts in_Table hown hK hP 0 rfl rfl 0 (by decide) (hts _ wk_49) (fun _ h => h) rfl d_Table_place_31 ?_
      refine lv_iand hx hb d_Table_place_34 ?_
      refine lv_asI (y := nI ((hm C Wd x + (d + 1)) % C)) ((mk_next hC hc).trans (by rw [md_next hC])) ?_
      refine W.eq (g2 := F0 m 35 ls [.int (nI ((hm C Wd x + (d + 1)) % C))]) rfl ?_
      refine lv_istore_n hx hb d_Table_place_35 rfl hl (by decide) rfl (fun ls hl => ?_)
      have hl : lv_has ls 5 [(3, .int (nI ((hm C Wd x + (d + 1)) % C))), (0, .ref t), (1, .int x), (2, .int y), (4, .int (nI (d + 1)))] := hl
      refine lv_iinc hx hb d_Table_place_36 hl (k := 4) rfl (v := nI (d + 1 + 1)) (nI_1 _) (by decide) rfl (fun ls hl => ?_)
      have hl : lv_has ls 5 [(4, .int (nI (d + 1 + 1))), (3, .int (nI ((hm C Wd x + (d + 1)) % C))), (0, .ref t), (1, .int x), (2, .int y)] := hl
      refine lv_goto hx hb d_Table_place_39 (tgt := 9) rfl ?_
      exact ih9 (d + 1) ls _ _ ⟨by omega, by omega, lv_sub hl [2, 3, 4, 1, 0] rfl, hP, hD, hS⟩ (by omega)
set_option maxHeartbeats 4000000 in
set_option maxRecDepth 100000 in
theorem c_takeOut (l : Launch) {dC : Nat → ClassId} {dI : Nat → Nat → Nat} {cA : ClassId} (sz : Nat) {t am ak av aw C : Nat} {n : Int32} {M K V Wd : Nat → Int32} (hC : szC C) (fr : Nat) (hfr : fr < C) : Met l y_Table_takeOut (.code y_Table_takeOut b_Table_takeOut 7 none :: BG) ({ frames := 3, cells := 0, slots := 0, locals := 79 }) (pRW dC dI cA [.ref t, .int (nI fr)] [(t, .inr (1, [.int (nI (C - 1)), .ref am, .ref ak, .ref av, .ref aw, .int n])), (am, .inl (cA, C, .inl M)), (ak, .inl (cA, C, .inl K)), (av, .inl (cA, C, .inl V)), (aw, .inl (cA, 4, .inl Wd))] sz) (va_Qv (fun (_ : Unit) => True) (fun _ tS => wdB dC dI cA (va_A [(t, .inr (1, [.int (nI (C - 1)), .ref am, .ref ak, .ref av, .ref aw, .int n])), (am, .inl (cA, C, .inl M)), (ak, .inl (cA, C, .inl K)), (av, .inl (cA, C, .inl V)), (aw, .inl (cA, 4, .inl Wd))] sz) [(t, .inr (1, [.int (nI (C - 1)), .ref am, .ref ak, .ref av, .ref aw, .int (n - 1)])), (am, .inl (cA, C, .inl ((tk C (hm C Wd) fr (C - 1) 1 (upd M fr 0) K V fr).1))), (ak, .inl (cA, C, .inl ((tk C (hm C Wd) fr (C - 1) 1 (upd M fr 0) K V fr).2.1))), (av, .inl (cA, C, .inl ((tk C (hm C Wd) fr (C - 1) 1 (upd M fr 0) K V fr).2.2))), (aw, .inl (cA, 4, .inl Wd))] tS) (va_A [(t, .inr (1, [.int (nI (C - 1)), .ref am, .ref ak, .ref av, .ref aw, .int n])), (am, .inl (cA, C, .inl M)), (ak, .inl (cA, C, .inl K)), (av, .inl (cA, C, .inl V)), (aw, .inl (cA, 4, .inl Wd))] sz)) 0 0 (va_A [(t, .inr (1, [.int (nI (C - 1)), .ref am, .ref ak, .ref av, .ref aw, .int n])), (am, .inl (cA, C, .inl M)), (ak, .inl (cA, C, .inl K)), (av, .inl (cA, C, .inl V)), (aw, .inl (cA, 4, .inl Wd))] sz) := by
  refine Met.ofW (cc := b_Table_takeOut) (maxL := 7) (ret := none) (by decide) rfl ?_
  intro p e s m args below meth c s₁ B hml hv
  obtain ⟨rfl, hsz, hP, hK, hD0⟩ := hv
  have hx := B.exec
  have hb := B.bytes
  have hr := B.returns
  have hts : ∀ w ∈ BG, w.before _ s = true := fun w h => atoms_spec (ws := .code y_Table_takeOut b_Table_takeOut 7 none :: BG) B.pre w (List.mem_cons_of_mem _ h)
  have hown : s.vm.findClass R_Table = some m.cls := findClass_of_methodNamed B.named
  have hlocks := B.notSynchronized
  subst hsz
  have hD := hD0.self (sz := s.heap.size)
  generalize hAe : va_A [(t, .inr (1, [.int (nI (C - 1)), .ref am, .ref ak, .ref av, .ref aw, .int n])), (am, .inl (cA, C, .inl M)), (ak, .inl (cA, C, .inl K)), (av, .inl (cA, C, .inl V)), (aw, .inl (cA, 4, .inl Wd))] s.heap.size = A at hD ⊢
  have hA : ∀ q : Nat, s.heap.size ≤ q → A q := fun q h => by rw [← hAe]; exact Or.inr h
  have hS : va_S A s.heap s.heap [] := va_S.rf
  have hP : va_P (dC, dI) cls [(t, .inr (1, [.int (nI (C - 1)), .ref am, .ref ak, .ref av, .ref aw, .int n])), (am, .inl (cA, C, .inl M)), (ak, .inl (cA, C, .inl K)), (av, .inl (cA, C, .inl V)), (aw, .inl (cA, 4, .inl Wd))] s.heap := hP
  have hl := lv_entry ([.ref t, .int (nI fr)]) (n := 7) (Nat.le_of_ble_eq_true rfl)
  rw [lg_entry_eq]
  generalize (lg_sl ([.ref t, .int (nI fr)]) ++ List.replicate (7 - (lg_sl ([.ref t, .int (nI fr)])).length) Slot.unset).toArray = ls at hl ⊢
  have hl : lv_has ls 7 [(0, .ref t), (1, .int (nI fr))] := hl
  have hlo := hC.lo
  have hhi := hC.hi
  refine lv_iload_n hx hb d_Table_takeOut_0 rfl (lv_at hl 1 rfl) ?_
  refine lv_istore_n hx hb d_Table_takeOut_1 rfl hl (by decide) rfl (fun ls hl => ?_)
  have hl : lv_has ls 7 [(2, .int (nI fr)), (0, .ref t), (1, .int (nI fr))] := hl
  refine lv_aload_n hx hb d_Table_takeOut_2 rfl (lv_at hl 1 rfl) ?_
  refine va_get (ci := 1) (C := R_Table) (T := F_Table) (N := 6) hx hb hts in_Table hown hK hP 0 rfl rfl 1 (by decide) (hts _ wk_50) (fun _ h => h) rfl d_Table_takeOut_3 ?_
  refine lv_iload_n hx hb d_Table_takeOut_6 rfl (lv_at hl 0 rfl) ?_
  refine lv_iconst hx hb d_Table_takeOut_7 (v := 0) rfl ?_
  refine ia_st (i := fr) hx hb hK hP hD hS 1 rfl rfl (by omega) (by omega) d_Table_takeOut_8 (fun H locs hP hD hS => ?_)
  have hP : va_P (dC, dI) cls [(t, .inr (1, [.int (nI (C - 1)), .ref am, .ref ak, .ref av, .ref aw, .int n])), (am, .inl (cA, C, .inl (upd M fr 0))), (ak, .inl (cA, C, .inl K)), (av, .inl (cA, C, .inl V)), (aw, .inl (cA, 4, .inl Wd))] H := hP
  have hD : va_D A [(t, .inr (1, [.int (nI (C - 1)), .ref am, .ref ak, .ref av, .ref aw, .int n])), (am, .inl (cA, C, .inl (upd M fr 0))), (ak, .inl (cA, C, .inl K)), (av, .inl (cA, C, .inl V)), (aw, .inl (cA, 4, .inl Wd))] := hD
  refine lv_aload_n hx hb d_Table_takeOut_9 rfl (lv_at hl 1 rfl) ?_
  refine lv_dup hx hb d_Table_takeOut_10 rfl ?_
  refine va_get (ci := 1) (C := R_Table) (T := F_Table) (N := 6) hx hb hts in_Table hown hK hP 0 rfl rfl 5 (by decide) (hts _ wk_54) (fun _ h => h) rfl d_Table_takeOut_11 ?_
  refine lv_iconst hx hb d_Table_takeOut_14 (v := 1) rfl ?_
  refine lv_isub hx hb d_Table_takeOut_15 ?_
  refine va_put (D := (dC, dI)) (ci := 1) (v := .int (n - 1)) (ty := .int) (C := R_Table) (T := F_Table) (N := 6) hx hb hts in_Table t_Table t_Table_ok n_Table hown hK hP hD hS 0 rfl rfl 5 (by decide) (hts _ wk_54) (fun _ h => h) rfl t_Table_5 rfl rfl (Nat.le_of_ble_eq_true rfl) d_Table_takeOut_16 (fun H locs hP hD hS => ?_)
  have hP : va_P (dC, dI) cls [(t, .inr (1, [.int (nI (C - 1)), .ref am, .ref ak, .ref av, .ref aw, .int (n - 1)])), (am, .inl (cA, C, .inl (upd M fr 0))), (ak, .inl (cA, C, .inl K)), (av, .inl (cA, C, .inl V)), (aw, .inl (cA, 4, .inl Wd))] H := hP
  have hD : va_D A [(t, .inr (1, [.int (nI (C - 1)), .ref am, .ref ak, .ref av, .ref aw, .int (n - 1)])), (am, .inl (cA, C, .inl (upd M fr 0))), (ak, .inl (cA, C, .inl K)), (av, .inl (cA, C, .inl V)), (aw, .inl (cA, 4, .inl Wd))] := hD
  refine lv_iconst hx hb d_Table_takeOut_19 (v := (nI 1)) rfl ?_
  refine lv_istore_n hx hb d_Table_takeOut_20 rfl hl (by decide) rfl (fun ls hl => ?_)
  have hl : lv_has ls 7 [(3, .int (nI 1)), (2, .int (nI fr)), (0, .ref t), (1, .int (nI fr))] := hl
  rw [show (nI 1 : Int32) = nI (C - (C - 1)) by rw [show C - (C - 1) = 1 by omega]] at hl
  refine W.eq (g2 := F0 m 21 ls []) rfl ?_
  refine lq5 (fun (f : Nat) (ho : Nat) (M1 : Nat → Int32) (K1 : Nat → Int32) (V1 : Nat → Int32) => f) (fun (f : Nat) (ho : Nat) (M1 : Nat → Int32) (K1 : Nat → Int32) (V1 : Nat → Int32) ls H locs => (f ≤ C - 1) ∧ (ho < C) ∧ (tk C (hm C Wd) fr f (C - f) M1 K1 V1 ho = tk C (hm C Wd) fr (C - 1) 1 (upd M fr 0) K V fr) ∧ lv_has ls 7 [(0, .ref t), (1, .int (nI fr)), (2, .int (nI ho)), (3, .int (nI (C - f)))] ∧ va_P (dC, dI) cls [(t, .inr (1, [.int (nI (C - 1)), .ref am, .ref ak, .ref av, .ref aw, .int (n - 1)])), (am, .inl (cA, C, .inl M1)), (ak, .inl (cA, C, .inl K1)), (av, .inl (cA, C, .inl V1)), (aw, .inl (cA, 4, .inl Wd))] H ∧ va_D A [(t, .inr (1, [.int (nI (C - 1)), .ref am, .ref ak, .ref av, .ref aw, .int (n - 1)])), (am, .inl (cA, C, .inl M1)), (ak, .inl (cA, C, .inl K1)), (av, .inl (cA, C, .inl V1)), (aw, .inl (cA, 4, .inl Wd))] ∧ va_S A s.heap H locs) (fun f ho M1 K1 V1 ls H locs hE ih21 => ?_) (C - 1) fr (upd M fr 0) K V ls _ _ ⟨Nat.le_refl _, hfr, by rw [show C - (C - 1) = 1 by omega], lv_sub hl [2, 3, 1, 0] rfl, hP, hD, hS⟩
  obtain ⟨hf, hho, hZ, hl, hP, hD, hS⟩ := hE
  refine lv_iload_n hx hb d_Table_takeOut_21 rfl (lv_at hl 3 rfl) ?_
  refine lv_aload_n hx hb d_Table_takeOut_22 rfl (lv_at hl 0 rfl) ?_
  refine va_get (ci := 1) (C := R_Table) (T := F_Table) (N := 6) hx hb hts in_Table hown hK hP 0 rfl rfl 0 (by decide) (hts _ wk_49) (fun _ h => h) rfl d_Table_takeOut_23 ?_
  refine lv_icmp_gt hx hb d_Table_takeOut_26 (tgt := 127) rfl (fun hc26 => ?_) (fun hc26 => ?_)
  · skip
    have hq : f = 0 := by
      have := (nI_ltI (by omega) (by omega)).mp hc26
      omega
    subst hq
    have hZ : (M1, K1, V1) = tk C (hm C Wd) fr (C - 1) 1 (upd M fr 0) K V fr := hZ
    exact W.vret hx hb hr (fun tS ht hW => ⟨⟨(), rfl, trivial, by rw [ht]; exact (by rw [← hZ]; exact hP), va_K.moved hW.alike hK, (by rw [← hZ]; exact hD)⟩, hS.F ht⟩) hS.2.2 d_Table_takeOut_127 hlocks
  · skip
    obtain ⟨f, rfl⟩ : ∃ z, f = z + 1 := ⟨f - 1, by
      have : ¬ C - 1 < C - f := fun h => hc26 ((nI_ltI (by omega) (by omega)).mpr h)
      omega⟩
    rw [tk] at hZ
    obtain ⟨k, hk⟩ : ∃ k, k = (fr + (C - (f + 1))) % C := ⟨_, rfl⟩
    have hkC : k < C := by rw [hk]; exact md_lt hC
    rw [← hk, show C - (f + 1) + 1 = C - f by omega] at hZ
    refine lv_iload_n hx hb d_Table_takeOut_29 rfl (lv_at hl 1 rfl) ?_
    refine lv_iload_n hx hb d_Table_takeOut_30 rfl (lv_at hl 3 rfl) ?_
    refine lv_iadd hx hb d_Table_takeOut_31 ?_
    refine lv_asI (y := nI (fr + (C - (f + 1)))) (nI_add _ _) ?_
    refine lv_aload_n hx hb d_Table_takeOut_32 rfl (lv_at hl 0 rfl) ?_
    refine va_get (ci := 1) (C := R_Table) (T := F_Table) (N := 6) hx hb hts in_Table hown hK hP 0 rfl rfl 0 (by decide) (hts _ wk_49) (fun _ h => h) rfl d_Table_takeOut_33 ?_
    refine lv_iand hx hb d_Table_takeOut_36 ?_
    refine lv_asI (y := nI k) ((mk_and hC (by omega)).trans (by rw [← hk])) ?_
    refine lv_istore hx hb d_Table_takeOut_37 hl (by decide) rfl (fun ls hl => ?_)
    have hl : lv_has ls 7 [(4, .int (nI k)), (0, .ref t), (1, .int (nI fr)), (2, .int (nI ho)), (3, .int (nI (C - (f + 1))))] := hl
    refine lv_aload_n hx hb d_Table_takeOut_39 rfl (lv_at hl 1 rfl) ?_
    refine va_get (ci := 1) (C := R_Table) (T := F_Table) (N := 6) hx hb hts in_Table hown hK hP 0 rfl rfl 1 (by decide) (hts _ wk_50) (fun _ h => h) rfl d_Table_takeOut_40 ?_
    refine lv_iload hx hb d_Table_takeOut_43 (lv_at hl 0 rfl) ?_
    refine ia_ld (i := k) hx hb hK hP 1 rfl rfl (by omega) (by omega) d_Table_takeOut_45 ?_
    refine W.eq (g2 := F0 m 46 ls [.int (M1 k)]) rfl ?_
    refine lv_if_ne hx hb d_Table_takeOut_46 (tgt := 52) rfl (fun hc46 => ?_) (fun hc46 => ?_)
    · skip
      rw [if_neg hc46] at hZ
      refine lv_iload hx hb d_Table_takeOut_52 (lv_at hl 0 rfl) ?_
      refine lv_aload_n hx hb d_Table_takeOut_54 rfl (lv_at hl 1 rfl) ?_
      refine lv_aload_n hx hb d_Table_takeOut_55 rfl (lv_at hl 1 rfl) ?_
      refine va_get (ci := 1) (C := R_Table) (T := F_Table) (N := 6) hx hb hts in_Table hown hK hP 0 rfl rfl 2 (by decide) (hts _ wk_51) (fun _ h => h) rfl d_Table_takeOut_56 ?_
      refine lv_iload hx hb d_Table_takeOut_59 (lv_at hl 0 rfl) ?_
      refine ia_ld (i := k) hx hb hK hP 2 rfl rfl (by omega) (by omega) d_Table_takeOut_61 ?_
      refine ro_i (va_runV (As := [.int (K1 k)]) (rest := [.int (nI k)]) ⟨hx, hb, hml, hown, hts⟩ (c_homeOf l hC (K1 k) hP) (cwV 1 hts g_Table_58 rfl rfl rfl (by decide +kernel) ⟨Nat.le_of_ble_eq_true rfl, Nat.le_of_ble_eq_true rfl⟩) ⟨bl_RO, va_recv (q0 := 0) hK hP rfl rfl, fun U hU hW => ⟨rfl, hU, va_K.moved hW.alike hK⟩⟩ rfl rfl hl.1 rfl (lv_room (Nat.le_of_ble_eq_true rfl)) d_Table_takeOut_62 ⟨Nat.zero_le _, Nat.zero_le _⟩) hS (fun locs hS => ?_)
      refine lv_isub hx hb d_Table_takeOut_65 ?_
      refine lv_aload_n hx hb d_Table_takeOut_66 rfl (lv_at hl 1 rfl) ?_
      refine va_get (ci := 1) (C := R_Table) (T := F_Table) (N := 6) hx hb hts in_Table hown hK hP 0 rfl rfl 0 (by decide) (hts _ wk_49) (fun _ h => h) rfl d_Table_takeOut_67 ?_
      refine lv_iand hx hb d_Table_takeOut_70 ?_
      refine lv_asI (y := nI ((k + C - hm C Wd (K1 k)) % C)) (mk_sub hC hkC (hm_lt hC _ _)) ?_
      refine lv_istore hx hb d_Table_takeOut_71 hl (by decide) rfl (fun ls hl => ?_)
      have hl : lv_has ls 7 [(5, .int (nI ((k + C - hm C Wd (K1 k)) % C))), (4, .int (nI k)), (0, .ref t), (1, .int (nI fr)), (2, .int (nI ho)), (3, .int (nI (C - (f + 1))))] := hl
      refine lv_iload hx hb d_Table_takeOut_73 (lv_at hl 1 rfl) ?_
      refine lv_iload_n hx hb d_Table_takeOut_75 rfl (lv_at hl 4 rfl) ?_
      refine lv_isub hx hb d_Table_takeOut_76 ?_
      refine W.eq (g2 := F0 m 77 ls [.int ((nI k) - (nI ho))]) rfl ?_
      refine lv_aload_n hx hb d_Table_takeOut_77 rfl (lv_at hl 2 rfl) ?_
      refine va_get (ci := 1) (C := R_Table) (T := F_Table) (N := 6) hx hb hts in_Table hown hK hP 0 rfl rfl 0 (by decide) (hts _ wk_49) (fun _ h => h) rfl d_Table_takeOut_78 ?_
      refine lv_iand hx hb d_Table_takeOut_81 ?_
      refine lv_asI (y := nI ((k + C - ho) % C)) (mk_sub hC hkC hho) ?_
      refine lv_istore hx hb d_Table_takeOut_82 hl (by decide) rfl (fun ls hl => ?_)
      have hl : lv_has ls 7 [(6, .int (nI ((k + C - ho) % C))), (5, .int (nI ((k + C - hm C Wd (K1 k)) % C))), (4, .int (nI k)), (0, .ref t), (1, .int (nI fr)), (2, .int (nI ho)), (3, .int (nI (C - (f + 1))))] := hl
      refine lv_iload hx hb d_Table_takeOut_84 (lv_at hl 1 rfl) ?_
      refine lv_iload hx hb d_Table_takeOut_86 (lv_at hl 0 rfl) ?_
      refine lv_icmp_lt hx hb d_Table_takeOut_88 (tgt := 121) rfl (fun hc88 => ?_) (fun hc88 => ?_)
      · skip
        have hq : ¬ (k + C - ho) % C ≤ (k + C - hm C Wd (K1 k)) % C := by
          have h8 := @md_lt C (k + C - ho) hC
          have h9 := @md_lt C (k + C - hm C Wd (K1 k)) hC
          have := (nI_ltI (by omega) (by omega)).mp hc88
          omega
        rw [if_neg hq] at hZ
        refine lv_iinc hx hb d_Table_takeOut_121 hl (k := 6) rfl (v := nI (C - f)) ((nI_1 _).trans (congrArg nI (by omega))) (by decide) rfl (fun ls hl => ?_)
        have hl : lv_has ls 7 [(3, .int (nI (C - f))), (6, .int (nI ((k + C - ho) % C))), (5, .int (nI ((k + C - hm C Wd (K1 k)) % C))), (4, .int (nI k)), (0, .ref t), (1, .int (nI fr)), (2, .int (nI ho))] := hl
        refine lv_goto hx hb d_Table_takeOut_124 (tgt := 21) rfl ?_
        exact ih21 f ho M1 K1 V1 ls _ _ ⟨by omega, by first | exact hho | exact hkC, hZ, lv_sub hl [4, 5, 6, 0] rfl, hP, hD, hS⟩ (by omega)
      · skip
        have hq : (k + C - ho) % C ≤ (k + C - hm C Wd (K1 k)) % C := by
          have h8 := @md_lt C (k + C - ho) hC
          have h9 := @md_lt C (k + C - hm C Wd (K1 k)) hC
          have : ¬ _ := fun h => hc88 ((nI_ltI (a := (k + C - hm C Wd (K1 k)) % C) (b := (k + C - ho) % C) (by omega) (by omega)).mpr h)
          omega
        rw [if_pos hq] at hZ
        refine lv_aload_n hx hb d_Table_takeOut_91 rfl (lv_at hl 3 rfl) ?_
        refine lv_iload_n hx hb d_Table_takeOut_92 rfl (lv_at hl 5 rfl) ?_
        refine lv_aload_n hx hb d_Table_takeOut_93 rfl (lv_at hl 3 rfl) ?_
        refine va_get (ci := 1) (C := R_Table) (T := F_Table) (N := 6) hx hb hts in_Table hown hK hP 0 rfl rfl 2 (by decide) (hts _ wk_51) (fun _ h => h) rfl d_Table_takeOut_94 ?_
        refine lv_iload hx hb d_Table_takeOut_97 (lv_at hl 2 rfl) ?_
        refine ia_ld (i := k) hx hb hK hP 2 rfl rfl (by omega) (by omega) d_Table_takeOut_99 ?_
        refine lv_aload_n hx hb d_Table_takeOut_100 rfl (lv_at hl 3 rfl) ?_
        refine va_get (ci := 1) (C := R_Table) (T := F_Table) (N := 6) hx hb hts in_Table hown hK hP 0 rfl rfl 3 (by decide) (hts _ wk_52) (fun _ h => h) rfl d_Table_takeOut_101 ?_
        refine lv_iload hx hb d_Table_takeOut_104 (lv_at hl 2 rfl) ?_
        refine W.eq (g2 := F0 m 106 ls [.int (nI k), .ref av, .int (K1 k), .int (nI ho), .ref t]) rfl ?_
        refine ia_ld (i := k) hx hb hK hP 3 rfl rfl (by omega) (by omega) d_Table_takeOut_106 ?_
        refine rw_v (wc := [(t, .inr (1, [.int (nI (C - 1)), .ref am, .ref ak, .ref av, .ref aw, .int (n - 1)])), (am, .inl (cA, C, .inl M1)), (ak, .inl (cA, C, .inl K1)), (av, .inl (cA, C, .inl V1)), (aw, .inl (cA, 4, .inl Wd))]) (wr := []) hP hD hS hA (va_runV (As := [.int (nI ho), .int (K1 k), .int (V1 k)]) (rest := []) ⟨hx, hb, hml, hown, hts⟩ (c_fill l _ hC _ hho (K1 k) (V1 k)) (cwV 3 hts g_Table_65 rfl rfl rfl (by decide +kernel) ⟨Nat.le_of_ble_eq_true rfl, Nat.le_of_ble_eq_true rfl⟩) ⟨bl_RW, va_recv (q0 := 0) hK hP rfl rfl, pr_RW hK hP hD [0, 1, 2, 3, 4] rfl (by decide) rfl⟩ rfl rfl hl.1 rfl (lv_room (Nat.le_of_ble_eq_true rfl)) d_Table_takeOut_107 ⟨Nat.zero_le _, Nat.zero_le _⟩) [0, 1, 2, 3, 4] [] rfl rfl (by decide) (by decide) (fun _ H locs hq hP hD hS => ?_)
        have hP : va_P (dC, dI) cls [(t, .inr (1, [.int (nI (C - 1)), .ref am, .ref ak, .ref av, .ref aw, .int (n - 1)])), (am, .inl (cA, C, .inl (upd M1 ho 1))), (ak, .inl (cA, C, .inl (upd K1 ho (K1 k)))), (av, .inl (cA, C, .inl (upd V1 ho (V1 k)))), (aw, .inl (cA, 4, .inl Wd))] H := hP
        have hD : va_D A [(t, .inr (1, [.int (nI (C - 1)), .ref am, .ref ak, .ref av, .ref aw, .int (n - 1)])), (am, .inl (cA, C, .inl (upd M1 ho 1))), (ak, .inl (cA, C, .inl (upd K1 ho (K1 k)))), (av, .inl (cA, C, .inl (upd V1 ho (V1 k)))), (aw, .inl (cA, 4, .inl Wd))] := hD
        refine lv_aload_n hx hb d_Table_takeOut_110 rfl (lv_at hl 3 rfl) ?_
        refine va_get (ci := 1) (C := R_Table) (T := F_Table) (N := 6) hx hb hts in_Table hown hK hP 0 rfl rfl 1 (by decide) (hts _ wk_50) (fun _ h => h) rfl d_Table_takeOut_111 ?_
        refine lv_iload hx hb d_Table_takeOut_114 (lv_at hl 2 rfl) ?_
        refine lv_iconst hx hb d_Table_takeOut_116 (v := 0) rfl ?_
        refine ia_st (i := k) hx hb hK hP hD hS 1 rfl rfl (by omega) (by omega) d_Table_takeOut_117 (fun H locs hP hD hS => ?_)
        have hP : va_P (dC, dI) cls [(t, .inr (1, [.int (nI (C - 1)), .ref am, .ref ak, .ref av, .ref aw, .int (n - 1)])), (am, .inl (cA, C, .inl (upd (upd M1 ho 1) k 0))), (ak, .inl (cA, C, .inl (upd K1 ho (K1 k)))), (av, .inl (cA, C, .inl (upd V1 ho (V1 k)))), (aw, .inl (cA, 4, .inl Wd))] H := hP
        have hD : va_D A [(t, .inr (1, [.int (nI (C - 1)), .ref am, .ref ak, .ref av, .ref aw, .int (n - 1)])), (am, .inl (cA, C, .inl (upd (upd M1 ho 1) k 0))), (ak, .inl (cA, C, .inl (upd K1 ho (K1 k)))), (av, .inl (cA, C, .inl (upd V1 ho (V1 k)))), (aw, .inl (cA, 4, .inl Wd))] := hD
        refine lv_iload hx hb d_Table_takeOut_118 (lv_at hl 2 rfl) ?_
        refine lv_istore_n hx hb d_Table_takeOut_120 rfl hl (by decide) rfl (fun ls hl => ?_)
        have hl : lv_has ls 7 [(2, .int (nI k)), (6, .int (nI ((k + C - ho) % C))), (5, .int (nI ((k + C - hm C Wd (K1 k)) % C))), (4, .int (nI k)), (0, .ref t), (1, .int (nI fr)), (3, .int (nI (C - (f + 1))))] := hl
        refine lv_iinc hx hb d_Table_takeOut_121 hl (k := 6) rfl (v := nI (C - f)) ((nI_1 _).trans (congrArg nI (by omega))) (by decide) rfl (fun ls hl => ?_)
        have hl : lv_has ls 7 [(3, .int (nI (C - f))), (2, .int (nI k)), (6, .int (nI ((k + C - ho) % C))), (5, .int (nI ((k + C - hm C Wd (K1 k)) % C))), (4, .int (nI k)), (0, .ref t), (1, .int (nI fr))] := hl
        refine lv_goto hx hb d_Table_takeOut_124 (tgt := 21) rfl ?_
        exact ih21 f k (upd (upd M1 ho 1) k 0) (upd K1 ho (K1 k)) (upd V1 ho (V1 k)) ls _ _ ⟨by omega, by first | exact hho | exact hkC, hZ, lv_sub hl [5, 6, 1, 0] rfl, hP, hD, hS⟩ (by omega)
    · skip
      rw [if_pos hc46] at hZ
      refine lv_goto hx hb d_Table_takeOut_49 (tgt := 127) rfl ?_
      exact W.vret hx hb hr (fun tS ht hW => ⟨⟨(), rfl, trivial, by rw [ht]; exact (by rw [← hZ]; exact hP), va_K.moved hW.alike hK, (by rw [← hZ]; exact hD)⟩, hS.F ht⟩) hS.2.2 d_Table_takeOut_127 hlocks
theorem i32_gt {a b : Int32} (h : ¬ a ≤ b) : b < a := by
  rw [Int32.le_iff_toInt_le] at h; rw [Int32.lt_iff_toInt_lt]; omega
set_option maxHeartbeats 4000000 in
set_option maxRecDepth 100000 in
theorem c_nearestAbove (l : Launch) {dC : Nat → ClassId} {dI : Nat → Nat → Nat} {cA : ClassId} {Hp : Heap} {t am ak av aw C : Nat} {n : Int32} {M K V Wd : Nat → Int32} (hC : szC C) (b x0 : Int32) (hP : va_P (dC, dI) cls [(t, .inr (1, [.int (nI (C - 1)), .ref am, .ref ak, .ref av, .ref aw, .int n])), (am, .inl (cA, C, .inl M)), (ak, .inl (cA, C, .inl K)), (av, .inl (cA, C, .inl V)), (aw, .inl (cA, 4, .inl Wd))] Hp) : Met l y_Table_nearestAbove (.code y_Table_nearestAbove b_Table_nearestAbove 6 (some .int) :: BG) ({ frames := 0, cells := 0, slots := 0, locals := 0 }) (pRO dC dI cA [.ref t, .int b, .int x0] Hp) (qRi (abv M K b C 0 x0) Hp) 0 0 (fun _ => False) := by
  refine Met.ofW (cc := b_Table_nearestAbove) (maxL := 6) (ret := some .int) (by decide) rfl ?_
  intro p e s m args below meth c s₁ B hml hv
  obtain ⟨rfl, rfl, hK⟩ := hv
  have hx := B.exec
  have hb := B.bytes
  have hr := B.returns
  have hts : ∀ w ∈ BG, w.before _ s = true := fun w h => atoms_spec (ws := .code y_Table_nearestAbove b_Table_nearestAbove 6 (some .int) :: BG) B.pre w (List.mem_cons_of_mem _ h)
  have hown : s.vm.findClass R_Table = some m.cls := findClass_of_methodNamed B.named
  have hlocks := B.notSynchronized
  have hS : va_S (fun _ => False) s.heap s.heap [] := va_S.rf
  have hl := lv_entry ([.ref t, .int b, .int x0]) (n := 6) (Nat.le_of_ble_eq_true rfl)
  rw [lg_entry_eq]
  generalize (lg_sl ([.ref t, .int b, .int x0]) ++ List.replicate (6 - (lg_sl ([.ref t, .int b, .int x0])).length) Slot.unset).toArray = ls at hl ⊢
  have hl : lv_has ls 6 [(0, .ref t), (1, .int b), (2, .int x0)] := hl
  have hlo := hC.lo
  have hhi := hC.hi
  refine lv_iload_n hx hb d_Table_nearestAbove_0 rfl (lv_at hl 2 rfl) ?_
  refine lv_istore_n hx hb d_Table_nearestAbove_1 rfl hl (by decide) rfl (fun ls hl => ?_)
  have hl : lv_has ls 6 [(3, .int x0), (0, .ref t), (1, .int b), (2, .int x0)] := hl
  refine lv_iconst hx hb d_Table_nearestAbove_2 (v := (nI 0)) rfl ?_
  refine lv_istore hx hb d_Table_nearestAbove_3 hl (by decide) rfl (fun ls hl => ?_)
  have hl : lv_has ls 6 [(4, .int (nI 0)), (3, .int x0), (0, .ref t), (1, .int b), (2, .int x0)] := hl
  rw [show (nI 0 : Int32) = nI (C - C) by rw [Nat.sub_self]] at hl
  refine W.eq (g2 := F0 m 5 ls []) rfl ?_
  refine lr2 (fun (f : Nat) (x : Int32) => f) (fun (f : Nat) (x : Int32) ls locs => (f ≤ C) ∧ (abv M K b f (C - f) x = abv M K b C 0 x0) ∧ lv_has ls 6 [(0, .ref t), (1, .int b), (3, .int x), (4, .int (nI (C - f)))] ∧ va_S (fun _ => False) s.heap s.heap locs) (fun f x ls locs hE ih5 => ?_) C x0 ls _ ⟨Nat.le_refl _, by rw [Nat.sub_self], lv_sub hl [2, 3, 1, 0] rfl, hS⟩
  obtain ⟨hf, hZ, hl, hS⟩ := hE
  refine lv_iload hx hb d_Table_nearestAbove_5 (lv_at hl 3 rfl) ?_
  refine lv_aload_n hx hb d_Table_nearestAbove_7 rfl (lv_at hl 0 rfl) ?_
  refine va_get (ci := 1) (C := R_Table) (T := F_Table) (N := 6) hx hb hts in_Table hown hK hP 0 rfl rfl 0 (by decide) (hts _ wk_49) (fun _ h => h) rfl d_Table_nearestAbove_8 ?_
  refine lv_icmp_gt hx hb d_Table_nearestAbove_11 (tgt := 60) rfl (fun hc11 => ?_) (fun hc11 => ?_)
  · skip
    have hq : f = 0 := by
      have := (nI_ltI (by omega) (by omega)).mp hc11
      omega
    subst hq
    refine lv_iload_n hx hb d_Table_nearestAbove_60 rfl (lv_at hl 2 rfl) ?_
    exact rt_i hx hb hr hlocks hZ hS d_Table_nearestAbove_61
  · skip
    obtain ⟨f, rfl⟩ : ∃ z, f = z + 1 := ⟨f - 1, by
      have : ¬ C - 1 < C - f := fun h => hc11 ((nI_ltI (by omega) (by omega)).mpr h)
      omega⟩
    rw [abv, show C - (f + 1) + 1 = C - f by omega] at hZ
    have hk : C - (f + 1) < C := by omega
    have hk1 : C - (f + 1) + 1 = C - f := by omega
    clear hc11
    generalize C - (f + 1) = k at hZ hl hk hk1 ⊢
    refine lv_aload_n hx hb d_Table_nearestAbove_14 rfl (lv_at hl 0 rfl) ?_
    refine va_get (ci := 1) (C := R_Table) (T := F_Table) (N := 6) hx hb hts in_Table hown hK hP 0 rfl rfl 2 (by decide) (hts _ wk_51) (fun _ h => h) rfl d_Table_nearestAbove_15 ?_
    refine lv_iload hx hb d_Table_nearestAbove_18 (lv_at hl 3 rfl) ?_
    refine ia_ld (i := k) hx hb hK hP 2 rfl rfl (by omega) (by omega) d_Table_nearestAbove_20 ?_
    refine lv_istore hx hb d_Table_nearestAbove_21 hl (by decide) rfl (fun ls hl => ?_)
    have hl : lv_has ls 6 [(5, .int (K k)), (0, .ref t), (1, .int b), (3, .int x), (4, .int (nI k))] := hl
    refine lv_aload_n hx hb d_Table_nearestAbove_23 rfl (lv_at hl 1 rfl) ?_
    refine va_get (ci := 1) (C := R_Table) (T := F_Table) (N := 6) hx hb hts in_Table hown hK hP 0 rfl rfl 1 (by decide) (hts _ wk_50) (fun _ h => h) rfl d_Table_nearestAbove_24 ?_
    refine lv_iload hx hb d_Table_nearestAbove_27 (lv_at hl 4 rfl) ?_
    refine ia_ld (i := k) hx hb hK hP 1 rfl rfl (by omega) (by omega) d_Table_nearestAbove_29 ?_
    refine lv_iconst hx hb d_Table_nearestAbove_30 (v := 1) rfl ?_
    refine lv_icmp_ne hx hb d_Table_nearestAbove_31 (tgt := 54) rfl (fun hc31 => ?_) (fun hc31 => ?_)
    · skip
      rw [if_neg (fun q => hc31 q.1)] at hZ
      refine W.eq (g2 := F0 m 54 ls []) rfl ?_
      refine lv_iinc hx hb d_Table_nearestAbove_54 hl (k := 4) rfl (v := nI (C - f)) ((nI_1 _).trans (congrArg nI hk1)) (by decide) rfl (fun ls hl => ?_)
      have hl : lv_has ls 6 [(4, .int (nI (C - f))), (5, .int (K k)), (0, .ref t), (1, .int b), (3, .int x)] := hl
      refine lv_goto hx hb d_Table_nearestAbove_57 (tgt := 5) rfl ?_
      exact ih5 f x ls _ ⟨by omega, hZ, lv_sub hl [2, 3, 4, 0] rfl, hS⟩ (by omega)
    · skip
      refine W.eq (g2 := F0 m 34 ls []) rfl ?_
      refine lv_iload hx hb d_Table_nearestAbove_34 (lv_at hl 0 rfl) ?_
      refine lv_iload_n hx hb d_Table_nearestAbove_36 rfl (lv_at hl 2 rfl) ?_
      refine lv_icmp_le hx hb d_Table_nearestAbove_37 (tgt := 54) rfl (fun hc37 => ?_) (fun hc37 => ?_)
      · skip
        rw [if_neg (fun q => i32_irr (Int32.lt_of_lt_of_le q.2.1 hc37))] at hZ
        refine lv_iinc hx hb d_Table_nearestAbove_54 hl (k := 4) rfl (v := nI (C - f)) ((nI_1 _).trans (congrArg nI hk1)) (by decide) rfl (fun ls hl => ?_)
        have hl : lv_has ls 6 [(4, .int (nI (C - f))), (5, .int (K k)), (0, .ref t), (1, .int b), (3, .int x)] := hl
        refine lv_goto hx hb d_Table_nearestAbove_57 (tgt := 5) rfl ?_
        exact ih5 f x ls _ ⟨by omega, hZ, lv_sub hl [2, 3, 4, 0] rfl, hS⟩ (by omega)
      · skip
        have hq := i32_gt hc37
        refine lv_iload_n hx hb d_Table_nearestAbove_40 rfl (lv_at hl 3 rfl) ?_
        refine lv_iload_n hx hb d_Table_nearestAbove_41 rfl (lv_at hl 2 rfl) ?_
        refine lv_icmp_eq hx hb d_Table_nearestAbove_42 (tgt := 51) rfl (fun hc42 => ?_) (fun hc42 => ?_)
        · skip
          rw [if_pos ⟨hc31, hq, Or.inl hc42⟩] at hZ
          refine lv_iload hx hb d_Table_nearestAbove_51 (lv_at hl 0 rfl) ?_
          refine lv_istore_n hx hb d_Table_nearestAbove_53 rfl hl (by decide) rfl (fun ls hl => ?_)
          have hl : lv_has ls 6 [(3, .int (K k)), (5, .int (K k)), (0, .ref t), (1, .int b), (4, .int (nI k))] := hl
          refine lv_iinc hx hb d_Table_nearestAbove_54 hl (k := 4) rfl (v := nI (C - f)) ((nI_1 _).trans (congrArg nI hk1)) (by decide) rfl (fun ls hl => ?_)
          have hl : lv_has ls 6 [(4, .int (nI (C - f))), (3, .int (K k)), (5, .int (K k)), (0, .ref t), (1, .int b)] := hl
          refine lv_goto hx hb d_Table_nearestAbove_57 (tgt := 5) rfl ?_
          exact ih5 f (K k) ls _ ⟨by omega, hZ, lv_sub hl [3, 4, 1, 0] rfl, hS⟩ (by omega)
        · skip
          refine lv_iload hx hb d_Table_nearestAbove_45 (lv_at hl 0 rfl) ?_
          refine lv_iload_n hx hb d_Table_nearestAbove_47 rfl (lv_at hl 3 rfl) ?_
          refine lv_icmp_ge hx hb d_Table_nearestAbove_48 (tgt := 54) rfl (fun hc48 => ?_) (fun hc48 => ?_)
          · skip
            rw [if_neg (fun q => q.2.2.elim hc42 (fun z => i32_irr (Int32.lt_of_lt_of_le z hc48)))] at hZ
            refine lv_iinc hx hb d_Table_nearestAbove_54 hl (k := 4) rfl (v := nI (C - f)) ((nI_1 _).trans (congrArg nI hk1)) (by decide) rfl (fun ls hl => ?_)
            have hl : lv_has ls 6 [(4, .int (nI (C - f))), (5, .int (K k)), (0, .ref t), (1, .int b), (3, .int x)] := hl
            refine lv_goto hx hb d_Table_nearestAbove_57 (tgt := 5) rfl ?_
            exact ih5 f x ls _ ⟨by omega, hZ, lv_sub hl [2, 3, 4, 0] rfl, hS⟩ (by omega)
          · skip
            rw [if_pos ⟨hc31, hq, Or.inr (i32_gt hc48)⟩] at hZ
            refine lv_iload hx hb d_Table_nearestAbove_51 (lv_at hl 0 rfl) ?_
            refine lv_istore_n hx hb d_Table_nearestAbove_53 rfl hl (by decide) rfl (fun ls hl => ?_)
            have hl : lv_has ls 6 [(3, .int (K k)), (5, .int (K k)), (0, .ref t), (1, .int b), (4, .int (nI k))] := hl
            refine lv_iinc hx hb d_Table_nearestAbove_54 hl (k := 4) rfl (v := nI (C - f)) ((nI_1 _).trans (congrArg nI hk1)) (by decide) rfl (fun ls hl => ?_)
            have hl : lv_has ls 6 [(4, .int (nI (C - f))), (3, .int (K k)), (5, .int (K k)), (0, .ref t), (1, .int b)] := hl
            refine lv_goto hx hb d_Table_nearestAbove_57 (tgt := 5) rfl ?_
            exact ih5 f (K k) ls _ ⟨by omega, hZ, lv_sub hl [3, 4, 1, 0] rfl, hS⟩ (by omega)
