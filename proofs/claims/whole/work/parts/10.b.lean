set_option maxHeartbeats 4000000 in
set_option maxRecDepth 100000 in
theorem c_draw (l : Launch) {dC : Nat → ClassId} {dI : Nat → Nat → Nat} {cA : ClassId} (sz : Nat) (g : Nat) (v : Int32 × Int32 × Int32 × Int32) : Met l y_Gen_draw (.code y_Gen_draw b_Gen_draw 3 (some .int) :: BG) ({ frames := 1, cells := 0, slots := 0, locals := 21 }) (pRW dC dI cA [.ref g] [(g, .inr (0, [.int v.1, .int v.2.1, .int v.2.2.1, .int v.2.2.2]))] sz) (va_Qi (fun r (_ : Unit) => r = gO v) (fun _ tS => wdB dC dI cA (va_A [(g, .inr (0, [.int v.1, .int v.2.1, .int v.2.2.1, .int v.2.2.2]))] sz) [(g, .inr (0, [.int (gS v).1, .int (gS v).2.1, .int (gS v).2.2.1, .int (gS v).2.2.2]))] tS) (va_A [(g, .inr (0, [.int v.1, .int v.2.1, .int v.2.2.1, .int v.2.2.2]))] sz)) 0 0 (va_A [(g, .inr (0, [.int v.1, .int v.2.1, .int v.2.2.1, .int v.2.2.2]))] sz) := by
  refine Met.ofW (cc := b_Gen_draw) (maxL := 3) (ret := some .int) (by decide) rfl ?_
  intro p e s m args below meth c s₁ B hml hv
  obtain ⟨rfl, hsz, hP, hK, hD0⟩ := hv
  have hx := B.exec
  have hb := B.bytes
  have hr := B.returns
  have hts : ∀ w ∈ BG, w.before _ s = true := fun w h => atoms_spec (ws := .code y_Gen_draw b_Gen_draw 3 (some .int) :: BG) B.pre w (List.mem_cons_of_mem _ h)
  have hown : s.vm.findClass R_Gen = some m.cls := findClass_of_methodNamed B.named
  have hlocks := B.notSynchronized
  subst hsz
  have hD := hD0.self (sz := s.heap.size)
  generalize hAe : va_A [(g, .inr (0, [.int v.1, .int v.2.1, .int v.2.2.1, .int v.2.2.2]))] s.heap.size = A at hD ⊢
  have hA : ∀ q : Nat, s.heap.size ≤ q → A q := fun q h => by rw [← hAe]; exact Or.inr h
  have hS : va_S A s.heap s.heap [] := va_S.rf
  have hP : va_P (dC, dI) cls [(g, .inr (0, [.int v.1, .int v.2.1, .int v.2.2.1, .int v.2.2.2]))] s.heap := hP
  have hl := lv_entry ([.ref g]) (n := 3) (Nat.le_of_ble_eq_true rfl)
  rw [lg_entry_eq]
  generalize (lg_sl ([.ref g]) ++ List.replicate (3 - (lg_sl ([.ref g])).length) Slot.unset).toArray = ls at hl ⊢
  have hl : lv_has ls 3 [(0, .ref g)] := hl
  refine lv_aload_n hx hb d_Gen_draw_0 rfl (lv_at hl 0 rfl) ?_
  refine va_get (ci := 0) (C := R_Gen) (T := F_Gen) (N := 4) hx hb hts in_Gen hown hK hP 0 rfl rfl 1 (by decide) (hts _ wk_37) (fun _ h => h) rfl d_Gen_draw_1 ?_
  refine lv_iconst hx hb d_Gen_draw_4 (v := 5) rfl ?_
  refine lv_imul hx hb d_Gen_draw_5 ?_
  refine lv_bipush hx hb d_Gen_draw_6 (v := 7) rfl ?_
  refine ro_i (va_runS (As := [.int (v.2.1 * 5), .int 7]) (rest := []) ⟨hx, hb, hml, hown, hts⟩ (c_rotI l (v.2.1 * 5) 7) (⟨callB_of 2 hts g_Gen_32 rfl rfl rfl (hts _ wk_5) (hts _ wk_69) (by decide +kernel) ⟨Nat.le_of_ble_eq_true rfl, Nat.le_of_ble_eq_true rfl⟩, hts _ wk_70⟩) ⟨bl_J, fun U hU hW => ⟨rfl, hU⟩⟩ rfl rfl hl.1 rfl (lv_room (Nat.le_of_ble_eq_true rfl)) d_Gen_draw_8 ⟨Nat.zero_le _, Nat.zero_le _⟩) hS (fun locs hS => ?_)
  refine lv_bipush hx hb d_Gen_draw_11 (v := 9) rfl ?_
  refine lv_imul hx hb d_Gen_draw_13 ?_
  refine lv_istore_n hx hb d_Gen_draw_14 rfl hl (by decide) rfl (fun ls hl => ?_)
  have hl : lv_has ls 3 [(1, .int ((rl32 (v.2.1 * 5) 7) * 9)), (0, .ref g)] := hl
  refine lv_aload_n hx hb d_Gen_draw_15 rfl (lv_at hl 1 rfl) ?_
  refine va_get (ci := 0) (C := R_Gen) (T := F_Gen) (N := 4) hx hb hts in_Gen hown hK hP 0 rfl rfl 1 (by decide) (hts _ wk_37) (fun _ h => h) rfl d_Gen_draw_16 ?_
  refine lv_bipush hx hb d_Gen_draw_19 (v := 9) rfl ?_
  refine lv_ishl hx hb d_Gen_draw_21 ?_
  refine lv_istore_n hx hb d_Gen_draw_22 rfl hl (by decide) rfl (fun ls hl => ?_)
  have hl : lv_has ls 3 [(2, .int (v.2.1 <<< (9 &&& 31))), (1, .int ((rl32 (v.2.1 * 5) 7) * 9)), (0, .ref g)] := hl
  refine lv_aload_n hx hb d_Gen_draw_23 rfl (lv_at hl 2 rfl) ?_
  refine W.eq (g2 := F0 m 24 ls [.ref g]) rfl ?_
  refine lv_dup hx hb d_Gen_draw_24 rfl ?_
  refine va_get (ci := 0) (C := R_Gen) (T := F_Gen) (N := 4) hx hb hts in_Gen hown hK hP 0 rfl rfl 2 (by decide) (hts _ wk_38) (fun _ h => h) rfl d_Gen_draw_25 ?_
  refine lv_aload_n hx hb d_Gen_draw_28 rfl (lv_at hl 2 rfl) ?_
  refine va_get (ci := 0) (C := R_Gen) (T := F_Gen) (N := 4) hx hb hts in_Gen hown hK hP 0 rfl rfl 0 (by decide) (hts _ wk_36) (fun _ h => h) rfl d_Gen_draw_29 ?_
  refine lv_ixor hx hb d_Gen_draw_32 ?_
  refine va_put (D := (dC, dI)) (ci := 0) (v := .int (v.2.2.1 ^^^ v.1)) (ty := .int) (C := R_Gen) (T := F_Gen) (N := 4) hx hb hts in_Gen t_Gen t_Gen_ok n_Gen hown hK hP hD hS 0 rfl rfl 2 (by decide) (hts _ wk_38) (fun _ h => h) rfl t_Gen_2 rfl rfl (Nat.le_of_ble_eq_true rfl) d_Gen_draw_33 (fun H locs hP hD hS => ?_)
  have hP : va_P (dC, dI) cls [(g, .inr (0, [.int v.1, .int v.2.1, .int (v.2.2.1 ^^^ v.1), .int v.2.2.2]))] H := hP
  have hD : va_D A [(g, .inr (0, [.int v.1, .int v.2.1, .int (v.2.2.1 ^^^ v.1), .int v.2.2.2]))] := hD
  refine lv_aload_n hx hb d_Gen_draw_36 rfl (lv_at hl 2 rfl) ?_
  refine lv_dup hx hb d_Gen_draw_37 rfl ?_
  refine va_get (ci := 0) (C := R_Gen) (T := F_Gen) (N := 4) hx hb hts in_Gen hown hK hP 0 rfl rfl 3 (by decide) (hts _ wk_39) (fun _ h => h) rfl d_Gen_draw_38 ?_
  refine lv_aload_n hx hb d_Gen_draw_41 rfl (lv_at hl 2 rfl) ?_
  refine va_get (ci := 0) (C := R_Gen) (T := F_Gen) (N := 4) hx hb hts in_Gen hown hK hP 0 rfl rfl 1 (by decide) (hts _ wk_37) (fun _ h => h) rfl d_Gen_draw_42 ?_
  refine lv_ixor hx hb d_Gen_draw_45 ?_
  refine va_put (D := (dC, dI)) (ci := 0) (v := .int (v.2.2.2 ^^^ v.2.1)) (ty := .int) (C := R_Gen) (T := F_Gen) (N := 4) hx hb hts in_Gen t_Gen t_Gen_ok n_Gen hown hK hP hD hS 0 rfl rfl 3 (by decide) (hts _ wk_39) (fun _ h => h) rfl t_Gen_3 rfl rfl (Nat.le_of_ble_eq_true rfl) d_Gen_draw_46 (fun H locs hP hD hS => ?_)
  have hP : va_P (dC, dI) cls [(g, .inr (0, [.int v.1, .int v.2.1, .int (v.2.2.1 ^^^ v.1), .int (v.2.2.2 ^^^ v.2.1)]))] H := hP
  have hD : va_D A [(g, .inr (0, [.int v.1, .int v.2.1, .int (v.2.2.1 ^^^ v.1), .int (v.2.2.2 ^^^ v.2.1)]))] := hD
  refine lv_aload_n hx hb d_Gen_draw_49 rfl (lv_at hl 2 rfl) ?_
  refine lv_dup hx hb d_Gen_draw_50 rfl ?_
  refine va_get (ci := 0) (C := R_Gen) (T := F_Gen) (N := 4) hx hb hts in_Gen hown hK hP 0 rfl rfl 1 (by decide) (hts _ wk_37) (fun _ h => h) rfl d_Gen_draw_51 ?_
  refine W.eq (g2 := F0 m 54 ls [.int v.2.1, .ref g]) rfl ?_
  refine lv_aload_n hx hb d_Gen_draw_54 rfl (lv_at hl 2 rfl) ?_
  refine va_get (ci := 0) (C := R_Gen) (T := F_Gen) (N := 4) hx hb hts in_Gen hown hK hP 0 rfl rfl 2 (by decide) (hts _ wk_38) (fun _ h => h) rfl d_Gen_draw_55 ?_
  refine lv_ixor hx hb d_Gen_draw_58 ?_
  refine va_put (D := (dC, dI)) (ci := 0) (v := .int (v.2.1 ^^^ (v.2.2.1 ^^^ v.1))) (ty := .int) (C := R_Gen) (T := F_Gen) (N := 4) hx hb hts in_Gen t_Gen t_Gen_ok n_Gen hown hK hP hD hS 0 rfl rfl 1 (by decide) (hts _ wk_37) (fun _ h => h) rfl t_Gen_1 rfl rfl (Nat.le_of_ble_eq_true rfl) d_Gen_draw_59 (fun H locs hP hD hS => ?_)
  have hP : va_P (dC, dI) cls [(g, .inr (0, [.int v.1, .int (v.2.1 ^^^ (v.2.2.1 ^^^ v.1)), .int (v.2.2.1 ^^^ v.1), .int (v.2.2.2 ^^^ v.2.1)]))] H := hP
  have hD : va_D A [(g, .inr (0, [.int v.1, .int (v.2.1 ^^^ (v.2.2.1 ^^^ v.1)), .int (v.2.2.1 ^^^ v.1), .int (v.2.2.2 ^^^ v.2.1)]))] := hD
  refine lv_aload_n hx hb d_Gen_draw_62 rfl (lv_at hl 2 rfl) ?_
  refine lv_dup hx hb d_Gen_draw_63 rfl ?_
  refine va_get (ci := 0) (C := R_Gen) (T := F_Gen) (N := 4) hx hb hts in_Gen hown hK hP 0 rfl rfl 0 (by decide) (hts _ wk_36) (fun _ h => h) rfl d_Gen_draw_64 ?_
  refine lv_aload_n hx hb d_Gen_draw_67 rfl (lv_at hl 2 rfl) ?_
  refine va_get (ci := 0) (C := R_Gen) (T := F_Gen) (N := 4) hx hb hts in_Gen hown hK hP 0 rfl rfl 3 (by decide) (hts _ wk_39) (fun _ h => h) rfl d_Gen_draw_68 ?_
  refine lv_ixor hx hb d_Gen_draw_71 ?_
  refine va_put (D := (dC, dI)) (ci := 0) (v := .int (v.1 ^^^ (v.2.2.2 ^^^ v.2.1))) (ty := .int) (C := R_Gen) (T := F_Gen) (N := 4) hx hb hts in_Gen t_Gen t_Gen_ok n_Gen hown hK hP hD hS 0 rfl rfl 0 (by decide) (hts _ wk_36) (fun _ h => h) rfl t_Gen_0 rfl rfl (Nat.le_of_ble_eq_true rfl) d_Gen_draw_72 (fun H locs hP hD hS => ?_)
  have hP : va_P (dC, dI) cls [(g, .inr (0, [.int (v.1 ^^^ (v.2.2.2 ^^^ v.2.1)), .int (v.2.1 ^^^ (v.2.2.1 ^^^ v.1)), .int (v.2.2.1 ^^^ v.1), .int (v.2.2.2 ^^^ v.2.1)]))] H := hP
  have hD : va_D A [(g, .inr (0, [.int (v.1 ^^^ (v.2.2.2 ^^^ v.2.1)), .int (v.2.1 ^^^ (v.2.2.1 ^^^ v.1)), .int (v.2.2.1 ^^^ v.1), .int (v.2.2.2 ^^^ v.2.1)]))] := hD
  refine lv_aload_n hx hb d_Gen_draw_75 rfl (lv_at hl 2 rfl) ?_
  refine lv_dup hx hb d_Gen_draw_76 rfl ?_
  refine va_get (ci := 0) (C := R_Gen) (T := F_Gen) (N := 4) hx hb hts in_Gen hown hK hP 0 rfl rfl 2 (by decide) (hts _ wk_38) (fun _ h => h) rfl d_Gen_draw_77 ?_
  refine lv_iload_n hx hb d_Gen_draw_80 rfl (lv_at hl 0 rfl) ?_
  refine lv_ixor hx hb d_Gen_draw_81 ?_
  refine W.eq (g2 := F0 m 82 ls [.int ((v.2.2.1 ^^^ v.1) ^^^ (v.2.1 <<< (9 &&& 31))), .ref g]) rfl ?_
  refine va_put (D := (dC, dI)) (ci := 0) (v := .int ((v.2.2.1 ^^^ v.1) ^^^ (v.2.1 <<< (9 &&& 31)))) (ty := .int) (C := R_Gen) (T := F_Gen) (N := 4) hx hb hts in_Gen t_Gen t_Gen_ok n_Gen hown hK hP hD hS 0 rfl rfl 2 (by decide) (hts _ wk_38) (fun _ h => h) rfl t_Gen_2 rfl rfl (Nat.le_of_ble_eq_true rfl) d_Gen_draw_82 (fun H locs hP hD hS => ?_)
  have hP : va_P (dC, dI) cls [(g, .inr (0, [.int (v.1 ^^^ (v.2.2.2 ^^^ v.2.1)), .int (v.2.1 ^^^ (v.2.2.1 ^^^ v.1)), .int ((v.2.2.1 ^^^ v.1) ^^^ (v.2.1 <<< (9 &&& 31))), .int (v.2.2.2 ^^^ v.2.1)]))] H := hP
  have hD : va_D A [(g, .inr (0, [.int (v.1 ^^^ (v.2.2.2 ^^^ v.2.1)), .int (v.2.1 ^^^ (v.2.2.1 ^^^ v.1)), .int ((v.2.2.1 ^^^ v.1) ^^^ (v.2.1 <<< (9 &&& 31))), .int (v.2.2.2 ^^^ v.2.1)]))] := hD
  refine lv_aload_n hx hb d_Gen_draw_85 rfl (lv_at hl 2 rfl) ?_
  refine lv_aload_n hx hb d_Gen_draw_86 rfl (lv_at hl 2 rfl) ?_
  refine va_get (ci := 0) (C := R_Gen) (T := F_Gen) (N := 4) hx hb hts in_Gen hown hK hP 0 rfl rfl 3 (by decide) (hts _ wk_39) (fun _ h => h) rfl d_Gen_draw_87 ?_
  refine lv_bipush hx hb d_Gen_draw_90 (v := 11) rfl ?_
  refine ro_i (va_runS (As := [.int (v.2.2.2 ^^^ v.2.1), .int 11]) (rest := [.ref g]) ⟨hx, hb, hml, hown, hts⟩ (c_rotI l (v.2.2.2 ^^^ v.2.1) 11) (⟨callB_of 2 hts g_Gen_32 rfl rfl rfl (hts _ wk_5) (hts _ wk_69) (by decide +kernel) ⟨Nat.le_of_ble_eq_true rfl, Nat.le_of_ble_eq_true rfl⟩, hts _ wk_70⟩) ⟨bl_J, fun U hU hW => ⟨rfl, hU⟩⟩ rfl rfl hl.1 rfl (lv_room (Nat.le_of_ble_eq_true rfl)) d_Gen_draw_92 ⟨Nat.zero_le _, Nat.zero_le _⟩) hS (fun locs hS => ?_)
  refine va_put (D := (dC, dI)) (ci := 0) (v := .int (rl32 (v.2.2.2 ^^^ v.2.1) 11)) (ty := .int) (C := R_Gen) (T := F_Gen) (N := 4) hx hb hts in_Gen t_Gen t_Gen_ok n_Gen hown hK hP hD hS 0 rfl rfl 3 (by decide) (hts _ wk_39) (fun _ h => h) rfl t_Gen_3 rfl rfl (Nat.le_of_ble_eq_true rfl) d_Gen_draw_95 (fun H locs hP hD hS => ?_)
  have hP : va_P (dC, dI) cls [(g, .inr (0, [.int (v.1 ^^^ (v.2.2.2 ^^^ v.2.1)), .int (v.2.1 ^^^ (v.2.2.1 ^^^ v.1)), .int ((v.2.2.1 ^^^ v.1) ^^^ (v.2.1 <<< (9 &&& 31))), .int (rl32 (v.2.2.2 ^^^ v.2.1) 11)]))] H := hP
  have hD : va_D A [(g, .inr (0, [.int (v.1 ^^^ (v.2.2.2 ^^^ v.2.1)), .int (v.2.1 ^^^ (v.2.2.1 ^^^ v.1)), .int ((v.2.2.1 ^^^ v.1) ^^^ (v.2.1 <<< (9 &&& 31))), .int (rl32 (v.2.2.2 ^^^ v.2.1) 11)]))] := hD
  refine lv_iload_n hx hb d_Gen_draw_98 rfl (lv_at hl 1 rfl) ?_
  exact W.iret hx hb hr (fun tS ht hW => ⟨⟨_, (), rfl, rfl, by rw [ht]; exact hP, va_K.moved hW.alike hK, hD⟩, hS.F ht⟩) hS.2.2 d_Gen_draw_99 hlocks
set_option maxHeartbeats 4000000 in
set_option maxRecDepth 100000 in
theorem c_Gen_init (l : Launch) {dC : Nat → ClassId} {dI : Nat → Nat → Nat} {cA : ClassId} (sz : Nat) (g : Nat) (sd : Int32) : Met l y_Gen_init (.code y_Gen_init b_Gen_init 2 none :: BG) ({ frames := 1, cells := 0, slots := 0, locals := 21 }) (pRW dC dI cA [.ref g, .int sd] [(g, .inr (0, [.int 0, .int 0, .int 0, .int 0]))] sz) (va_Qv (fun (_ : Unit) => True) (fun _ t => wdB dC dI cA (va_A [(g, .inr (0, [.int 0, .int 0, .int 0, .int 0]))] sz) [(g, .inr (0, [.int (g0 sd).1, .int (g0 sd).2.1, .int (g0 sd).2.2.1, .int (g0 sd).2.2.2]))] t) (va_A [(g, .inr (0, [.int 0, .int 0, .int 0, .int 0]))] sz)) 0 0 (va_A [(g, .inr (0, [.int 0, .int 0, .int 0, .int 0]))] sz) := by
  refine Met.ofW (cc := b_Gen_init) (maxL := 2) (ret := none) (by decide) rfl ?_
  intro p e s m args below meth c s₁ B hml hv
  obtain ⟨rfl, hsz, hP, hK, hD0⟩ := hv
  have hx := B.exec
  have hb := B.bytes
  have hr := B.returns
  have hts : ∀ w ∈ BG, w.before _ s = true := fun w h => atoms_spec (ws := .code y_Gen_init b_Gen_init 2 none :: BG) B.pre w (List.mem_cons_of_mem _ h)
  have hown : s.vm.findClass R_Gen = some m.cls := findClass_of_methodNamed B.named
  have hlocks := B.notSynchronized
  have hin : meth.name = "<init>" := (name_of_methodNamed B.named B.method).1
  subst hsz
  have hD := hD0.self (sz := s.heap.size)
  generalize hAe : va_A [(g, .inr (0, [.int 0, .int 0, .int 0, .int 0]))] s.heap.size = A at hD ⊢
  have hA : ∀ q : Nat, s.heap.size ≤ q → A q := fun q h => by rw [← hAe]; exact Or.inr h
  have hS : va_S A s.heap s.heap [] := va_S.rf
  have hP : va_P (dC, dI) cls [(g, .inr (0, [.int 0, .int 0, .int 0, .int 0]))] s.heap := hP
  have hl := lv_entry ([.ref g, .int sd]) (n := 2) (Nat.le_of_ble_eq_true rfl)
  rw [lg_entry_eq]
  generalize (lg_sl ([.ref g, .int sd]) ++ List.replicate (2 - (lg_sl ([.ref g, .int sd])).length) Slot.unset).toArray = ls at hl ⊢
  have hl : lv_has ls 2 [(0, .ref g), (1, .int sd)] := hl
  refine lv_aload_n hx hb d_Gen_init_0 rfl (lv_at hl 0 rfl) ?_
  refine W.objInit hx hb hown (hts _ wk_26) (hts _ wk_14) (hts _ wk_15) rfl (by rw [hml]; exact hl.1) rfl d_Gen_init_1 (Nat.le_of_ble_eq_true rfl) (Nat.le_of_ble_eq_true rfl) ?_
  refine W.eq (g2 := F0 m 4 ls []) rfl ?_
  refine lv_aload_n hx hb d_Gen_init_4 rfl (lv_at hl 0 rfl) ?_
  refine lv_iload_n hx hb d_Gen_init_5 rfl (lv_at hl 1 rfl) ?_
  refine lv_ldc hx hb hown (hts _ wk_27) d_Gen_init_6 ?_
  refine lv_iadd hx hb d_Gen_init_8 ?_
  refine ro_i (va_runS (As := [.int (sd + (-1640531527))]) (rest := [.ref g]) ⟨hx, hb, hml, hown, hts⟩ (c_mixed l (sd + (-1640531527))) (cwS 1 hts g_Gen_10 rfl rfl rfl (by decide +kernel) ⟨Nat.le_of_ble_eq_true rfl, Nat.le_of_ble_eq_true rfl⟩) ⟨bl_J, fun U hU hW => ⟨rfl, hU⟩⟩ rfl rfl hl.1 rfl (lv_room (Nat.le_of_ble_eq_true rfl)) d_Gen_init_9 ⟨Nat.zero_le _, Nat.zero_le _⟩) hS (fun locs hS => ?_)
  refine va_put (D := (dC, dI)) (ci := 0) (v := .int (mx (sd + (-1640531527)))) (ty := .int) (C := R_Gen) (T := F_Gen) (N := 4) hx hb hts in_Gen t_Gen t_Gen_ok n_Gen hown hK hP hD hS 0 rfl rfl 0 (by decide) (hts _ wk_36) (fun _ h => h) rfl t_Gen_0 rfl rfl (Nat.le_of_ble_eq_true rfl) d_Gen_init_12 (fun H locs hP hD hS => ?_)
  have hP : va_P (dC, dI) cls [(g, .inr (0, [.int (mx (sd + (-1640531527))), .int 0, .int 0, .int 0]))] H := hP
  have hD : va_D A [(g, .inr (0, [.int (mx (sd + (-1640531527))), .int 0, .int 0, .int 0]))] := hD
  refine lv_aload_n hx hb d_Gen_init_15 rfl (lv_at hl 0 rfl) ?_
  refine lv_iload_n hx hb d_Gen_init_16 rfl (lv_at hl 1 rfl) ?_
  refine lv_ldc hx hb hown (hts _ wk_33) d_Gen_init_17 ?_
  refine lv_iadd hx hb d_Gen_init_19 ?_
  refine ro_i (va_runS (As := [.int (sd + 1013904242)]) (rest := [.ref g]) ⟨hx, hb, hml, hown, hts⟩ (c_mixed l (sd + 1013904242)) (cwS 1 hts g_Gen_10 rfl rfl rfl (by decide +kernel) ⟨Nat.le_of_ble_eq_true rfl, Nat.le_of_ble_eq_true rfl⟩) ⟨bl_J, fun U hU hW => ⟨rfl, hU⟩⟩ rfl rfl hl.1 rfl (lv_room (Nat.le_of_ble_eq_true rfl)) d_Gen_init_20 ⟨Nat.zero_le _, Nat.zero_le _⟩) hS (fun locs hS => ?_)
  refine va_put (D := (dC, dI)) (ci := 0) (v := .int (mx (sd + 1013904242))) (ty := .int) (C := R_Gen) (T := F_Gen) (N := 4) hx hb hts in_Gen t_Gen t_Gen_ok n_Gen hown hK hP hD hS 0 rfl rfl 1 (by decide) (hts _ wk_37) (fun _ h => h) rfl t_Gen_1 rfl rfl (Nat.le_of_ble_eq_true rfl) d_Gen_init_23 (fun H locs hP hD hS => ?_)
  have hP : va_P (dC, dI) cls [(g, .inr (0, [.int (mx (sd + (-1640531527))), .int (mx (sd + 1013904242)), .int 0, .int 0]))] H := hP
  have hD : va_D A [(g, .inr (0, [.int (mx (sd + (-1640531527))), .int (mx (sd + 1013904242)), .int 0, .int 0]))] := hD
  refine lv_aload_n hx hb d_Gen_init_26 rfl (lv_at hl 0 rfl) ?_
  refine W.eq (g2 := F0 m 27 ls [.ref g]) rfl ?_
  refine lv_iload_n hx hb d_Gen_init_27 rfl (lv_at hl 1 rfl) ?_
  refine lv_ldc hx hb hown (hts _ wk_34) d_Gen_init_28 ?_
  refine lv_iadd hx hb d_Gen_init_30 ?_
  refine ro_i (va_runS (As := [.int (sd + (-626627285))]) (rest := [.ref g]) ⟨hx, hb, hml, hown, hts⟩ (c_mixed l (sd + (-626627285))) (cwS 1 hts g_Gen_10 rfl rfl rfl (by decide +kernel) ⟨Nat.le_of_ble_eq_true rfl, Nat.le_of_ble_eq_true rfl⟩) ⟨bl_J, fun U hU hW => ⟨rfl, hU⟩⟩ rfl rfl hl.1 rfl (lv_room (Nat.le_of_ble_eq_true rfl)) d_Gen_init_31 ⟨Nat.zero_le _, Nat.zero_le _⟩) hS (fun locs hS => ?_)
  refine va_put (D := (dC, dI)) (ci := 0) (v := .int (mx (sd + (-626627285)))) (ty := .int) (C := R_Gen) (T := F_Gen) (N := 4) hx hb hts in_Gen t_Gen t_Gen_ok n_Gen hown hK hP hD hS 0 rfl rfl 2 (by decide) (hts _ wk_38) (fun _ h => h) rfl t_Gen_2 rfl rfl (Nat.le_of_ble_eq_true rfl) d_Gen_init_34 (fun H locs hP hD hS => ?_)
  have hP : va_P (dC, dI) cls [(g, .inr (0, [.int (mx (sd + (-1640531527))), .int (mx (sd + 1013904242)), .int (mx (sd + (-626627285))), .int 0]))] H := hP
  have hD : va_D A [(g, .inr (0, [.int (mx (sd + (-1640531527))), .int (mx (sd + 1013904242)), .int (mx (sd + (-626627285))), .int 0]))] := hD
  refine lv_aload_n hx hb d_Gen_init_37 rfl (lv_at hl 0 rfl) ?_
  refine lv_iload_n hx hb d_Gen_init_38 rfl (lv_at hl 1 rfl) ?_
  refine lv_ldc hx hb hown (hts _ wk_35) d_Gen_init_39 ?_
  refine lv_iadd hx hb d_Gen_init_41 ?_
  refine ro_i (va_runS (As := [.int (sd + 2027808484)]) (rest := [.ref g]) ⟨hx, hb, hml, hown, hts⟩ (c_mixed l (sd + 2027808484)) (cwS 1 hts g_Gen_10 rfl rfl rfl (by decide +kernel) ⟨Nat.le_of_ble_eq_true rfl, Nat.le_of_ble_eq_true rfl⟩) ⟨bl_J, fun U hU hW => ⟨rfl, hU⟩⟩ rfl rfl hl.1 rfl (lv_room (Nat.le_of_ble_eq_true rfl)) d_Gen_init_42 ⟨Nat.zero_le _, Nat.zero_le _⟩) hS (fun locs hS => ?_)
  refine va_put (D := (dC, dI)) (ci := 0) (v := .int (mx (sd + 2027808484))) (ty := .int) (C := R_Gen) (T := F_Gen) (N := 4) hx hb hts in_Gen t_Gen t_Gen_ok n_Gen hown hK hP hD hS 0 rfl rfl 3 (by decide) (hts _ wk_39) (fun _ h => h) rfl t_Gen_3 rfl rfl (Nat.le_of_ble_eq_true rfl) d_Gen_init_45 (fun H locs hP hD hS => ?_)
  have hP : va_P (dC, dI) cls [(g, .inr (0, [.int (mx (sd + (-1640531527))), .int (mx (sd + 1013904242)), .int (mx (sd + (-626627285))), .int (mx (sd + 2027808484))]))] H := hP
  have hD : va_D A [(g, .inr (0, [.int (mx (sd + (-1640531527))), .int (mx (sd + 1013904242)), .int (mx (sd + (-626627285))), .int (mx (sd + 2027808484))]))] := hD
  refine lv_aload_n hx hb d_Gen_init_48 rfl (lv_at hl 0 rfl) ?_
  refine va_get (ci := 0) (C := R_Gen) (T := F_Gen) (N := 4) hx hb hts in_Gen hown hK hP 0 rfl rfl 0 (by decide) (hts _ wk_36) (fun _ h => h) rfl d_Gen_init_49 ?_
  refine lv_aload_n hx hb d_Gen_init_52 rfl (lv_at hl 0 rfl) ?_
  refine va_get (ci := 0) (C := R_Gen) (T := F_Gen) (N := 4) hx hb hts in_Gen hown hK hP 0 rfl rfl 1 (by decide) (hts _ wk_37) (fun _ h => h) rfl d_Gen_init_53 ?_
  refine lv_ior hx hb d_Gen_init_56 ?_
  refine W.eq (g2 := F0 m 57 ls [.int ((mx (sd + (-1640531527))) ||| (mx (sd + 1013904242)))]) rfl ?_
  refine lv_aload_n hx hb d_Gen_init_57 rfl (lv_at hl 0 rfl) ?_
  refine va_get (ci := 0) (C := R_Gen) (T := F_Gen) (N := 4) hx hb hts in_Gen hown hK hP 0 rfl rfl 2 (by decide) (hts _ wk_38) (fun _ h => h) rfl d_Gen_init_58 ?_
  refine lv_ior hx hb d_Gen_init_61 ?_
  refine lv_aload_n hx hb d_Gen_init_62 rfl (lv_at hl 0 rfl) ?_
  refine va_get (ci := 0) (C := R_Gen) (T := F_Gen) (N := 4) hx hb hts in_Gen hown hK hP 0 rfl rfl 3 (by decide) (hts _ wk_39) (fun _ h => h) rfl d_Gen_init_63 ?_
  refine lv_ior hx hb d_Gen_init_66 ?_
  refine lv_if_ne hx hb d_Gen_init_67 (tgt := 75) rfl (fun hc67 => ?_) (fun hc67 => ?_)
  · skip
    have e0 : (g0 sd).1 = mx (sd + (-1640531527)) := if_neg hc67
    exact W.vret hx hb hr (fun tS ht hW => ⟨⟨(), rfl, trivial, by rw [ht]; exact (by rw [e0]; exact hP), va_K.moved hW.alike hK, (by rw [e0]; exact hD)⟩, hS.F ht⟩) hS.2.2 d_Gen_init_75 hlocks
  · skip
    have e0 : (g0 sd).1 = 1 := if_pos hc67
    refine lv_aload_n hx hb d_Gen_init_70 rfl (lv_at hl 0 rfl) ?_
    refine lv_iconst hx hb d_Gen_init_71 (v := 1) rfl ?_
    refine va_put (D := (dC, dI)) (ci := 0) (v := .int 1) (ty := .int) (C := R_Gen) (T := F_Gen) (N := 4) hx hb hts in_Gen t_Gen t_Gen_ok n_Gen hown hK hP hD hS 0 rfl rfl 0 (by decide) (hts _ wk_36) (fun _ h => h) rfl t_Gen_0 rfl rfl (Nat.le_of_ble_eq_true rfl) d_Gen_init_72 (fun H locs hP hD hS => ?_)
    have hP : va_P (dC, dI) cls [(g, .inr (0, [.int 1, .int (mx (sd + 1013904242)), .int (mx (sd + (-626627285))), .int (mx (sd + 2027808484))]))] H := hP
    have hD : va_D A [(g, .inr (0, [.int 1, .int (mx (sd + 1013904242)), .int (mx (sd + (-626627285))), .int (mx (sd + 2027808484))]))] := hD
    exact W.vret hx hb hr (fun tS ht hW => ⟨⟨(), rfl, trivial, by rw [ht]; exact (by rw [e0]; exact hP), va_K.moved hW.alike hK, (by rw [e0]; exact hD)⟩, hS.F ht⟩) hS.2.2 d_Gen_init_75 hlocks
