set_option maxHeartbeats 4000000 in
set_option maxRecDepth 100000 in
theorem c_boundCount (l : Launch) {dC : Nat → ClassId} {dI : Nat → Nat → Nat} {cA : ClassId} {Hp : Heap} {o g tn nm nk nv nw to om ok ov ow C : Nat} {lim mb lo rk : Int32} {v : Int32 × Int32 × Int32 × Int32} {M K V Wd OM OK OV Wo : Nat → Int32} (hP : va_P (dC, dI) cls [(o, .inr (2, [.int lim, .int mb, .ref g, .ref tn, .ref to, .int lo, .int rk])), (g, .inr (0, [.int v.1, .int v.2.1, .int v.2.2.1, .int v.2.2.2])), (tn, .inr (1, [.int (nI (C - 1)), .ref nm, .ref nk, .ref nv, .ref nw, .int (nI (cnt M C))])), (nm, .inl (cA, C, .inl M)), (nk, .inl (cA, C, .inl K)), (nv, .inl (cA, C, .inl V)), (nw, .inl (cA, 4, .inl Wd)), (to, .inr (1, [.int (nI (C - 1)), .ref om, .ref ok, .ref ov, .ref ow, .int (nI (cnt OM C))])), (om, .inl (cA, C, .inl OM)), (ok, .inl (cA, C, .inl OK)), (ov, .inl (cA, C, .inl OV)), (ow, .inl (cA, 4, .inl Wo))] Hp) : Met l y_Cells_boundCount (.code y_Cells_boundCount b_Cells_boundCount 1 (some .int) :: BG) ({ frames := 1, cells := 0, slots := 0, locals := 12 }) (pNO dC dI cA [.ref o] Hp) (qRi (nI (cnt M C) + nI (cnt OM C)) Hp) 0 0 (fun _ => False) := by
  refine Met.ofW (cc := b_Cells_boundCount) (maxL := 1) (ret := some .int) (by decide) rfl ?_
  intro p e s m args below meth c s₁ B hml hv
  obtain ⟨rfl, rfl, hK, hN⟩ := hv
  have hx := B.exec
  have hb := B.bytes
  have hr := B.returns
  have hts : ∀ w ∈ BG, w.before _ s = true := fun w h => atoms_spec (ws := .code y_Cells_boundCount b_Cells_boundCount 1 (some .int) :: BG) B.pre w (List.mem_cons_of_mem _ h)
  have hown : s.vm.findClass R_Cells = some m.cls := findClass_of_methodNamed B.named
  have hlocks := B.notSynchronized
  have hS : va_S (fun _ => False) s.heap s.heap [] := va_S.rf
  have hl := lv_entry ([.ref o]) (n := 1) (Nat.le_of_ble_eq_true rfl)
  rw [lg_entry_eq]
  generalize (lg_sl ([.ref o]) ++ List.replicate (1 - (lg_sl ([.ref o])).length) Slot.unset).toArray = ls at hl ⊢
  have hl : lv_has ls 1 [(0, .ref o)] := hl
  refine lv_aload_n hx hb d_Cells_boundCount_0 rfl (lv_at hl 0 rfl) ?_
  refine va_get (ci := 2) (C := R_Cells) (T := F_Cells) (N := 7) hx hb hts in_Cells hown hK hP 0 rfl rfl 3 (by decide) (hts _ wk_75) (fun _ h => h) rfl d_Cells_boundCount_1 ?_
  refine va_getN (ci := 1) (C := R_Table) (T := F_Table) (N := 6) hx hb hts in_Table hown hK hP 2 rfl rfl 5 (by decide) (va_Nw.use rfl (hN _ wn_7)) (fun _ h => h) rfl d_Cells_boundCount_4 ?_
  refine lv_aload_n hx hb d_Cells_boundCount_7 rfl (lv_at hl 0 rfl) ?_
  refine va_get (ci := 2) (C := R_Cells) (T := F_Cells) (N := 7) hx hb hts in_Cells hown hK hP 0 rfl rfl 4 (by decide) (hts _ wk_76) (fun _ h => h) rfl d_Cells_boundCount_8 ?_
  refine va_getN (ci := 1) (C := R_Table) (T := F_Table) (N := 6) hx hb hts in_Table hown hK hP 7 rfl rfl 5 (by decide) (va_Nw.use rfl (hN _ wn_7)) (fun _ h => h) rfl d_Cells_boundCount_11 ?_
  refine lv_iadd hx hb d_Cells_boundCount_14 ?_
  exact rt_i hx hb hr hlocks rfl hS d_Cells_boundCount_15
set_option maxHeartbeats 4000000 in
set_option maxRecDepth 100000 in
theorem c_size (l : Launch) {dC : Nat → ClassId} {dI : Nat → Nat → Nat} {cA : ClassId} {Hp : Heap} {o g tn nm nk nv nw to om ok ov ow C : Nat} {lim mb lo rk : Int32} {v : Int32 × Int32 × Int32 × Int32} {M K V Wd OM OK OV Wo : Nat → Int32} (hP : va_P (dC, dI) cls [(o, .inr (2, [.int lim, .int mb, .ref g, .ref tn, .ref to, .int lo, .int rk])), (g, .inr (0, [.int v.1, .int v.2.1, .int v.2.2.1, .int v.2.2.2])), (tn, .inr (1, [.int (nI (C - 1)), .ref nm, .ref nk, .ref nv, .ref nw, .int (nI (cnt M C))])), (nm, .inl (cA, C, .inl M)), (nk, .inl (cA, C, .inl K)), (nv, .inl (cA, C, .inl V)), (nw, .inl (cA, 4, .inl Wd)), (to, .inr (1, [.int (nI (C - 1)), .ref om, .ref ok, .ref ov, .ref ow, .int (nI (cnt OM C))])), (om, .inl (cA, C, .inl OM)), (ok, .inl (cA, C, .inl OK)), (ov, .inl (cA, C, .inl OV)), (ow, .inl (cA, 4, .inl Wo))] Hp) : Met l y_Cells_size (.code y_Cells_size b_Cells_size 1 (some .int) :: BG) ({ frames := 2, cells := 0, slots := 0, locals := 32 }) (pNO dC dI cA [.ref o] Hp) (qRi (nI (cnt M C) + nI (cnt OM C)) Hp) 0 0 (fun _ => False) := by
  refine Met.ofW (cc := b_Cells_size) (maxL := 1) (ret := some .int) (by decide) rfl ?_
  intro p e s m args below meth c s₁ B hml hv
  obtain ⟨rfl, rfl, hK, hN⟩ := hv
  have hx := B.exec
  have hb := B.bytes
  have hr := B.returns
  have hts : ∀ w ∈ BG, w.before _ s = true := fun w h => atoms_spec (ws := .code y_Cells_size b_Cells_size 1 (some .int) :: BG) B.pre w (List.mem_cons_of_mem _ h)
  have hown : s.vm.findClass R_Cells = some m.cls := findClass_of_methodNamed B.named
  have hlocks := B.notSynchronized
  have hS : va_S (fun _ => False) s.heap s.heap [] := va_S.rf
  have hl := lv_entry ([.ref o]) (n := 1) (Nat.le_of_ble_eq_true rfl)
  rw [lg_entry_eq]
  generalize (lg_sl ([.ref o]) ++ List.replicate (1 - (lg_sl ([.ref o])).length) Slot.unset).toArray = ls at hl ⊢
  have hl : lv_has ls 1 [(0, .ref o)] := hl
  refine lv_aload_n hx hb d_Cells_size_0 rfl (lv_at hl 0 rfl) ?_
  refine ro_i (va_runV (As := []) (rest := []) ⟨hx, hb, hml, hown, hts⟩ (c_boundCount l hP) (cwV 0 hts g_Cells_65 rfl rfl rfl (by decide +kernel) ⟨Nat.le_of_ble_eq_true rfl, Nat.le_of_ble_eq_true rfl⟩) ⟨bl_NO, va_recv (q0 := 0) hK hP rfl rfl, fun U hU hW => ⟨rfl, hU, va_K.moved hW.alike hK, NW.warm hW hN⟩⟩ rfl rfl hl.1 rfl (lv_room (Nat.le_of_ble_eq_true rfl)) d_Cells_size_1 ⟨Nat.zero_le _, Nat.zero_le _⟩) hS (fun locs hS => ?_)
  exact rt_i hx hb hr hlocks rfl hS d_Cells_size_4
set_option maxHeartbeats 4000000 in
set_option maxRecDepth 100000 in
theorem c_probeMax (l : Launch) {dC : Nat → ClassId} {dI : Nat → Nat → Nat} {cA : ClassId} {Hp : Heap} {o g tn nm nk nv nw to om ok ov ow C : Nat} {lim mb lo rk : Int32} {v : Int32 × Int32 × Int32 × Int32} {M K V Wd OM OK OV Wo : Nat → Int32} (hP : va_P (dC, dI) cls [(o, .inr (2, [.int lim, .int mb, .ref g, .ref tn, .ref to, .int lo, .int rk])), (g, .inr (0, [.int v.1, .int v.2.1, .int v.2.2.1, .int v.2.2.2])), (tn, .inr (1, [.int (nI (C - 1)), .ref nm, .ref nk, .ref nv, .ref nw, .int (nI (cnt M C))])), (nm, .inl (cA, C, .inl M)), (nk, .inl (cA, C, .inl K)), (nv, .inl (cA, C, .inl V)), (nw, .inl (cA, 4, .inl Wd)), (to, .inr (1, [.int (nI (C - 1)), .ref om, .ref ok, .ref ov, .ref ow, .int (nI (cnt OM C))])), (om, .inl (cA, C, .inl OM)), (ok, .inl (cA, C, .inl OK)), (ov, .inl (cA, C, .inl OV)), (ow, .inl (cA, 4, .inl Wo))] Hp) : Met l y_Cells_probeMax (.code y_Cells_probeMax b_Cells_probeMax 1 (some .int) :: BG) ({ frames := 1, cells := 0, slots := 0, locals := 12 }) (pNO dC dI cA [.ref o] Hp) (qRi lo Hp) 0 0 (fun _ => False) := by
  refine Met.ofW (cc := b_Cells_probeMax) (maxL := 1) (ret := some .int) (by decide) rfl ?_
  intro p e s m args below meth c s₁ B hml hv
  obtain ⟨rfl, rfl, hK, hN⟩ := hv
  have hx := B.exec
  have hb := B.bytes
  have hr := B.returns
  have hts : ∀ w ∈ BG, w.before _ s = true := fun w h => atoms_spec (ws := .code y_Cells_probeMax b_Cells_probeMax 1 (some .int) :: BG) B.pre w (List.mem_cons_of_mem _ h)
  have hown : s.vm.findClass R_Cells = some m.cls := findClass_of_methodNamed B.named
  have hlocks := B.notSynchronized
  have hS : va_S (fun _ => False) s.heap s.heap [] := va_S.rf
  have hl := lv_entry ([.ref o]) (n := 1) (Nat.le_of_ble_eq_true rfl)
  rw [lg_entry_eq]
  generalize (lg_sl ([.ref o]) ++ List.replicate (1 - (lg_sl ([.ref o])).length) Slot.unset).toArray = ls at hl ⊢
  have hl : lv_has ls 1 [(0, .ref o)] := hl
  refine lv_aload_n hx hb d_Cells_probeMax_0 rfl (lv_at hl 0 rfl) ?_
  refine va_get (ci := 2) (C := R_Cells) (T := F_Cells) (N := 7) hx hb hts in_Cells hown hK hP 0 rfl rfl 5 (by decide) (hts _ wk_77) (fun _ h => h) rfl d_Cells_probeMax_1 ?_
  exact rt_i hx hb hr hlocks rfl hS d_Cells_probeMax_4
set_option maxHeartbeats 4000000 in
set_option maxRecDepth 100000 in
theorem c_rekeys (l : Launch) {dC : Nat → ClassId} {dI : Nat → Nat → Nat} {cA : ClassId} {Hp : Heap} {o g tn nm nk nv nw to om ok ov ow C : Nat} {lim mb lo rk : Int32} {v : Int32 × Int32 × Int32 × Int32} {M K V Wd OM OK OV Wo : Nat → Int32} (hP : va_P (dC, dI) cls [(o, .inr (2, [.int lim, .int mb, .ref g, .ref tn, .ref to, .int lo, .int rk])), (g, .inr (0, [.int v.1, .int v.2.1, .int v.2.2.1, .int v.2.2.2])), (tn, .inr (1, [.int (nI (C - 1)), .ref nm, .ref nk, .ref nv, .ref nw, .int (nI (cnt M C))])), (nm, .inl (cA, C, .inl M)), (nk, .inl (cA, C, .inl K)), (nv, .inl (cA, C, .inl V)), (nw, .inl (cA, 4, .inl Wd)), (to, .inr (1, [.int (nI (C - 1)), .ref om, .ref ok, .ref ov, .ref ow, .int (nI (cnt OM C))])), (om, .inl (cA, C, .inl OM)), (ok, .inl (cA, C, .inl OK)), (ov, .inl (cA, C, .inl OV)), (ow, .inl (cA, 4, .inl Wo))] Hp) : Met l y_Cells_rekeys (.code y_Cells_rekeys b_Cells_rekeys 1 (some .int) :: BG) ({ frames := 1, cells := 0, slots := 0, locals := 12 }) (pNO dC dI cA [.ref o] Hp) (qRi rk Hp) 0 0 (fun _ => False) := by
  refine Met.ofW (cc := b_Cells_rekeys) (maxL := 1) (ret := some .int) (by decide) rfl ?_
  intro p e s m args below meth c s₁ B hml hv
  obtain ⟨rfl, rfl, hK, hN⟩ := hv
  have hx := B.exec
  have hb := B.bytes
  have hr := B.returns
  have hts : ∀ w ∈ BG, w.before _ s = true := fun w h => atoms_spec (ws := .code y_Cells_rekeys b_Cells_rekeys 1 (some .int) :: BG) B.pre w (List.mem_cons_of_mem _ h)
  have hown : s.vm.findClass R_Cells = some m.cls := findClass_of_methodNamed B.named
  have hlocks := B.notSynchronized
  have hS : va_S (fun _ => False) s.heap s.heap [] := va_S.rf
  have hl := lv_entry ([.ref o]) (n := 1) (Nat.le_of_ble_eq_true rfl)
  rw [lg_entry_eq]
  generalize (lg_sl ([.ref o]) ++ List.replicate (1 - (lg_sl ([.ref o])).length) Slot.unset).toArray = ls at hl ⊢
  have hl : lv_has ls 1 [(0, .ref o)] := hl
  refine lv_aload_n hx hb d_Cells_rekeys_0 rfl (lv_at hl 0 rfl) ?_
  refine va_get (ci := 2) (C := R_Cells) (T := F_Cells) (N := 7) hx hb hts in_Cells hown hK hP 0 rfl rfl 6 (by decide) (hts _ wk_78) (fun _ h => h) rfl d_Cells_rekeys_1 ?_
  exact rt_i hx hb hr hlocks rfl hS d_Cells_rekeys_4
set_option maxHeartbeats 4000000 in
set_option maxRecDepth 100000 in
theorem c_hashLo (l : Launch) {dC : Nat → ClassId} {dI : Nat → Nat → Nat} {cA : ClassId} {Hp : Heap} {o g tn nm nk nv nw to om ok ov ow C : Nat} {lim mb lo rk : Int32} {v : Int32 × Int32 × Int32 × Int32} {M K V Wd OM OK OV Wo : Nat → Int32} (x : Int32) (hP : va_P (dC, dI) cls [(o, .inr (2, [.int lim, .int mb, .ref g, .ref tn, .ref to, .int lo, .int rk])), (g, .inr (0, [.int v.1, .int v.2.1, .int v.2.2.1, .int v.2.2.2])), (tn, .inr (1, [.int (nI (C - 1)), .ref nm, .ref nk, .ref nv, .ref nw, .int (nI (cnt M C))])), (nm, .inl (cA, C, .inl M)), (nk, .inl (cA, C, .inl K)), (nv, .inl (cA, C, .inl V)), (nw, .inl (cA, 4, .inl Wd)), (to, .inr (1, [.int (nI (C - 1)), .ref om, .ref ok, .ref ov, .ref ow, .int (nI (cnt OM C))])), (om, .inl (cA, C, .inl OM)), (ok, .inl (cA, C, .inl OK)), (ov, .inl (cA, C, .inl OV)), (ow, .inl (cA, 4, .inl Wo))] Hp) : Met l y_Cells_hashLo (.code y_Cells_hashLo b_Cells_hashLo 2 (some .int) :: BG) ({ frames := 2, cells := 0, slots := 0, locals := 58 }) (pNO dC dI cA [.ref o, .int x] Hp) (qRi ((hwd Wd x).toInt32) Hp) 0 0 (fun _ => False) := by
  refine Met.ofW (cc := b_Cells_hashLo) (maxL := 2) (ret := some .int) (by decide) rfl ?_
  intro p e s m args below meth c s₁ B hml hv
  obtain ⟨rfl, rfl, hK, hN⟩ := hv
  have hx := B.exec
  have hb := B.bytes
  have hr := B.returns
  have hts : ∀ w ∈ BG, w.before _ s = true := fun w h => atoms_spec (ws := .code y_Cells_hashLo b_Cells_hashLo 2 (some .int) :: BG) B.pre w (List.mem_cons_of_mem _ h)
  have hown : s.vm.findClass R_Cells = some m.cls := findClass_of_methodNamed B.named
  have hlocks := B.notSynchronized
  have hS : va_S (fun _ => False) s.heap s.heap [] := va_S.rf
  have hl := lv_entry ([.ref o, .int x]) (n := 2) (Nat.le_of_ble_eq_true rfl)
  rw [lg_entry_eq]
  generalize (lg_sl ([.ref o, .int x]) ++ List.replicate (2 - (lg_sl ([.ref o, .int x])).length) Slot.unset).toArray = ls at hl ⊢
  have hl : lv_has ls 2 [(0, .ref o), (1, .int x)] := hl
  refine lv_aload_n hx hb d_Cells_hashLo_0 rfl (lv_at hl 0 rfl) ?_
  refine va_get (ci := 2) (C := R_Cells) (T := F_Cells) (N := 7) hx hb hts in_Cells hown hK hP 0 rfl rfl 3 (by decide) (hts _ wk_75) (fun _ h => h) rfl d_Cells_hashLo_1 ?_
  refine lv_iload_n hx hb d_Cells_hashLo_4 rfl (lv_at hl 1 rfl) ?_
  refine ro_l (va_runVN (As := [.int x]) (rest := []) ⟨hx, hb, hml, hown, hts⟩ (c_hashOf l x (hP.sub (ws' := [(tn, .inr (1, [.int (nI (C - 1)), .ref nm, .ref nk, .ref nv, .ref nw, .int (nI (cnt M C))])), (nm, .inl (cA, C, .inl M)), (nk, .inl (cA, C, .inl K)), (nv, .inl (cA, C, .inl V)), (nw, .inl (cA, 4, .inl Wd))]) [2, 3, 4, 5, 6] rfl)) (⟨va_cnB 1 hts g_Cells_90 rfl rfl rfl (hN _ wn_16) (hts _ wk_4) (by decide +kernel) ⟨Nat.le_of_ble_eq_true rfl, Nat.le_of_ble_eq_true rfl⟩, hts _ wk_101, hts _ wk_404⟩) ⟨bl_RO, va_recv (q0 := 2) hK hP rfl rfl, fun U hU hW => ⟨rfl, hU, va_K.moved hW.alike hK⟩⟩ rfl rfl hl.1 rfl (lv_room (Nat.le_of_ble_eq_true rfl)) d_Cells_hashLo_5 ⟨Nat.zero_le _, Nat.zero_le _⟩) hS (fun locs hS => ?_)
  refine lv_l2i hx hb d_Cells_hashLo_8 (v := (hwd Wd x).toInt32) rfl ?_
  exact rt_i hx hb hr hlocks rfl hS d_Cells_hashLo_9
set_option maxHeartbeats 4000000 in
set_option maxRecDepth 100000 in
theorem c_hashHi (l : Launch) {dC : Nat → ClassId} {dI : Nat → Nat → Nat} {cA : ClassId} {Hp : Heap} {o g tn nm nk nv nw to om ok ov ow C : Nat} {lim mb lo rk : Int32} {v : Int32 × Int32 × Int32 × Int32} {M K V Wd OM OK OV Wo : Nat → Int32} (x : Int32) (hP : va_P (dC, dI) cls [(o, .inr (2, [.int lim, .int mb, .ref g, .ref tn, .ref to, .int lo, .int rk])), (g, .inr (0, [.int v.1, .int v.2.1, .int v.2.2.1, .int v.2.2.2])), (tn, .inr (1, [.int (nI (C - 1)), .ref nm, .ref nk, .ref nv, .ref nw, .int (nI (cnt M C))])), (nm, .inl (cA, C, .inl M)), (nk, .inl (cA, C, .inl K)), (nv, .inl (cA, C, .inl V)), (nw, .inl (cA, 4, .inl Wd)), (to, .inr (1, [.int (nI (C - 1)), .ref om, .ref ok, .ref ov, .ref ow, .int (nI (cnt OM C))])), (om, .inl (cA, C, .inl OM)), (ok, .inl (cA, C, .inl OK)), (ov, .inl (cA, C, .inl OV)), (ow, .inl (cA, 4, .inl Wo))] Hp) : Met l y_Cells_hashHi (.code y_Cells_hashHi b_Cells_hashHi 2 (some .int) :: BG) ({ frames := 2, cells := 0, slots := 0, locals := 58 }) (pNO dC dI cA [.ref o, .int x] Hp) (qRi ((lus (hwd Wd x) 32).toInt32) Hp) 0 0 (fun _ => False) := by
  refine Met.ofW (cc := b_Cells_hashHi) (maxL := 2) (ret := some .int) (by decide) rfl ?_
  intro p e s m args below meth c s₁ B hml hv
  obtain ⟨rfl, rfl, hK, hN⟩ := hv
  have hx := B.exec
  have hb := B.bytes
  have hr := B.returns
  have hts : ∀ w ∈ BG, w.before _ s = true := fun w h => atoms_spec (ws := .code y_Cells_hashHi b_Cells_hashHi 2 (some .int) :: BG) B.pre w (List.mem_cons_of_mem _ h)
  have hown : s.vm.findClass R_Cells = some m.cls := findClass_of_methodNamed B.named
  have hlocks := B.notSynchronized
  have hS : va_S (fun _ => False) s.heap s.heap [] := va_S.rf
  have hl := lv_entry ([.ref o, .int x]) (n := 2) (Nat.le_of_ble_eq_true rfl)
  rw [lg_entry_eq]
  generalize (lg_sl ([.ref o, .int x]) ++ List.replicate (2 - (lg_sl ([.ref o, .int x])).length) Slot.unset).toArray = ls at hl ⊢
  have hl : lv_has ls 2 [(0, .ref o), (1, .int x)] := hl
  refine lv_aload_n hx hb d_Cells_hashHi_0 rfl (lv_at hl 0 rfl) ?_
  refine va_get (ci := 2) (C := R_Cells) (T := F_Cells) (N := 7) hx hb hts in_Cells hown hK hP 0 rfl rfl 3 (by decide) (hts _ wk_75) (fun _ h => h) rfl d_Cells_hashHi_1 ?_
  refine lv_iload_n hx hb d_Cells_hashHi_4 rfl (lv_at hl 1 rfl) ?_
  refine ro_l (va_runVN (As := [.int x]) (rest := []) ⟨hx, hb, hml, hown, hts⟩ (c_hashOf l x (hP.sub (ws' := [(tn, .inr (1, [.int (nI (C - 1)), .ref nm, .ref nk, .ref nv, .ref nw, .int (nI (cnt M C))])), (nm, .inl (cA, C, .inl M)), (nk, .inl (cA, C, .inl K)), (nv, .inl (cA, C, .inl V)), (nw, .inl (cA, 4, .inl Wd))]) [2, 3, 4, 5, 6] rfl)) (⟨va_cnB 1 hts g_Cells_90 rfl rfl rfl (hN _ wn_16) (hts _ wk_4) (by decide +kernel) ⟨Nat.le_of_ble_eq_true rfl, Nat.le_of_ble_eq_true rfl⟩, hts _ wk_101, hts _ wk_404⟩) ⟨bl_RO, va_recv (q0 := 2) hK hP rfl rfl, fun U hU hW => ⟨rfl, hU, va_K.moved hW.alike hK⟩⟩ rfl rfl hl.1 rfl (lv_room (Nat.le_of_ble_eq_true rfl)) d_Cells_hashHi_5 ⟨Nat.zero_le _, Nat.zero_le _⟩) hS (fun locs hS => ?_)
  refine lv_bipush hx hb d_Cells_hashHi_8 (v := 32) rfl ?_
  refine lv_lushr hx hb d_Cells_hashHi_10 (v := lus (hwd Wd x) 32) rfl ?_
  refine lv_l2i hx hb d_Cells_hashHi_11 (v := (lus (hwd Wd x) 32).toInt32) rfl ?_
  exact rt_i hx hb hr hlocks rfl hS d_Cells_hashHi_12
set_option maxHeartbeats 4000000 in
set_option maxRecDepth 100000 in
theorem c_keyWord (l : Launch) {dC : Nat → ClassId} {dI : Nat → Nat → Nat} {cA : ClassId} {Hp : Heap} {o g tn nm nk nv nw to om ok ov ow C : Nat} {lim mb lo rk : Int32} {v : Int32 × Int32 × Int32 × Int32} {M K V Wd OM OK OV Wo : Nat → Int32} (x : Int32) (hP : va_P (dC, dI) cls [(o, .inr (2, [.int lim, .int mb, .ref g, .ref tn, .ref to, .int lo, .int rk])), (g, .inr (0, [.int v.1, .int v.2.1, .int v.2.2.1, .int v.2.2.2])), (tn, .inr (1, [.int (nI (C - 1)), .ref nm, .ref nk, .ref nv, .ref nw, .int (nI (cnt M C))])), (nm, .inl (cA, C, .inl M)), (nk, .inl (cA, C, .inl K)), (nv, .inl (cA, C, .inl V)), (nw, .inl (cA, 4, .inl Wd)), (to, .inr (1, [.int (nI (C - 1)), .ref om, .ref ok, .ref ov, .ref ow, .int (nI (cnt OM C))])), (om, .inl (cA, C, .inl OM)), (ok, .inl (cA, C, .inl OK)), (ov, .inl (cA, C, .inl OV)), (ow, .inl (cA, 4, .inl Wo))] Hp) : Met l y_Cells_keyWord (.code y_Cells_keyWord b_Cells_keyWord 2 (some .int) :: BG) ({ frames := 1, cells := 0, slots := 0, locals := 12 }) (pNO dC dI cA [.ref o, .int x] Hp) (qRi (if x < 0 ∨ 4 ≤ x then 0 else Wd x.toNatClampNeg) Hp) 0 0 (fun _ => False) := by
  refine Met.ofW (cc := b_Cells_keyWord) (maxL := 2) (ret := some .int) (by decide) rfl ?_
  intro p e s m args below meth c s₁ B hml hv
  obtain ⟨rfl, rfl, hK, hN⟩ := hv
  have hx := B.exec
  have hb := B.bytes
  have hr := B.returns
  have hts : ∀ w ∈ BG, w.before _ s = true := fun w h => atoms_spec (ws := .code y_Cells_keyWord b_Cells_keyWord 2 (some .int) :: BG) B.pre w (List.mem_cons_of_mem _ h)
  have hown : s.vm.findClass R_Cells = some m.cls := findClass_of_methodNamed B.named
  have hlocks := B.notSynchronized
  have hS : va_S (fun _ => False) s.heap s.heap [] := va_S.rf
  have hl := lv_entry ([.ref o, .int x]) (n := 2) (Nat.le_of_ble_eq_true rfl)
  rw [lg_entry_eq]
  generalize (lg_sl ([.ref o, .int x]) ++ List.replicate (2 - (lg_sl ([.ref o, .int x])).length) Slot.unset).toArray = ls at hl ⊢
  have hl : lv_has ls 2 [(0, .ref o), (1, .int x)] := hl
  refine lv_iload_n hx hb d_Cells_keyWord_0 rfl (lv_at hl 1 rfl) ?_
  refine lv_if_lt hx hb d_Cells_keyWord_1 (tgt := 28) rfl (fun hc1 => ?_) (fun hc1 => ?_)
  · skip
    refine lv_iconst hx hb d_Cells_keyWord_28 (v := 0) rfl ?_
    exact rt_i hx hb hr hlocks ((if_pos (by first | exact Or.inl hc1 | exact Or.inr hc13)).symm) hS d_Cells_keyWord_29
  · skip
    refine lv_iload_n hx hb d_Cells_keyWord_4 rfl (lv_at hl 1 rfl) ?_
    refine lv_aload_n hx hb d_Cells_keyWord_5 rfl (lv_at hl 0 rfl) ?_
    refine va_get (ci := 2) (C := R_Cells) (T := F_Cells) (N := 7) hx hb hts in_Cells hown hK hP 0 rfl rfl 3 (by decide) (hts _ wk_75) (fun _ h => h) rfl d_Cells_keyWord_6 ?_
    refine va_getN (ci := 1) (C := R_Table) (T := F_Table) (N := 6) hx hb hts in_Table hown hK hP 2 rfl rfl 4 (by decide) (va_Nw.use rfl (hN _ wn_6)) (fun _ h => h) rfl d_Cells_keyWord_9 ?_
    refine va_alen hx hb hK hP 6 0 rfl rfl (v := (nI 4)) rfl d_Cells_keyWord_12 ?_
    refine lv_icmp_ge hx hb d_Cells_keyWord_13 (tgt := 28) rfl (fun hc13 => ?_) (fun hc13 => ?_)
    · skip
      refine lv_iconst hx hb d_Cells_keyWord_28 (v := 0) rfl ?_
      exact rt_i hx hb hr hlocks ((if_pos (by first | exact Or.inl hc1 | exact Or.inr hc13)).symm) hS d_Cells_keyWord_29
    · skip
      obtain ⟨j, hj, rfl⟩ : ∃ j : Nat, j < 4 ∧ x = nI j := by
          rcases pk_ix x (n := 4) (by omega) with h | h | h
          · exact absurd h hc1
          · exact absurd h hc13
          · exact h
      refine lv_aload_n hx hb d_Cells_keyWord_16 rfl (lv_at hl 0 rfl) ?_
      refine va_get (ci := 2) (C := R_Cells) (T := F_Cells) (N := 7) hx hb hts in_Cells hown hK hP 0 rfl rfl 3 (by decide) (hts _ wk_75) (fun _ h => h) rfl d_Cells_keyWord_17 ?_
      refine va_getN (ci := 1) (C := R_Table) (T := F_Table) (N := 6) hx hb hts in_Table hown hK hP 2 rfl rfl 4 (by decide) (va_Nw.use rfl (hN _ wn_6)) (fun _ h => h) rfl d_Cells_keyWord_20 ?_
      refine lv_iload_n hx hb d_Cells_keyWord_23 rfl (lv_at hl 1 rfl) ?_
      refine ia_ld (i := j) hx hb hK hP 6 rfl rfl (by omega) (by omega) d_Cells_keyWord_24 ?_
      refine lv_goto hx hb d_Cells_keyWord_25 (tgt := 29) rfl ?_
      exact rt_i hx hb hr hlocks (by rw [if_neg (by rintro (h | h); exact hc1 h; exact hc13 h), nI_clamp (by omega)]) hS d_Cells_keyWord_29
set_option maxHeartbeats 4000000 in
set_option maxRecDepth 100000 in
theorem c_nth (l : Launch) {dC : Nat → ClassId} {dI : Nat → Nat → Nat} {cA : ClassId} {Hp : Heap} {o g tn nm nk nv nw to om ok ov ow C : Nat} {lim mb lo rk : Int32} {v : Int32 × Int32 × Int32 × Int32} {M K V Wd OM OK OV Wo : Nat → Int32} (hC : szC C) (x : Int32) (hP : va_P (dC, dI) cls [(o, .inr (2, [.int lim, .int mb, .ref g, .ref tn, .ref to, .int lo, .int rk])), (g, .inr (0, [.int v.1, .int v.2.1, .int v.2.2.1, .int v.2.2.2])), (tn, .inr (1, [.int (nI (C - 1)), .ref nm, .ref nk, .ref nv, .ref nw, .int (nI (cnt M C))])), (nm, .inl (cA, C, .inl M)), (nk, .inl (cA, C, .inl K)), (nv, .inl (cA, C, .inl V)), (nw, .inl (cA, 4, .inl Wd)), (to, .inr (1, [.int (nI (C - 1)), .ref om, .ref ok, .ref ov, .ref ow, .int (nI (cnt OM C))])), (om, .inl (cA, C, .inl OM)), (ok, .inl (cA, C, .inl OK)), (ov, .inl (cA, C, .inl OV)), (ow, .inl (cA, 4, .inl Wo))] Hp) : Met l y_Cells_nth (.code y_Cells_nth b_Cells_nth 2 (some .int) :: BG) ({ frames := 1, cells := 0, slots := 0, locals := 21 }) (pNO dC dI cA [.ref o, .int x] Hp) (qRi (if mkA C M x = 1 then K x.toNatClampNeg else -1) Hp) 0 0 (fun _ => False) := by
  refine Met.ofW (cc := b_Cells_nth) (maxL := 2) (ret := some .int) (by decide) rfl ?_
  intro p e s m args below meth c s₁ B hml hv
  obtain ⟨rfl, rfl, hK, hN⟩ := hv
  have hx := B.exec
  have hb := B.bytes
  have hr := B.returns
  have hts : ∀ w ∈ BG, w.before _ s = true := fun w h => atoms_spec (ws := .code y_Cells_nth b_Cells_nth 2 (some .int) :: BG) B.pre w (List.mem_cons_of_mem _ h)
  have hown : s.vm.findClass R_Cells = some m.cls := findClass_of_methodNamed B.named
  have hlocks := B.notSynchronized
  have hS : va_S (fun _ => False) s.heap s.heap [] := va_S.rf
  have hl := lv_entry ([.ref o, .int x]) (n := 2) (Nat.le_of_ble_eq_true rfl)
  rw [lg_entry_eq]
  generalize (lg_sl ([.ref o, .int x]) ++ List.replicate (2 - (lg_sl ([.ref o, .int x])).length) Slot.unset).toArray = ls at hl ⊢
  have hl : lv_has ls 2 [(0, .ref o), (1, .int x)] := hl
  have hlo := hC.lo
  have hhi := hC.hi
  refine lv_aload_n hx hb d_Cells_nth_0 rfl (lv_at hl 0 rfl) ?_
  refine va_get (ci := 2) (C := R_Cells) (T := F_Cells) (N := 7) hx hb hts in_Cells hown hK hP 0 rfl rfl 3 (by decide) (hts _ wk_75) (fun _ h => h) rfl d_Cells_nth_1 ?_
  refine lv_iload_n hx hb d_Cells_nth_4 rfl (lv_at hl 1 rfl) ?_
  refine ro_i (va_runVN (As := [.int x]) (rest := []) ⟨hx, hb, hml, hown, hts⟩ (c_markAt l hC x (hP.sub (ws' := [(tn, .inr (1, [.int (nI (C - 1)), .ref nm, .ref nk, .ref nv, .ref nw, .int (nI (cnt M C))])), (nm, .inl (cA, C, .inl M)), (nk, .inl (cA, C, .inl K)), (nv, .inl (cA, C, .inl V)), (nw, .inl (cA, 4, .inl Wd))]) [2, 3, 4, 5, 6] rfl)) (⟨va_cnB 1 hts g_Cells_98 rfl rfl rfl (hN _ wn_17) (hts _ wk_4) (by decide +kernel) ⟨Nat.le_of_ble_eq_true rfl, Nat.le_of_ble_eq_true rfl⟩, hts _ wk_181, hts _ wk_413⟩) ⟨bl_RO, va_recv (q0 := 2) hK hP rfl rfl, fun U hU hW => ⟨rfl, hU, va_K.moved hW.alike hK⟩⟩ rfl rfl hl.1 rfl (lv_room (Nat.le_of_ble_eq_true rfl)) d_Cells_nth_5 ⟨Nat.zero_le _, Nat.zero_le _⟩) hS (fun locs hS => ?_)
  refine lv_iconst hx hb d_Cells_nth_8 (v := 1) rfl ?_
  refine lv_icmp_ne hx hb d_Cells_nth_9 (tgt := 24) rfl (fun hc9 => ?_) (fun hc9 => ?_)
  · skip
    refine lv_iconst hx hb d_Cells_nth_24 (v := (-1)) rfl ?_
    exact rt_i hx hb hr hlocks ((if_neg hc9).symm) hS d_Cells_nth_25
  · skip
    obtain ⟨j, hj, rfl⟩ : ∃ j : Nat, j < C ∧ x = nI j := by
        have hq : ¬ (x < 0 ∨ nI (C - 1) < x) := fun h => by
          unfold mkA at hc9
          rw [if_pos h] at hc9
          exact absurd hc9 (by decide)
        obtain ⟨j, h1, h2⟩ := nI_of2 (nI_toInt (n := C - 1) (by omega)) (fun h => hq (Or.inl h)) (i32_nlt (fun h => hq (Or.inr h)))
        exact ⟨j, by omega, h2⟩
    refine lv_aload_n hx hb d_Cells_nth_12 rfl (lv_at hl 0 rfl) ?_
    refine va_get (ci := 2) (C := R_Cells) (T := F_Cells) (N := 7) hx hb hts in_Cells hown hK hP 0 rfl rfl 3 (by decide) (hts _ wk_75) (fun _ h => h) rfl d_Cells_nth_13 ?_
    refine va_getN (ci := 1) (C := R_Table) (T := F_Table) (N := 6) hx hb hts in_Table hown hK hP 2 rfl rfl 2 (by decide) (va_Nw.use rfl (hN _ wn_4)) (fun _ h => h) rfl d_Cells_nth_16 ?_
    refine lv_iload_n hx hb d_Cells_nth_19 rfl (lv_at hl 1 rfl) ?_
    refine ia_ld (i := j) hx hb hK hP 4 rfl rfl (by omega) (by omega) d_Cells_nth_20 ?_
    refine lv_goto hx hb d_Cells_nth_21 (tgt := 25) rfl ?_
    exact rt_i hx hb hr hlocks (by rw [if_pos hc9, nI_clamp (by omega)]) hS d_Cells_nth_25
set_option maxHeartbeats 4000000 in
set_option maxRecDepth 100000 in
theorem c_filled (l : Launch) {dC : Nat → ClassId} {dI : Nat → Nat → Nat} {cA : ClassId} {Hp : Heap} {o g tn nm nk nv nw to om ok ov ow C : Nat} {lim mb lo rk : Int32} {v : Int32 × Int32 × Int32 × Int32} {M K V Wd OM OK OV Wo : Nat → Int32} (hC : szC C) (b x : Int32) (hP : va_P (dC, dI) cls [(o, .inr (2, [.int lim, .int mb, .ref g, .ref tn, .ref to, .int lo, .int rk])), (g, .inr (0, [.int v.1, .int v.2.1, .int v.2.2.1, .int v.2.2.2])), (tn, .inr (1, [.int (nI (C - 1)), .ref nm, .ref nk, .ref nv, .ref nw, .int (nI (cnt M C))])), (nm, .inl (cA, C, .inl M)), (nk, .inl (cA, C, .inl K)), (nv, .inl (cA, C, .inl V)), (nw, .inl (cA, 4, .inl Wd)), (to, .inr (1, [.int (nI (C - 1)), .ref om, .ref ok, .ref ov, .ref ow, .int (nI (cnt OM C))])), (om, .inl (cA, C, .inl OM)), (ok, .inl (cA, C, .inl OK)), (ov, .inl (cA, C, .inl OV)), (ow, .inl (cA, 4, .inl Wo))] Hp) : Met l y_Cells_filled (.code y_Cells_filled b_Cells_filled 3 (some .int) :: BG) ({ frames := 1, cells := 0, slots := 0, locals := 21 }) (pNO dC dI cA [.ref o, .int b, .int x] Hp) (qRi (if b = 0 then mkA C M x else if nI (cnt OM C) = 0 then 0 else mkA C OM x) Hp) 0 0 (fun _ => False) := by
  refine Met.ofW (cc := b_Cells_filled) (maxL := 3) (ret := some .int) (by decide) rfl ?_
  intro p e s m args below meth c s₁ B hml hv
  obtain ⟨rfl, rfl, hK, hN⟩ := hv
  have hx := B.exec
  have hb := B.bytes
  have hr := B.returns
  have hts : ∀ w ∈ BG, w.before _ s = true := fun w h => atoms_spec (ws := .code y_Cells_filled b_Cells_filled 3 (some .int) :: BG) B.pre w (List.mem_cons_of_mem _ h)
  have hown : s.vm.findClass R_Cells = some m.cls := findClass_of_methodNamed B.named
  have hlocks := B.notSynchronized
  have hS : va_S (fun _ => False) s.heap s.heap [] := va_S.rf
  have hl := lv_entry ([.ref o, .int b, .int x]) (n := 3) (Nat.le_of_ble_eq_true rfl)
  rw [lg_entry_eq]
  generalize (lg_sl ([.ref o, .int b, .int x]) ++ List.replicate (3 - (lg_sl ([.ref o, .int b, .int x])).length) Slot.unset).toArray = ls at hl ⊢
  have hl : lv_has ls 3 [(0, .ref o), (1, .int b), (2, .int x)] := hl
  refine lv_iload_n hx hb d_Cells_filled_0 rfl (lv_at hl 1 rfl) ?_
  refine lv_if_ne hx hb d_Cells_filled_1 (tgt := 13) rfl (fun hc1 => ?_) (fun hc1 => ?_)
  · skip
    refine lv_aload_n hx hb d_Cells_filled_13 rfl (lv_at hl 0 rfl) ?_
    refine va_get (ci := 2) (C := R_Cells) (T := F_Cells) (N := 7) hx hb hts in_Cells hown hK hP 0 rfl rfl 4 (by decide) (hts _ wk_76) (fun _ h => h) rfl d_Cells_filled_14 ?_
    refine va_getN (ci := 1) (C := R_Table) (T := F_Table) (N := 6) hx hb hts in_Table hown hK hP 7 rfl rfl 5 (by decide) (va_Nw.use rfl (hN _ wn_7)) (fun _ h => h) rfl d_Cells_filled_17 ?_
    refine lv_if_ne hx hb d_Cells_filled_20 (tgt := 27) rfl (fun hc20 => ?_) (fun hc20 => ?_)
    · skip
      refine lv_aload_n hx hb d_Cells_filled_27 rfl (lv_at hl 0 rfl) ?_
      refine va_get (ci := 2) (C := R_Cells) (T := F_Cells) (N := 7) hx hb hts in_Cells hown hK hP 0 rfl rfl 4 (by decide) (hts _ wk_76) (fun _ h => h) rfl d_Cells_filled_28 ?_
      refine lv_iload_n hx hb d_Cells_filled_31 rfl (lv_at hl 2 rfl) ?_
      refine ro_i (va_runVN (As := [.int x]) (rest := []) ⟨hx, hb, hml, hown, hts⟩ (c_markAt l hC x (hP.sub (ws' := [(to, .inr (1, [.int (nI (C - 1)), .ref om, .ref ok, .ref ov, .ref ow, .int (nI (cnt OM C))])), (om, .inl (cA, C, .inl OM)), (ok, .inl (cA, C, .inl OK)), (ov, .inl (cA, C, .inl OV)), (ow, .inl (cA, 4, .inl Wo))]) [7, 8, 9, 10, 11] rfl)) (⟨va_cnB 1 hts g_Cells_98 rfl rfl rfl (hN _ wn_17) (hts _ wk_4) (by decide +kernel) ⟨Nat.le_of_ble_eq_true rfl, Nat.le_of_ble_eq_true rfl⟩, hts _ wk_181, hts _ wk_413⟩) ⟨bl_RO, va_recv (q0 := 7) hK hP rfl rfl, fun U hU hW => ⟨rfl, hU, va_K.moved hW.alike hK⟩⟩ rfl rfl hl.1 rfl (lv_room (Nat.le_of_ble_eq_true rfl)) d_Cells_filled_32 ⟨Nat.zero_le _, Nat.zero_le _⟩) hS (fun locs hS => ?_)
      exact rt_i hx hb hr hlocks (by rw [if_neg hc1, if_neg hc20]) hS d_Cells_filled_35
    · skip
      refine lv_iconst hx hb d_Cells_filled_23 (v := 0) rfl ?_
      refine lv_goto hx hb d_Cells_filled_24 (tgt := 35) rfl ?_
      exact rt_i hx hb hr hlocks (by rw [if_neg hc1, if_pos hc20]) hS d_Cells_filled_35
  · skip
    refine lv_aload_n hx hb d_Cells_filled_4 rfl (lv_at hl 0 rfl) ?_
    refine va_get (ci := 2) (C := R_Cells) (T := F_Cells) (N := 7) hx hb hts in_Cells hown hK hP 0 rfl rfl 3 (by decide) (hts _ wk_75) (fun _ h => h) rfl d_Cells_filled_5 ?_
    refine lv_iload_n hx hb d_Cells_filled_8 rfl (lv_at hl 2 rfl) ?_
    refine ro_i (va_runVN (As := [.int x]) (rest := []) ⟨hx, hb, hml, hown, hts⟩ (c_markAt l hC x (hP.sub (ws' := [(tn, .inr (1, [.int (nI (C - 1)), .ref nm, .ref nk, .ref nv, .ref nw, .int (nI (cnt M C))])), (nm, .inl (cA, C, .inl M)), (nk, .inl (cA, C, .inl K)), (nv, .inl (cA, C, .inl V)), (nw, .inl (cA, 4, .inl Wd))]) [2, 3, 4, 5, 6] rfl)) (⟨va_cnB 1 hts g_Cells_98 rfl rfl rfl (hN _ wn_17) (hts _ wk_4) (by decide +kernel) ⟨Nat.le_of_ble_eq_true rfl, Nat.le_of_ble_eq_true rfl⟩, hts _ wk_181, hts _ wk_413⟩) ⟨bl_RO, va_recv (q0 := 2) hK hP rfl rfl, fun U hU hW => ⟨rfl, hU, va_K.moved hW.alike hK⟩⟩ rfl rfl hl.1 rfl (lv_room (Nat.le_of_ble_eq_true rfl)) d_Cells_filled_9 ⟨Nat.zero_le _, Nat.zero_le _⟩) hS (fun locs hS => ?_)
    exact rt_i hx hb hr hlocks ((if_pos hc1).symm) hS d_Cells_filled_12
set_option maxHeartbeats 4000000 in
set_option maxRecDepth 100000 in
theorem c_above (l : Launch) {dC : Nat → ClassId} {dI : Nat → Nat → Nat} {cA : ClassId} {Hp : Heap} {o g tn nm nk nv nw to om ok ov ow C : Nat} {lim mb lo rk : Int32} {v : Int32 × Int32 × Int32 × Int32} {M K V Wd OM OK OV Wo : Nat → Int32} (hC : szC C) (b : Int32) (hP : va_P (dC, dI) cls [(o, .inr (2, [.int lim, .int mb, .ref g, .ref tn, .ref to, .int lo, .int rk])), (g, .inr (0, [.int v.1, .int v.2.1, .int v.2.2.1, .int v.2.2.2])), (tn, .inr (1, [.int (nI (C - 1)), .ref nm, .ref nk, .ref nv, .ref nw, .int (nI (cnt M C))])), (nm, .inl (cA, C, .inl M)), (nk, .inl (cA, C, .inl K)), (nv, .inl (cA, C, .inl V)), (nw, .inl (cA, 4, .inl Wd)), (to, .inr (1, [.int (nI (C - 1)), .ref om, .ref ok, .ref ov, .ref ow, .int (nI (cnt OM C))])), (om, .inl (cA, C, .inl OM)), (ok, .inl (cA, C, .inl OK)), (ov, .inl (cA, C, .inl OV)), (ow, .inl (cA, 4, .inl Wo))] Hp) : Met l y_Cells_above (.code y_Cells_above b_Cells_above 2 (some .int) :: BG) ({ frames := 1, cells := 0, slots := 0, locals := 25 }) (pNO dC dI cA [.ref o, .int b] Hp) (qRi (abv OM OK b C 0 (abv M K b C 0 b)) Hp) 0 0 (fun _ => False) := by
  refine Met.ofW (cc := b_Cells_above) (maxL := 2) (ret := some .int) (by decide) rfl ?_
  intro p e s m args below meth c s₁ B hml hv
  obtain ⟨rfl, rfl, hK, hN⟩ := hv
  have hx := B.exec
  have hb := B.bytes
  have hr := B.returns
  have hts : ∀ w ∈ BG, w.before _ s = true := fun w h => atoms_spec (ws := .code y_Cells_above b_Cells_above 2 (some .int) :: BG) B.pre w (List.mem_cons_of_mem _ h)
  have hown : s.vm.findClass R_Cells = some m.cls := findClass_of_methodNamed B.named
  have hlocks := B.notSynchronized
  have hS : va_S (fun _ => False) s.heap s.heap [] := va_S.rf
  have hl := lv_entry ([.ref o, .int b]) (n := 2) (Nat.le_of_ble_eq_true rfl)
  rw [lg_entry_eq]
  generalize (lg_sl ([.ref o, .int b]) ++ List.replicate (2 - (lg_sl ([.ref o, .int b])).length) Slot.unset).toArray = ls at hl ⊢
  have hl : lv_has ls 2 [(0, .ref o), (1, .int b)] := hl
  refine lv_aload_n hx hb d_Cells_above_0 rfl (lv_at hl 0 rfl) ?_
  refine va_get (ci := 2) (C := R_Cells) (T := F_Cells) (N := 7) hx hb hts in_Cells hown hK hP 0 rfl rfl 4 (by decide) (hts _ wk_76) (fun _ h => h) rfl d_Cells_above_1 ?_
  refine lv_iload_n hx hb d_Cells_above_4 rfl (lv_at hl 1 rfl) ?_
  refine lv_aload_n hx hb d_Cells_above_5 rfl (lv_at hl 0 rfl) ?_
  refine va_get (ci := 2) (C := R_Cells) (T := F_Cells) (N := 7) hx hb hts in_Cells hown hK hP 0 rfl rfl 3 (by decide) (hts _ wk_75) (fun _ h => h) rfl d_Cells_above_6 ?_
  refine lv_iload_n hx hb d_Cells_above_9 rfl (lv_at hl 1 rfl) ?_
  refine lv_iload_n hx hb d_Cells_above_10 rfl (lv_at hl 1 rfl) ?_
  refine ro_i (va_runVN (As := [.int b, .int b]) (rest := [.int b, .ref to]) ⟨hx, hb, hml, hown, hts⟩ (c_nearestAbove l hC b b (hP.sub (ws' := [(tn, .inr (1, [.int (nI (C - 1)), .ref nm, .ref nk, .ref nv, .ref nw, .int (nI (cnt M C))])), (nm, .inl (cA, C, .inl M)), (nk, .inl (cA, C, .inl K)), (nv, .inl (cA, C, .inl V)), (nw, .inl (cA, 4, .inl Wd))]) [2, 3, 4, 5, 6] rfl)) (⟨va_cnB 2 hts g_Cells_104 rfl rfl rfl (hN _ wn_18) (hts _ wk_4) (by decide +kernel) ⟨Nat.le_of_ble_eq_true rfl, Nat.le_of_ble_eq_true rfl⟩, hts _ wk_191, hts _ wk_414⟩) ⟨bl_RO, va_recv (q0 := 2) hK hP rfl rfl, fun U hU hW => ⟨rfl, hU, va_K.moved hW.alike hK⟩⟩ rfl rfl hl.1 rfl (lv_room (Nat.le_of_ble_eq_true rfl)) d_Cells_above_11 ⟨Nat.zero_le _, Nat.zero_le _⟩) hS (fun locs hS => ?_)
  refine ro_i (va_runVN (As := [.int b, .int (abv M K b C 0 b)]) (rest := []) ⟨hx, hb, hml, hown, hts⟩ (c_nearestAbove l hC b (abv M K b C 0 b) (hP.sub (ws' := [(to, .inr (1, [.int (nI (C - 1)), .ref om, .ref ok, .ref ov, .ref ow, .int (nI (cnt OM C))])), (om, .inl (cA, C, .inl OM)), (ok, .inl (cA, C, .inl OK)), (ov, .inl (cA, C, .inl OV)), (ow, .inl (cA, 4, .inl Wo))]) [7, 8, 9, 10, 11] rfl)) (⟨va_cnB 2 hts g_Cells_104 rfl rfl rfl (hN _ wn_18) (hts _ wk_4) (by decide +kernel) ⟨Nat.le_of_ble_eq_true rfl, Nat.le_of_ble_eq_true rfl⟩, hts _ wk_191, hts _ wk_414⟩) ⟨bl_RO, va_recv (q0 := 7) hK hP rfl rfl, fun U hU hW => ⟨rfl, hU, va_K.moved hW.alike hK⟩⟩ rfl rfl hl.1 rfl (lv_room (Nat.le_of_ble_eq_true rfl)) d_Cells_above_14 ⟨Nat.zero_le _, Nat.zero_le _⟩) hS (fun locs hS => ?_)
  exact rt_i hx hb hr hlocks rfl hS d_Cells_above_17
set_option maxHeartbeats 4000000 in
set_option maxRecDepth 100000 in
theorem c_sumOver_new (l : Launch) {dC : Nat → ClassId} {dI : Nat → Nat → Nat} {cA : ClassId} {Hp : Heap} {o g tn nm nk nv nw to om ok ov ow C : Nat} {lim mb lo rk : Int32} {v : Int32 × Int32 × Int32 × Int32} {M K V Wd OM OK OV Wo : Nat → Int32} (hC : szC C) (hP : va_P (dC, dI) cls [(o, .inr (2, [.int lim, .int mb, .ref g, .ref tn, .ref to, .int lo, .int rk])), (g, .inr (0, [.int v.1, .int v.2.1, .int v.2.2.1, .int v.2.2.2])), (tn, .inr (1, [.int (nI (C - 1)), .ref nm, .ref nk, .ref nv, .ref nw, .int (nI (cnt M C))])), (nm, .inl (cA, C, .inl M)), (nk, .inl (cA, C, .inl K)), (nv, .inl (cA, C, .inl V)), (nw, .inl (cA, 4, .inl Wd)), (to, .inr (1, [.int (nI (C - 1)), .ref om, .ref ok, .ref ov, .ref ow, .int (nI (cnt OM C))])), (om, .inl (cA, C, .inl OM)), (ok, .inl (cA, C, .inl OK)), (ov, .inl (cA, C, .inl OV)), (ow, .inl (cA, 4, .inl Wo))] Hp) : Met l y_Cells_sumOver (.code y_Cells_sumOver b_Cells_sumOver 5 (some .long) :: BG) ({ frames := 2, cells := 0, slots := 0, locals := 58 }) (pNO dC dI cA [.ref o, .ref tn] Hp) (qRl (smf Wd M K V C) Hp) 0 0 (fun _ => False) := by
  refine Met.ofW (cc := b_Cells_sumOver) (maxL := 5) (ret := some .long) (by decide) rfl ?_
  intro p e s m args below meth c s₁ B hml hv
  obtain ⟨rfl, rfl, hK, hN⟩ := hv
  have hx := B.exec
  have hb := B.bytes
  have hr := B.returns
  have hts : ∀ w ∈ BG, w.before _ s = true := fun w h => atoms_spec (ws := .code y_Cells_sumOver b_Cells_sumOver 5 (some .long) :: BG) B.pre w (List.mem_cons_of_mem _ h)
  have hown : s.vm.findClass R_Cells = some m.cls := findClass_of_methodNamed B.named
  have hlocks := B.notSynchronized
  have hS : va_S (fun _ => False) s.heap s.heap [] := va_S.rf
  have hl := lv_entry ([.ref o, .ref tn]) (n := 5) (Nat.le_of_ble_eq_true rfl)
  rw [lg_entry_eq]
  generalize (lg_sl ([.ref o, .ref tn]) ++ List.replicate (5 - (lg_sl ([.ref o, .ref tn])).length) Slot.unset).toArray = ls at hl ⊢
  have hl : lv_has ls 5 [(0, .ref o), (1, .ref tn)] := hl
  have hlo := hC.lo
  have hhi := hC.hi
  refine lv_lconst hx hb d_Cells_sumOver_0 (v := 0) rfl ?_
  refine lv_lstore_n hx hb d_Cells_sumOver_1 rfl hl (by decide) rfl (fun ls hl => ?_)
  have hl : lv_has ls 5 [(2, .long 0), (0, .ref o), (1, .ref tn)] := hl
  refine lv_iconst hx hb d_Cells_sumOver_2 (v := (nI 0)) rfl ?_
  refine lv_istore hx hb d_Cells_sumOver_3 hl (by decide) rfl (fun ls hl => ?_)
  have hl : lv_has ls 5 [(4, .int (nI 0)), (2, .long 0), (0, .ref o), (1, .ref tn)] := hl
  refine W.eq (g2 := F0 m 5 ls []) rfl ?_
  refine lr1 (fun (j : Nat) => C - j) (fun (j : Nat) ls locs => (j ≤ C) ∧ lv_has ls 5 [(0, .ref o), (1, .ref tn), (2, .long (smf Wd M K V j)), (4, .int (nI j))] ∧ va_S (fun _ => False) s.heap s.heap locs) (fun j ls locs hE ih5 => ?_) 0 ls _ ⟨Nat.zero_le _, lv_sub hl [2, 3, 1, 0] rfl, hS⟩
  obtain ⟨hj, hl, hS⟩ := hE
  refine lv_iload hx hb d_Cells_sumOver_5 (lv_at hl 3 rfl) ?_
  refine lv_aload_n hx hb d_Cells_sumOver_7 rfl (lv_at hl 1 rfl) ?_
  refine va_getN (ci := 1) (C := R_Table) (T := F_Table) (N := 6) hx hb hts in_Table hown hK hP 2 rfl rfl 0 (by decide) (va_Nw.use rfl (hN _ wn_2)) (fun _ h => h) rfl d_Cells_sumOver_8 ?_
  refine lv_icmp_gt hx hb d_Cells_sumOver_11 (tgt := 63) rfl (fun hc11 => ?_) (fun hc11 => ?_)
  · skip
    have hq : C = j := by
        have := (nI_ltI (by omega) (by omega)).mp hc11
        omega
    subst hq
    refine lv_lload_n hx hb d_Cells_sumOver_63 rfl (lv_at hl 2 rfl) ?_
    exact rt_l hx hb hr hlocks rfl hS d_Cells_sumOver_64
  · skip
    have hq : ¬ C - 1 < j := fun h => hc11 ((nI_ltI (by omega) (by omega)).mpr h)
    refine lv_aload_n hx hb d_Cells_sumOver_14 rfl (lv_at hl 1 rfl) ?_
    refine va_getN (ci := 1) (C := R_Table) (T := F_Table) (N := 6) hx hb hts in_Table hown hK hP 2 rfl rfl 1 (by decide) (va_Nw.use rfl (hN _ wn_3)) (fun _ h => h) rfl d_Cells_sumOver_15 ?_
    refine lv_iload hx hb d_Cells_sumOver_18 (lv_at hl 3 rfl) ?_
    refine ia_ld (i := j) hx hb hK hP 3 rfl rfl (by omega) (by omega) d_Cells_sumOver_20 ?_
    refine lv_iconst hx hb d_Cells_sumOver_21 (v := 1) rfl ?_
    refine lv_icmp_ne hx hb d_Cells_sumOver_22 (tgt := 57) rfl (fun hc22 => ?_) (fun hc22 => ?_)
    · skip
      rw [show smf Wd M K V j = smf Wd M K V (j + 1) by rw [smf, if_neg hc22, Int64.add_zero]] at hl
      refine lv_iinc hx hb d_Cells_sumOver_57 hl (k := 3) rfl (v := nI (j + 1)) (nI_1 _) (by decide) rfl (fun ls hl => ?_)
      have hl : lv_has ls 5 [(4, .int (nI (j + 1))), (0, .ref o), (1, .ref tn), (2, .long (smf Wd M K V (j + 1)))] := hl
      refine lv_goto hx hb d_Cells_sumOver_60 (tgt := 5) rfl ?_
      exact ih5 (j + 1) ls _ ⟨by omega, lv_sub hl [1, 2, 3, 0] rfl, hS⟩ (by omega)
    · skip
      refine lv_lload_n hx hb d_Cells_sumOver_25 rfl (lv_at hl 2 rfl) ?_
      refine lv_aload_n hx hb d_Cells_sumOver_26 rfl (lv_at hl 0 rfl) ?_
      refine va_get (ci := 2) (C := R_Cells) (T := F_Cells) (N := 7) hx hb hts in_Cells hown hK hP 0 rfl rfl 3 (by decide) (hts _ wk_75) (fun _ h => h) rfl d_Cells_sumOver_27 ?_
      refine lv_aload_n hx hb d_Cells_sumOver_30 rfl (lv_at hl 1 rfl) ?_
      refine va_getN (ci := 1) (C := R_Table) (T := F_Table) (N := 6) hx hb hts in_Table hown hK hP 2 rfl rfl 2 (by decide) (va_Nw.use rfl (hN _ wn_4)) (fun _ h => h) rfl d_Cells_sumOver_31 ?_
      refine W.eq (g2 := F0 m 34 ls [.ref nk, .ref tn, .long (smf Wd M K V j)]) rfl ?_
      refine lv_iload hx hb d_Cells_sumOver_34 (lv_at hl 3 rfl) ?_
      refine ia_ld (i := j) hx hb hK hP 4 rfl rfl (by omega) (by omega) d_Cells_sumOver_36 ?_
      refine ro_l (va_runVN (As := [.int (K j)]) (rest := [.long (smf Wd M K V j)]) ⟨hx, hb, hml, hown, hts⟩ (c_hashOf l (K j) (hP.sub (ws' := [(tn, .inr (1, [.int (nI (C - 1)), .ref nm, .ref nk, .ref nv, .ref nw, .int (nI (cnt M C))])), (nm, .inl (cA, C, .inl M)), (nk, .inl (cA, C, .inl K)), (nv, .inl (cA, C, .inl V)), (nw, .inl (cA, 4, .inl Wd))]) [2, 3, 4, 5, 6] rfl)) (⟨va_cnB 1 hts g_Cells_90 rfl rfl rfl (hN _ wn_16) (hts _ wk_4) (by decide +kernel) ⟨Nat.le_of_ble_eq_true rfl, Nat.le_of_ble_eq_true rfl⟩, hts _ wk_101, hts _ wk_404⟩) ⟨bl_RO, va_recv (q0 := 2) hK hP rfl rfl, fun U hU hW => ⟨rfl, hU, va_K.moved hW.alike hK⟩⟩ rfl rfl hl.1 rfl (lv_room (Nat.le_of_ble_eq_true rfl)) d_Cells_sumOver_37 ⟨Nat.zero_le _, Nat.zero_le _⟩) hS (fun locs hS => ?_)
      refine lv_ldc2 hx hb hown (hts _ wk_200) d_Cells_sumOver_40 ?_
      refine lv_aload_n hx hb d_Cells_sumOver_43 rfl (lv_at hl 1 rfl) ?_
      refine va_getN (ci := 1) (C := R_Table) (T := F_Table) (N := 6) hx hb hts in_Table hown hK hP 2 rfl rfl 3 (by decide) (va_Nw.use rfl (hN _ wn_5)) (fun _ h => h) rfl d_Cells_sumOver_44 ?_
      refine lv_iload hx hb d_Cells_sumOver_47 (lv_at hl 3 rfl) ?_
      refine ia_ld (i := j) hx hb hK hP 5 rfl rfl (by omega) (by omega) d_Cells_sumOver_49 ?_
      refine lv_i2l hx hb d_Cells_sumOver_50 (v := (V j).toInt64) rfl ?_
      refine lv_lmul hx hb d_Cells_sumOver_51 ?_
      refine lv_lconst hx hb d_Cells_sumOver_52 (v := 1) rfl ?_
      refine lv_ladd hx hb d_Cells_sumOver_53 ?_
      refine lv_lmul hx hb d_Cells_sumOver_54 ?_
      refine lv_ladd hx hb d_Cells_sumOver_55 ?_
      refine lv_asL (y := smf Wd M K V (j + 1)) (by rw [smf, if_pos hc22]) ?_
      refine lv_lstore_n hx hb d_Cells_sumOver_56 rfl hl (by decide) rfl (fun ls hl => ?_)
      have hl : lv_has ls 5 [(2, .long (smf Wd M K V (j + 1))), (0, .ref o), (1, .ref tn), (4, .int (nI j))] := hl
      refine lv_iinc hx hb d_Cells_sumOver_57 hl (k := 3) rfl (v := nI (j + 1)) (nI_1 _) (by decide) rfl (fun ls hl => ?_)
      have hl : lv_has ls 5 [(4, .int (nI (j + 1))), (2, .long (smf Wd M K V (j + 1))), (0, .ref o), (1, .ref tn)] := hl
      refine W.eq (g2 := F0 m 60 ls []) rfl ?_
      refine lv_goto hx hb d_Cells_sumOver_60 (tgt := 5) rfl ?_
      exact ih5 (j + 1) ls _ ⟨by omega, lv_sub hl [2, 3, 1, 0] rfl, hS⟩ (by omega)
set_option maxHeartbeats 4000000 in
set_option maxRecDepth 100000 in
theorem c_sumOver_old (l : Launch) {dC : Nat → ClassId} {dI : Nat → Nat → Nat} {cA : ClassId} {Hp : Heap} {o g tn nm nk nv nw to om ok ov ow C : Nat} {lim mb lo rk : Int32} {v : Int32 × Int32 × Int32 × Int32} {M K V Wd OM OK OV Wo : Nat → Int32} (hC : szC C) (hP : va_P (dC, dI) cls [(o, .inr (2, [.int lim, .int mb, .ref g, .ref tn, .ref to, .int lo, .int rk])), (g, .inr (0, [.int v.1, .int v.2.1, .int v.2.2.1, .int v.2.2.2])), (tn, .inr (1, [.int (nI (C - 1)), .ref nm, .ref nk, .ref nv, .ref nw, .int (nI (cnt M C))])), (nm, .inl (cA, C, .inl M)), (nk, .inl (cA, C, .inl K)), (nv, .inl (cA, C, .inl V)), (nw, .inl (cA, 4, .inl Wd)), (to, .inr (1, [.int (nI (C - 1)), .ref om, .ref ok, .ref ov, .ref ow, .int (nI (cnt OM C))])), (om, .inl (cA, C, .inl OM)), (ok, .inl (cA, C, .inl OK)), (ov, .inl (cA, C, .inl OV)), (ow, .inl (cA, 4, .inl Wo))] Hp) : Met l y_Cells_sumOver (.code y_Cells_sumOver b_Cells_sumOver 5 (some .long) :: BG) ({ frames := 2, cells := 0, slots := 0, locals := 58 }) (pNO dC dI cA [.ref o, .ref to] Hp) (qRl (smf Wd OM OK OV C) Hp) 0 0 (fun _ => False) := by
  refine Met.ofW (cc := b_Cells_sumOver) (maxL := 5) (ret := some .long) (by decide) rfl ?_
  intro p e s m args below meth c s₁ B hml hv
  obtain ⟨rfl, rfl, hK, hN⟩ := hv
  have hx := B.exec
  have hb := B.bytes
  have hr := B.returns
  have hts : ∀ w ∈ BG, w.before _ s = true := fun w h => atoms_spec (ws := .code y_Cells_sumOver b_Cells_sumOver 5 (some .long) :: BG) B.pre w (List.mem_cons_of_mem _ h)
  have hown : s.vm.findClass R_Cells = some m.cls := findClass_of_methodNamed B.named
  have hlocks := B.notSynchronized
  have hS : va_S (fun _ => False) s.heap s.heap [] := va_S.rf
  have hl := lv_entry ([.ref o, .ref to]) (n := 5) (Nat.le_of_ble_eq_true rfl)
  rw [lg_entry_eq]
  generalize (lg_sl ([.ref o, .ref to]) ++ List.replicate (5 - (lg_sl ([.ref o, .ref to])).length) Slot.unset).toArray = ls at hl ⊢
  have hl : lv_has ls 5 [(0, .ref o), (1, .ref to)] := hl
  have hlo := hC.lo
  have hhi := hC.hi
  refine lv_lconst hx hb d_Cells_sumOver_0 (v := 0) rfl ?_
  refine lv_lstore_n hx hb d_Cells_sumOver_1 rfl hl (by decide) rfl (fun ls hl => ?_)
  have hl : lv_has ls 5 [(2, .long 0), (0, .ref o), (1, .ref to)] := hl
  refine lv_iconst hx hb d_Cells_sumOver_2 (v := (nI 0)) rfl ?_
  refine lv_istore hx hb d_Cells_sumOver_3 hl (by decide) rfl (fun ls hl => ?_)
  have hl : lv_has ls 5 [(4, .int (nI 0)), (2, .long 0), (0, .ref o), (1, .ref to)] := hl
  refine W.eq (g2 := F0 m 5 ls []) rfl ?_
  refine lr1 (fun (j : Nat) => C - j) (fun (j : Nat) ls locs => (j ≤ C) ∧ lv_has ls 5 [(0, .ref o), (1, .ref to), (2, .long (smf Wd OM OK OV j)), (4, .int (nI j))] ∧ va_S (fun _ => False) s.heap s.heap locs) (fun j ls locs hE ih5 => ?_) 0 ls _ ⟨Nat.zero_le _, lv_sub hl [2, 3, 1, 0] rfl, hS⟩
  obtain ⟨hj, hl, hS⟩ := hE
  refine lv_iload hx hb d_Cells_sumOver_5 (lv_at hl 3 rfl) ?_
  refine lv_aload_n hx hb d_Cells_sumOver_7 rfl (lv_at hl 1 rfl) ?_
  refine va_getN (ci := 1) (C := R_Table) (T := F_Table) (N := 6) hx hb hts in_Table hown hK hP 7 rfl rfl 0 (by decide) (va_Nw.use rfl (hN _ wn_2)) (fun _ h => h) rfl d_Cells_sumOver_8 ?_
  refine lv_icmp_gt hx hb d_Cells_sumOver_11 (tgt := 63) rfl (fun hc11 => ?_) (fun hc11 => ?_)
  · skip
    have hq : C = j := by
        have := (nI_ltI (by omega) (by omega)).mp hc11
        omega
    subst hq
    refine lv_lload_n hx hb d_Cells_sumOver_63 rfl (lv_at hl 2 rfl) ?_
    exact rt_l hx hb hr hlocks rfl hS d_Cells_sumOver_64
  · skip
    have hq : ¬ C - 1 < j := fun h => hc11 ((nI_ltI (by omega) (by omega)).mpr h)
    refine lv_aload_n hx hb d_Cells_sumOver_14 rfl (lv_at hl 1 rfl) ?_
    refine va_getN (ci := 1) (C := R_Table) (T := F_Table) (N := 6) hx hb hts in_Table hown hK hP 7 rfl rfl 1 (by decide) (va_Nw.use rfl (hN _ wn_3)) (fun _ h => h) rfl d_Cells_sumOver_15 ?_
    refine lv_iload hx hb d_Cells_sumOver_18 (lv_at hl 3 rfl) ?_
    refine ia_ld (i := j) hx hb hK hP 8 rfl rfl (by omega) (by omega) d_Cells_sumOver_20 ?_
    refine lv_iconst hx hb d_Cells_sumOver_21 (v := 1) rfl ?_
    refine lv_icmp_ne hx hb d_Cells_sumOver_22 (tgt := 57) rfl (fun hc22 => ?_) (fun hc22 => ?_)
    · skip
      rw [show smf Wd OM OK OV j = smf Wd OM OK OV (j + 1) by rw [smf, if_neg hc22, Int64.add_zero]] at hl
      refine lv_iinc hx hb d_Cells_sumOver_57 hl (k := 3) rfl (v := nI (j + 1)) (nI_1 _) (by decide) rfl (fun ls hl => ?_)
      have hl : lv_has ls 5 [(4, .int (nI (j + 1))), (0, .ref o), (1, .ref to), (2, .long (smf Wd OM OK OV (j + 1)))] := hl
      refine lv_goto hx hb d_Cells_sumOver_60 (tgt := 5) rfl ?_
      exact ih5 (j + 1) ls _ ⟨by omega, lv_sub hl [1, 2, 3, 0] rfl, hS⟩ (by omega)
    · skip
      refine lv_lload_n hx hb d_Cells_sumOver_25 rfl (lv_at hl 2 rfl) ?_
      refine lv_aload_n hx hb d_Cells_sumOver_26 rfl (lv_at hl 0 rfl) ?_
      refine va_get (ci := 2) (C := R_Cells) (T := F_Cells) (N := 7) hx hb hts in_Cells hown hK hP 0 rfl rfl 3 (by decide) (hts _ wk_75) (fun _ h => h) rfl d_Cells_sumOver_27 ?_
      refine lv_aload_n hx hb d_Cells_sumOver_30 rfl (lv_at hl 1 rfl) ?_
      refine va_getN (ci := 1) (C := R_Table) (T := F_Table) (N := 6) hx hb hts in_Table hown hK hP 7 rfl rfl 2 (by decide) (va_Nw.use rfl (hN _ wn_4)) (fun _ h => h) rfl d_Cells_sumOver_31 ?_
      refine W.eq (g2 := F0 m 34 ls [.ref ok, .ref tn, .long (smf Wd OM OK OV j)]) rfl ?_
      refine lv_iload hx hb d_Cells_sumOver_34 (lv_at hl 3 rfl) ?_
      refine ia_ld (i := j) hx hb hK hP 9 rfl rfl (by omega) (by omega) d_Cells_sumOver_36 ?_
      refine ro_l (va_runVN (As := [.int (OK j)]) (rest := [.long (smf Wd OM OK OV j)]) ⟨hx, hb, hml, hown, hts⟩ (c_hashOf l (OK j) (hP.sub (ws' := [(tn, .inr (1, [.int (nI (C - 1)), .ref nm, .ref nk, .ref nv, .ref nw, .int (nI (cnt M C))])), (nm, .inl (cA, C, .inl M)), (nk, .inl (cA, C, .inl K)), (nv, .inl (cA, C, .inl V)), (nw, .inl (cA, 4, .inl Wd))]) [2, 3, 4, 5, 6] rfl)) (⟨va_cnB 1 hts g_Cells_90 rfl rfl rfl (hN _ wn_16) (hts _ wk_4) (by decide +kernel) ⟨Nat.le_of_ble_eq_true rfl, Nat.le_of_ble_eq_true rfl⟩, hts _ wk_101, hts _ wk_404⟩) ⟨bl_RO, va_recv (q0 := 2) hK hP rfl rfl, fun U hU hW => ⟨rfl, hU, va_K.moved hW.alike hK⟩⟩ rfl rfl hl.1 rfl (lv_room (Nat.le_of_ble_eq_true rfl)) d_Cells_sumOver_37 ⟨Nat.zero_le _, Nat.zero_le _⟩) hS (fun locs hS => ?_)
      refine lv_ldc2 hx hb hown (hts _ wk_200) d_Cells_sumOver_40 ?_
      refine lv_aload_n hx hb d_Cells_sumOver_43 rfl (lv_at hl 1 rfl) ?_
      refine va_getN (ci := 1) (C := R_Table) (T := F_Table) (N := 6) hx hb hts in_Table hown hK hP 7 rfl rfl 3 (by decide) (va_Nw.use rfl (hN _ wn_5)) (fun _ h => h) rfl d_Cells_sumOver_44 ?_
      refine lv_iload hx hb d_Cells_sumOver_47 (lv_at hl 3 rfl) ?_
      refine ia_ld (i := j) hx hb hK hP 10 rfl rfl (by omega) (by omega) d_Cells_sumOver_49 ?_
      refine lv_i2l hx hb d_Cells_sumOver_50 (v := (OV j).toInt64) rfl ?_
      refine lv_lmul hx hb d_Cells_sumOver_51 ?_
      refine lv_lconst hx hb d_Cells_sumOver_52 (v := 1) rfl ?_
      refine lv_ladd hx hb d_Cells_sumOver_53 ?_
      refine lv_lmul hx hb d_Cells_sumOver_54 ?_
      refine lv_ladd hx hb d_Cells_sumOver_55 ?_
      refine lv_asL (y := smf Wd OM OK OV (j + 1)) (by rw [smf, if_pos hc22]) ?_
      refine lv_lstore_n hx hb d_Cells_sumOver_56 rfl hl (by decide) rfl (fun ls hl => ?_)
      have hl : lv_has ls 5 [(2, .long (smf Wd OM OK OV (j + 1))), (0, .ref o), (1, .ref to), (4, .int (nI j))] := hl
      refine lv_iinc hx hb d_Cells_sumOver_57 hl (k := 3) rfl (v := nI (j + 1)) (nI_1 _) (by decide) rfl (fun ls hl => ?_)
      have hl : lv_has ls 5 [(4, .int (nI (j + 1))), (2, .long (smf Wd OM OK OV (j + 1))), (0, .ref o), (1, .ref to)] := hl
      refine W.eq (g2 := F0 m 60 ls []) rfl ?_
      refine lv_goto hx hb d_Cells_sumOver_60 (tgt := 5) rfl ?_
      exact ih5 (j + 1) ls _ ⟨by omega, lv_sub hl [2, 3, 1, 0] rfl, hS⟩ (by omega)
set_option maxHeartbeats 4000000 in
set_option maxRecDepth 100000 in
theorem c_sum (l : Launch) {dC : Nat → ClassId} {dI : Nat → Nat → Nat} {cA : ClassId} {Hp : Heap} {o g tn nm nk nv nw to om ok ov ow C : Nat} {lim mb lo rk : Int32} {v : Int32 × Int32 × Int32 × Int32} {M K V Wd OM OK OV Wo : Nat → Int32} (hC : szC C) (hP : va_P (dC, dI) cls [(o, .inr (2, [.int lim, .int mb, .ref g, .ref tn, .ref to, .int lo, .int rk])), (g, .inr (0, [.int v.1, .int v.2.1, .int v.2.2.1, .int v.2.2.2])), (tn, .inr (1, [.int (nI (C - 1)), .ref nm, .ref nk, .ref nv, .ref nw, .int (nI (cnt M C))])), (nm, .inl (cA, C, .inl M)), (nk, .inl (cA, C, .inl K)), (nv, .inl (cA, C, .inl V)), (nw, .inl (cA, 4, .inl Wd)), (to, .inr (1, [.int (nI (C - 1)), .ref om, .ref ok, .ref ov, .ref ow, .int (nI (cnt OM C))])), (om, .inl (cA, C, .inl OM)), (ok, .inl (cA, C, .inl OK)), (ov, .inl (cA, C, .inl OV)), (ow, .inl (cA, 4, .inl Wo))] Hp) : Met l y_Cells_sum (.code y_Cells_sum b_Cells_sum 1 (some .long) :: BG) ({ frames := 3, cells := 0, slots := 0, locals := 82 }) (pNO dC dI cA [.ref o] Hp) (qRl (smf Wd M K V C + smf Wd OM OK OV C) Hp) 0 0 (fun _ => False) := by
  refine Met.ofW (cc := b_Cells_sum) (maxL := 1) (ret := some .long) (by decide) rfl ?_
  intro p e s m args below meth c s₁ B hml hv
  obtain ⟨rfl, rfl, hK, hN⟩ := hv
  have hx := B.exec
  have hb := B.bytes
  have hr := B.returns
  have hts : ∀ w ∈ BG, w.before _ s = true := fun w h => atoms_spec (ws := .code y_Cells_sum b_Cells_sum 1 (some .long) :: BG) B.pre w (List.mem_cons_of_mem _ h)
  have hown : s.vm.findClass R_Cells = some m.cls := findClass_of_methodNamed B.named
  have hlocks := B.notSynchronized
  have hS : va_S (fun _ => False) s.heap s.heap [] := va_S.rf
  have hl := lv_entry ([.ref o]) (n := 1) (Nat.le_of_ble_eq_true rfl)
  rw [lg_entry_eq]
  generalize (lg_sl ([.ref o]) ++ List.replicate (1 - (lg_sl ([.ref o])).length) Slot.unset).toArray = ls at hl ⊢
  have hl : lv_has ls 1 [(0, .ref o)] := hl
  refine lv_aload_n hx hb d_Cells_sum_0 rfl (lv_at hl 0 rfl) ?_
  refine lv_aload_n hx hb d_Cells_sum_1 rfl (lv_at hl 0 rfl) ?_
  refine va_get (ci := 2) (C := R_Cells) (T := F_Cells) (N := 7) hx hb hts in_Cells hown hK hP 0 rfl rfl 3 (by decide) (hts _ wk_75) (fun _ h => h) rfl d_Cells_sum_2 ?_
  refine ro_l (va_runV (As := [.ref tn]) (rest := []) ⟨hx, hb, hml, hown, hts⟩ (c_sumOver_new l hC hP) (cwV 1 hts g_Cells_107 rfl rfl rfl (by decide +kernel) ⟨Nat.le_of_ble_eq_true rfl, Nat.le_of_ble_eq_true rfl⟩) ⟨bl_NO, va_recv (q0 := 0) hK hP rfl rfl, fun U hU hW => ⟨rfl, hU, va_K.moved hW.alike hK, NW.warm hW hN⟩⟩ rfl rfl hl.1 rfl (lv_room (Nat.le_of_ble_eq_true rfl)) d_Cells_sum_5 ⟨Nat.zero_le _, Nat.zero_le _⟩) hS (fun locs hS => ?_)
  refine lv_aload_n hx hb d_Cells_sum_8 rfl (lv_at hl 0 rfl) ?_
  refine lv_aload_n hx hb d_Cells_sum_9 rfl (lv_at hl 0 rfl) ?_
  refine va_get (ci := 2) (C := R_Cells) (T := F_Cells) (N := 7) hx hb hts in_Cells hown hK hP 0 rfl rfl 4 (by decide) (hts _ wk_76) (fun _ h => h) rfl d_Cells_sum_10 ?_
  refine ro_l (va_runV (As := [.ref to]) (rest := [.long (smf Wd M K V C)]) ⟨hx, hb, hml, hown, hts⟩ (c_sumOver_old l hC hP) (cwV 1 hts g_Cells_107 rfl rfl rfl (by decide +kernel) ⟨Nat.le_of_ble_eq_true rfl, Nat.le_of_ble_eq_true rfl⟩) ⟨bl_NO, va_recv (q0 := 0) hK hP rfl rfl, fun U hU hW => ⟨rfl, hU, va_K.moved hW.alike hK, NW.warm hW hN⟩⟩ rfl rfl hl.1 rfl (lv_room (Nat.le_of_ble_eq_true rfl)) d_Cells_sum_13 ⟨Nat.zero_le _, Nat.zero_le _⟩) hS (fun locs hS => ?_)
  refine lv_ladd hx hb d_Cells_sum_16 ?_
  exact rt_l hx hb hr hlocks rfl hS d_Cells_sum_17
set_option maxHeartbeats 4000000 in
set_option maxRecDepth 100000 in
theorem c_holderOf (l : Launch) {dC : Nat → ClassId} {dI : Nat → Nat → Nat} {cA : ClassId} {Hp : Heap} {o g tn nm nk nv nw to om ok ov ow C : Nat} {lim mb lo rk : Int32} {v : Int32 × Int32 × Int32 × Int32} {M K V Wd OM OK OV Wo : Nat → Int32} (hC : szC C) (x : Int32) (hP : va_P (dC, dI) cls [(o, .inr (2, [.int lim, .int mb, .ref g, .ref tn, .ref to, .int lo, .int rk])), (g, .inr (0, [.int v.1, .int v.2.1, .int v.2.2.1, .int v.2.2.2])), (tn, .inr (1, [.int (nI (C - 1)), .ref nm, .ref nk, .ref nv, .ref nw, .int (nI (cnt M C))])), (nm, .inl (cA, C, .inl M)), (nk, .inl (cA, C, .inl K)), (nv, .inl (cA, C, .inl V)), (nw, .inl (cA, 4, .inl Wd)), (to, .inr (1, [.int (nI (C - 1)), .ref om, .ref ok, .ref ov, .ref ow, .int (nI (cnt OM C))])), (om, .inl (cA, C, .inl OM)), (ok, .inl (cA, C, .inl OK)), (ov, .inl (cA, C, .inl OV)), (ow, .inl (cA, 4, .inl Wo))] Hp) : Met l y_Cells_holderOf (.code y_Cells_holderOf b_Cells_holderOf 2 (some (.object "KeyedCells$Table")) :: BG) ({ frames := 4, cells := 0, slots := 0, locals := 102 }) (pNO dC dI cA [.ref o, .int x] Hp) (qRq (if lk C M K x C (hm C Wd x) = -1 then (if lk C OM OK x C (hm C Wo x) = -1 then none else some to) else some tn) Hp) 0 0 (fun _ => False) := by
  refine Met.ofW (cc := b_Cells_holderOf) (maxL := 2) (ret := some (.object "KeyedCells$Table")) (by decide) rfl ?_
  intro p e s m args below meth c s₁ B hml hv
  obtain ⟨rfl, rfl, hK, hN⟩ := hv
  have hx := B.exec
  have hb := B.bytes
  have hr := B.returns
  have hts : ∀ w ∈ BG, w.before _ s = true := fun w h => atoms_spec (ws := .code y_Cells_holderOf b_Cells_holderOf 2 (some (.object "KeyedCells$Table")) :: BG) B.pre w (List.mem_cons_of_mem _ h)
  have hown : s.vm.findClass R_Cells = some m.cls := findClass_of_methodNamed B.named
  have hlocks := B.notSynchronized
  have hS : va_S (fun _ => False) s.heap s.heap [] := va_S.rf
  have hl := lv_entry ([.ref o, .int x]) (n := 2) (Nat.le_of_ble_eq_true rfl)
  rw [lg_entry_eq]
  generalize (lg_sl ([.ref o, .int x]) ++ List.replicate (2 - (lg_sl ([.ref o, .int x])).length) Slot.unset).toArray = ls at hl ⊢
  have hl : lv_has ls 2 [(0, .ref o), (1, .int x)] := hl
  refine lv_aload_n hx hb d_Cells_holderOf_0 rfl (lv_at hl 0 rfl) ?_
  refine va_get (ci := 2) (C := R_Cells) (T := F_Cells) (N := 7) hx hb hts in_Cells hown hK hP 0 rfl rfl 3 (by decide) (hts _ wk_75) (fun _ h => h) rfl d_Cells_holderOf_1 ?_
  refine lv_iload_n hx hb d_Cells_holderOf_4 rfl (lv_at hl 1 rfl) ?_
  refine ro_i (va_runVN (As := [.int x]) (rest := []) ⟨hx, hb, hml, hown, hts⟩ (c_cellOf l hC x (hP.sub (ws' := [(tn, .inr (1, [.int (nI (C - 1)), .ref nm, .ref nk, .ref nv, .ref nw, .int (nI (cnt M C))])), (nm, .inl (cA, C, .inl M)), (nk, .inl (cA, C, .inl K)), (nv, .inl (cA, C, .inl V)), (nw, .inl (cA, 4, .inl Wd))]) [2, 3, 4, 5, 6] rfl)) (⟨va_cnB 1 hts g_Cells_78 rfl rfl rfl (hN _ wn_12) (hts _ wk_4) (by decide +kernel) ⟨Nat.le_of_ble_eq_true rfl, Nat.le_of_ble_eq_true rfl⟩, hts _ wk_122, hts _ wk_407⟩) ⟨bl_RO, va_recv (q0 := 2) hK hP rfl rfl, fun U hU hW => ⟨rfl, hU, va_K.moved hW.alike hK⟩⟩ rfl rfl hl.1 rfl (lv_room (Nat.le_of_ble_eq_true rfl)) d_Cells_holderOf_5 ⟨Nat.zero_le _, Nat.zero_le _⟩) hS (fun locs hS => ?_)
  refine lv_iconst hx hb d_Cells_holderOf_8 (v := (-1)) rfl ?_
  refine lv_icmp_eq hx hb d_Cells_holderOf_9 (tgt := 17) rfl (fun hc9 => ?_) (fun hc9 => ?_)
  · skip
    refine lv_aload_n hx hb d_Cells_holderOf_17 rfl (lv_at hl 0 rfl) ?_
    refine va_get (ci := 2) (C := R_Cells) (T := F_Cells) (N := 7) hx hb hts in_Cells hown hK hP 0 rfl rfl 4 (by decide) (hts _ wk_76) (fun _ h => h) rfl d_Cells_holderOf_18 ?_
    refine lv_iload_n hx hb d_Cells_holderOf_21 rfl (lv_at hl 1 rfl) ?_
    refine ro_i (va_runVN (As := [.int x]) (rest := []) ⟨hx, hb, hml, hown, hts⟩ (c_cellOf l hC x (hP.sub (ws' := [(to, .inr (1, [.int (nI (C - 1)), .ref om, .ref ok, .ref ov, .ref ow, .int (nI (cnt OM C))])), (om, .inl (cA, C, .inl OM)), (ok, .inl (cA, C, .inl OK)), (ov, .inl (cA, C, .inl OV)), (ow, .inl (cA, 4, .inl Wo))]) [7, 8, 9, 10, 11] rfl)) (⟨va_cnB 1 hts g_Cells_78 rfl rfl rfl (hN _ wn_12) (hts _ wk_4) (by decide +kernel) ⟨Nat.le_of_ble_eq_true rfl, Nat.le_of_ble_eq_true rfl⟩, hts _ wk_122, hts _ wk_407⟩) ⟨bl_RO, va_recv (q0 := 7) hK hP rfl rfl, fun U hU hW => ⟨rfl, hU, va_K.moved hW.alike hK⟩⟩ rfl rfl hl.1 rfl (lv_room (Nat.le_of_ble_eq_true rfl)) d_Cells_holderOf_22 ⟨Nat.zero_le _, Nat.zero_le _⟩) hS (fun locs hS => ?_)
    refine lv_iconst hx hb d_Cells_holderOf_25 (v := (-1)) rfl ?_
    refine lv_icmp_eq hx hb d_Cells_holderOf_26 (tgt := 36) rfl (fun hc26 => ?_) (fun hc26 => ?_)
    · skip
      refine lv_null hx hb d_Cells_holderOf_36 ?_
      exact rt_q hx hb hr hlocks (by rw [if_pos hc9, if_pos hc26]; rfl) hS d_Cells_holderOf_37
    · skip
      refine lv_aload_n hx hb d_Cells_holderOf_29 rfl (lv_at hl 0 rfl) ?_
      refine va_get (ci := 2) (C := R_Cells) (T := F_Cells) (N := 7) hx hb hts in_Cells hown hK hP 0 rfl rfl 4 (by decide) (hts _ wk_76) (fun _ h => h) rfl d_Cells_holderOf_30 ?_
      refine lv_goto hx hb d_Cells_holderOf_33 (tgt := 37) rfl ?_
      refine W.eq (g2 := F0 m 37 ls [.ref to]) rfl ?_
      exact rt_q hx hb hr hlocks (by rw [if_pos hc9, if_neg hc26]; rfl) hS d_Cells_holderOf_37
  · skip
    refine lv_aload_n hx hb d_Cells_holderOf_12 rfl (lv_at hl 0 rfl) ?_
    refine va_get (ci := 2) (C := R_Cells) (T := F_Cells) (N := 7) hx hb hts in_Cells hown hK hP 0 rfl rfl 3 (by decide) (hts _ wk_75) (fun _ h => h) rfl d_Cells_holderOf_13 ?_
    exact rt_q hx hb hr hlocks (by rw [if_neg hc9]; rfl) hS d_Cells_holderOf_16
set_option maxHeartbeats 4000000 in
set_option maxRecDepth 100000 in
theorem c_get (l : Launch) {dC : Nat → ClassId} {dI : Nat → Nat → Nat} {cA : ClassId} {Hp : Heap} {o g tn nm nk nv nw to om ok ov ow C : Nat} {lim mb lo rk : Int32} {v : Int32 × Int32 × Int32 × Int32} {M K V Wd OM OK OV Wo : Nat → Int32} (hC : szC C) (x : Int32) (hP : va_P (dC, dI) cls [(o, .inr (2, [.int lim, .int mb, .ref g, .ref tn, .ref to, .int lo, .int rk])), (g, .inr (0, [.int v.1, .int v.2.1, .int v.2.2.1, .int v.2.2.2])), (tn, .inr (1, [.int (nI (C - 1)), .ref nm, .ref nk, .ref nv, .ref nw, .int (nI (cnt M C))])), (nm, .inl (cA, C, .inl M)), (nk, .inl (cA, C, .inl K)), (nv, .inl (cA, C, .inl V)), (nw, .inl (cA, 4, .inl Wd)), (to, .inr (1, [.int (nI (C - 1)), .ref om, .ref ok, .ref ov, .ref ow, .int (nI (cnt OM C))])), (om, .inl (cA, C, .inl OM)), (ok, .inl (cA, C, .inl OK)), (ov, .inl (cA, C, .inl OV)), (ow, .inl (cA, 4, .inl Wo))] Hp) : Met l y_Cells_get (.code y_Cells_get b_Cells_get 3 (some .int) :: BG) ({ frames := 5, cells := 0, slots := 0, locals := 124 }) (pNO dC dI cA [.ref o, .int x] Hp) (qRi (if lk C M K x C (hm C Wd x) = -1 then (if lk C OM OK x C (hm C Wo x) = -1 then 0 else OV (lk C OM OK x C (hm C Wo x)).toNatClampNeg) else V (lk C M K x C (hm C Wd x)).toNatClampNeg) Hp) 0 0 (fun _ => False) := by
  refine Met.ofW (cc := b_Cells_get) (maxL := 3) (ret := some .int) (by decide) rfl ?_
  intro p e s m args below meth c s₁ B hml hv
  obtain ⟨rfl, rfl, hK, hN⟩ := hv
  have hx := B.exec
  have hb := B.bytes
  have hr := B.returns
  have hts : ∀ w ∈ BG, w.before _ s = true := fun w h => atoms_spec (ws := .code y_Cells_get b_Cells_get 3 (some .int) :: BG) B.pre w (List.mem_cons_of_mem _ h)
  have hown : s.vm.findClass R_Cells = some m.cls := findClass_of_methodNamed B.named
  have hlocks := B.notSynchronized
  have hS : va_S (fun _ => False) s.heap s.heap [] := va_S.rf
  have hl := lv_entry ([.ref o, .int x]) (n := 3) (Nat.le_of_ble_eq_true rfl)
  rw [lg_entry_eq]
  generalize (lg_sl ([.ref o, .int x]) ++ List.replicate (3 - (lg_sl ([.ref o, .int x])).length) Slot.unset).toArray = ls at hl ⊢
  have hl : lv_has ls 3 [(0, .ref o), (1, .int x)] := hl
  have hk3 : ¬ lk C M K x C (hm C Wd x) = -1 ∨ (lk C M K x C (hm C Wd x) = -1 ∧ ¬ lk C OM OK x C (hm C Wo x) = -1) ∨ (lk C M K x C (hm C Wd x) = -1 ∧ lk C OM OK x C (hm C Wo x) = -1) := by
      by_cases a : lk C M K x C (hm C Wd x) = -1
      · by_cases b : lk C OM OK x C (hm C Wo x) = -1
        · exact Or.inr (Or.inr ⟨a, b⟩)
        · exact Or.inr (Or.inl ⟨a, b⟩)
      · exact Or.inl a
  refine lv_aload_n hx hb d_Cells_get_0 rfl (lv_at hl 0 rfl) ?_
  refine lv_iload_n hx hb d_Cells_get_1 rfl (lv_at hl 1 rfl) ?_
  rcases hk3 with h1 | ⟨h1, h2⟩ | ⟨h1, h2⟩
  · skip
    refine ro_q (va_runV (As := [.int x]) (rest := []) ⟨hx, hb, hml, hown, hts⟩ (Eq.mp (congrArg (fun z => Met l _ _ _ _ (qRq z _) 0 0 _) (if_neg h1)) (c_holderOf l hC x hP)) (cwV 1 hts g_Cells_57 rfl rfl rfl (by decide +kernel) ⟨Nat.le_of_ble_eq_true rfl, Nat.le_of_ble_eq_true rfl⟩) ⟨bl_NO, va_recv (q0 := 0) hK hP rfl rfl, fun U hU hW => ⟨rfl, hU, va_K.moved hW.alike hK, NW.warm hW hN⟩⟩ rfl rfl hl.1 rfl (lv_room (Nat.le_of_ble_eq_true rfl)) d_Cells_get_2 ⟨Nat.zero_le _, Nat.zero_le _⟩) hS (fun locs hS => ?_)
    refine W.eq (g2 := F0 m 5 ls [.ref tn]) rfl ?_
    refine lv_astore_n hx hb d_Cells_get_5 rfl hl (by decide) rfl (fun ls hl => ?_)
    have hl : lv_has ls 3 [(2, .ref tn), (0, .ref o), (1, .int x)] := hl
    refine lv_aload_n hx hb d_Cells_get_6 rfl (lv_at hl 0 rfl) ?_
    refine lv_ifnonnull hx hb d_Cells_get_7 (tgt := 14) rfl ?_
    refine lv_aload_n hx hb d_Cells_get_14 rfl (lv_at hl 0 rfl) ?_
    refine lv_iload_n hx hb d_Cells_get_15 rfl (lv_at hl 2 rfl) ?_
    refine ro_i (va_runVN (As := [.int x]) (rest := []) ⟨hx, hb, hml, hown, hts⟩ (c_valueOf l hC x (hP.sub (ws' := [(tn, .inr (1, [.int (nI (C - 1)), .ref nm, .ref nk, .ref nv, .ref nw, .int (nI (cnt M C))])), (nm, .inl (cA, C, .inl M)), (nk, .inl (cA, C, .inl K)), (nv, .inl (cA, C, .inl V)), (nw, .inl (cA, 4, .inl Wd))]) [2, 3, 4, 5, 6] rfl)) (⟨va_cnB 1 hts g_Cells_74 rfl rfl rfl (hN _ wn_14) (hts _ wk_4) (by decide +kernel) ⟨Nat.le_of_ble_eq_true rfl, Nat.le_of_ble_eq_true rfl⟩, hts _ wk_137, hts _ wk_411⟩) ⟨bl_RO, va_recv (q0 := 2) hK hP rfl rfl, fun U hU hW => ⟨rfl, hU, va_K.moved hW.alike hK⟩⟩ rfl rfl hl.1 rfl (lv_room (Nat.le_of_ble_eq_true rfl)) d_Cells_get_16 ⟨Nat.zero_le _, Nat.zero_le _⟩) hS (fun locs hS => ?_)
    exact rt_i hx hb hr hlocks (by rw [if_neg h1, if_neg h1]) hS d_Cells_get_19
  · skip
    refine ro_q (va_runV (As := [.int x]) (rest := []) ⟨hx, hb, hml, hown, hts⟩ (Eq.mp (congrArg (fun z => Met l _ _ _ _ (qRq z _) 0 0 _) ((if_pos h1).trans (if_neg h2))) (c_holderOf l hC x hP)) (cwV 1 hts g_Cells_57 rfl rfl rfl (by decide +kernel) ⟨Nat.le_of_ble_eq_true rfl, Nat.le_of_ble_eq_true rfl⟩) ⟨bl_NO, va_recv (q0 := 0) hK hP rfl rfl, fun U hU hW => ⟨rfl, hU, va_K.moved hW.alike hK, NW.warm hW hN⟩⟩ rfl rfl hl.1 rfl (lv_room (Nat.le_of_ble_eq_true rfl)) d_Cells_get_2 ⟨Nat.zero_le _, Nat.zero_le _⟩) hS (fun locs hS => ?_)
    refine W.eq (g2 := F0 m 5 ls [.ref to]) rfl ?_
    refine lv_astore_n hx hb d_Cells_get_5 rfl hl (by decide) rfl (fun ls hl => ?_)
    have hl : lv_has ls 3 [(2, .ref to), (0, .ref o), (1, .int x)] := hl
    refine lv_aload_n hx hb d_Cells_get_6 rfl (lv_at hl 0 rfl) ?_
    refine lv_ifnonnull hx hb d_Cells_get_7 (tgt := 14) rfl ?_
    refine lv_aload_n hx hb d_Cells_get_14 rfl (lv_at hl 0 rfl) ?_
    refine lv_iload_n hx hb d_Cells_get_15 rfl (lv_at hl 2 rfl) ?_
    refine ro_i (va_runVN (As := [.int x]) (rest := []) ⟨hx, hb, hml, hown, hts⟩ (c_valueOf l hC x (hP.sub (ws' := [(to, .inr (1, [.int (nI (C - 1)), .ref om, .ref ok, .ref ov, .ref ow, .int (nI (cnt OM C))])), (om, .inl (cA, C, .inl OM)), (ok, .inl (cA, C, .inl OK)), (ov, .inl (cA, C, .inl OV)), (ow, .inl (cA, 4, .inl Wo))]) [7, 8, 9, 10, 11] rfl)) (⟨va_cnB 1 hts g_Cells_74 rfl rfl rfl (hN _ wn_14) (hts _ wk_4) (by decide +kernel) ⟨Nat.le_of_ble_eq_true rfl, Nat.le_of_ble_eq_true rfl⟩, hts _ wk_137, hts _ wk_411⟩) ⟨bl_RO, va_recv (q0 := 7) hK hP rfl rfl, fun U hU hW => ⟨rfl, hU, va_K.moved hW.alike hK⟩⟩ rfl rfl hl.1 rfl (lv_room (Nat.le_of_ble_eq_true rfl)) d_Cells_get_16 ⟨Nat.zero_le _, Nat.zero_le _⟩) hS (fun locs hS => ?_)
    exact rt_i hx hb hr hlocks (by rw [if_neg h2, if_pos h1]) hS d_Cells_get_19
  · skip
    refine ro_q (va_runV (As := [.int x]) (rest := []) ⟨hx, hb, hml, hown, hts⟩ (Eq.mp (congrArg (fun z => Met l _ _ _ _ (qRq z _) 0 0 _) ((if_pos h1).trans (if_pos h2))) (c_holderOf l hC x hP)) (cwV 1 hts g_Cells_57 rfl rfl rfl (by decide +kernel) ⟨Nat.le_of_ble_eq_true rfl, Nat.le_of_ble_eq_true rfl⟩) ⟨bl_NO, va_recv (q0 := 0) hK hP rfl rfl, fun U hU hW => ⟨rfl, hU, va_K.moved hW.alike hK, NW.warm hW hN⟩⟩ rfl rfl hl.1 rfl (lv_room (Nat.le_of_ble_eq_true rfl)) d_Cells_get_2 ⟨Nat.zero_le _, Nat.zero_le _⟩) hS (fun locs hS => ?_)
    refine W.eq (g2 := F0 m 5 ls [.null]) rfl ?_
    refine lv_astore_nN hx hb d_Cells_get_5 rfl hl (by decide) rfl (fun ls hl => ?_)
    have hl : lv_has ls 3 [(2, .null), (0, .ref o), (1, .int x)] := hl
    refine lv_aload_nN hx hb d_Cells_get_6 rfl (lv_at hl 0 rfl) ?_
    refine lv_ifnonnullN hx hb d_Cells_get_7 ?_
    refine lv_iconst hx hb d_Cells_get_10 (v := 0) rfl ?_
    refine lv_goto hx hb d_Cells_get_11 (tgt := 19) rfl ?_
    exact rt_i hx hb hr hlocks (by rw [if_pos h1, if_pos h2]) hS d_Cells_get_19
set_option maxHeartbeats 4000000 in
set_option maxRecDepth 100000 in
theorem c_has (l : Launch) {dC : Nat → ClassId} {dI : Nat → Nat → Nat} {cA : ClassId} {Hp : Heap} {o g tn nm nk nv nw to om ok ov ow C : Nat} {lim mb lo rk : Int32} {v : Int32 × Int32 × Int32 × Int32} {M K V Wd OM OK OV Wo : Nat → Int32} (hC : szC C) (x : Int32) (hP : va_P (dC, dI) cls [(o, .inr (2, [.int lim, .int mb, .ref g, .ref tn, .ref to, .int lo, .int rk])), (g, .inr (0, [.int v.1, .int v.2.1, .int v.2.2.1, .int v.2.2.2])), (tn, .inr (1, [.int (nI (C - 1)), .ref nm, .ref nk, .ref nv, .ref nw, .int (nI (cnt M C))])), (nm, .inl (cA, C, .inl M)), (nk, .inl (cA, C, .inl K)), (nv, .inl (cA, C, .inl V)), (nw, .inl (cA, 4, .inl Wd)), (to, .inr (1, [.int (nI (C - 1)), .ref om, .ref ok, .ref ov, .ref ow, .int (nI (cnt OM C))])), (om, .inl (cA, C, .inl OM)), (ok, .inl (cA, C, .inl OK)), (ov, .inl (cA, C, .inl OV)), (ow, .inl (cA, 4, .inl Wo))] Hp) : Met l y_Cells_has (.code y_Cells_has b_Cells_has 2 (some .boolean) :: BG) ({ frames := 5, cells := 0, slots := 0, locals := 123 }) (pNO dC dI cA [.ref o, .int x] Hp) (qRi (if lk C M K x C (hm C Wd x) = -1 then (if lk C OM OK x C (hm C Wo x) = -1 then 0 else 1) else 1) Hp) 0 0 (fun _ => False) := by
  refine Met.ofW (cc := b_Cells_has) (maxL := 2) (ret := some .boolean) (by decide) rfl ?_
  intro p e s m args below meth c s₁ B hml hv
  obtain ⟨rfl, rfl, hK, hN⟩ := hv
  have hx := B.exec
  have hb := B.bytes
  have hr := B.returns
  have hts : ∀ w ∈ BG, w.before _ s = true := fun w h => atoms_spec (ws := .code y_Cells_has b_Cells_has 2 (some .boolean) :: BG) B.pre w (List.mem_cons_of_mem _ h)
  have hown : s.vm.findClass R_Cells = some m.cls := findClass_of_methodNamed B.named
  have hlocks := B.notSynchronized
  have hS : va_S (fun _ => False) s.heap s.heap [] := va_S.rf
  have hl := lv_entry ([.ref o, .int x]) (n := 2) (Nat.le_of_ble_eq_true rfl)
  rw [lg_entry_eq]
  generalize (lg_sl ([.ref o, .int x]) ++ List.replicate (2 - (lg_sl ([.ref o, .int x])).length) Slot.unset).toArray = ls at hl ⊢
  have hl : lv_has ls 2 [(0, .ref o), (1, .int x)] := hl
  have hk3 : ¬ lk C M K x C (hm C Wd x) = -1 ∨ (lk C M K x C (hm C Wd x) = -1 ∧ ¬ lk C OM OK x C (hm C Wo x) = -1) ∨ (lk C M K x C (hm C Wd x) = -1 ∧ lk C OM OK x C (hm C Wo x) = -1) := by
      by_cases a : lk C M K x C (hm C Wd x) = -1
      · by_cases b : lk C OM OK x C (hm C Wo x) = -1
        · exact Or.inr (Or.inr ⟨a, b⟩)
        · exact Or.inr (Or.inl ⟨a, b⟩)
      · exact Or.inl a
  refine lv_aload_n hx hb d_Cells_has_0 rfl (lv_at hl 0 rfl) ?_
  refine lv_iload_n hx hb d_Cells_has_1 rfl (lv_at hl 1 rfl) ?_
  rcases hk3 with h1 | ⟨h1, h2⟩ | ⟨h1, h2⟩
  · skip
    refine ro_q (va_runV (As := [.int x]) (rest := []) ⟨hx, hb, hml, hown, hts⟩ (Eq.mp (congrArg (fun z => Met l _ _ _ _ (qRq z _) 0 0 _) (if_neg h1)) (c_holderOf l hC x hP)) (cwV 1 hts g_Cells_57 rfl rfl rfl (by decide +kernel) ⟨Nat.le_of_ble_eq_true rfl, Nat.le_of_ble_eq_true rfl⟩) ⟨bl_NO, va_recv (q0 := 0) hK hP rfl rfl, fun U hU hW => ⟨rfl, hU, va_K.moved hW.alike hK, NW.warm hW hN⟩⟩ rfl rfl hl.1 rfl (lv_room (Nat.le_of_ble_eq_true rfl)) d_Cells_has_2 ⟨Nat.zero_le _, Nat.zero_le _⟩) hS (fun locs hS => ?_)
    refine W.eq (g2 := F0 m 5 ls [.ref tn]) rfl ?_
    refine lv_ifnull hx hb d_Cells_has_5 ?_
    refine lv_iconst hx hb d_Cells_has_8 (v := 1) rfl ?_
    refine lv_goto hx hb d_Cells_has_9 (tgt := 13) rfl ?_
    exact rt_z hx hb hr hlocks (by decide) (by first | rw [if_neg h1] | rw [if_pos h1, if_neg h2] | rw [if_pos h1, if_pos h2]) hS d_Cells_has_13
  · skip
    refine ro_q (va_runV (As := [.int x]) (rest := []) ⟨hx, hb, hml, hown, hts⟩ (Eq.mp (congrArg (fun z => Met l _ _ _ _ (qRq z _) 0 0 _) ((if_pos h1).trans (if_neg h2))) (c_holderOf l hC x hP)) (cwV 1 hts g_Cells_57 rfl rfl rfl (by decide +kernel) ⟨Nat.le_of_ble_eq_true rfl, Nat.le_of_ble_eq_true rfl⟩) ⟨bl_NO, va_recv (q0 := 0) hK hP rfl rfl, fun U hU hW => ⟨rfl, hU, va_K.moved hW.alike hK, NW.warm hW hN⟩⟩ rfl rfl hl.1 rfl (lv_room (Nat.le_of_ble_eq_true rfl)) d_Cells_has_2 ⟨Nat.zero_le _, Nat.zero_le _⟩) hS (fun locs hS => ?_)
    refine W.eq (g2 := F0 m 5 ls [.ref to]) rfl ?_
    refine lv_ifnull hx hb d_Cells_has_5 ?_
    refine lv_iconst hx hb d_Cells_has_8 (v := 1) rfl ?_
    refine lv_goto hx hb d_Cells_has_9 (tgt := 13) rfl ?_
    exact rt_z hx hb hr hlocks (by decide) (by first | rw [if_neg h1] | rw [if_pos h1, if_neg h2] | rw [if_pos h1, if_pos h2]) hS d_Cells_has_13
  · skip
    refine ro_q (va_runV (As := [.int x]) (rest := []) ⟨hx, hb, hml, hown, hts⟩ (Eq.mp (congrArg (fun z => Met l _ _ _ _ (qRq z _) 0 0 _) ((if_pos h1).trans (if_pos h2))) (c_holderOf l hC x hP)) (cwV 1 hts g_Cells_57 rfl rfl rfl (by decide +kernel) ⟨Nat.le_of_ble_eq_true rfl, Nat.le_of_ble_eq_true rfl⟩) ⟨bl_NO, va_recv (q0 := 0) hK hP rfl rfl, fun U hU hW => ⟨rfl, hU, va_K.moved hW.alike hK, NW.warm hW hN⟩⟩ rfl rfl hl.1 rfl (lv_room (Nat.le_of_ble_eq_true rfl)) d_Cells_has_2 ⟨Nat.zero_le _, Nat.zero_le _⟩) hS (fun locs hS => ?_)
    refine W.eq (g2 := F0 m 5 ls [.null]) rfl ?_
    refine lv_ifnullN hx hb d_Cells_has_5 (tgt := 12) rfl ?_
    refine lv_iconst hx hb d_Cells_has_12 (v := 0) rfl ?_
    exact rt_z hx hb hr hlocks (by decide) (by first | rw [if_neg h1] | rw [if_pos h1, if_neg h2] | rw [if_pos h1, if_pos h2]) hS d_Cells_has_13
