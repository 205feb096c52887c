set_option maxHeartbeats 4000000 in
set_option maxRecDepth 100000 in
theorem c_valueOf (l : Launch) {dC : Nat → ClassId} {dI : Nat → Nat → Nat} {cA : ClassId} {Hp : Heap} {t am ak av aw C : Nat} {n : Int32} {M K V Wd : Nat → Int32} (hC : szC C) (x : Int32) (hP : va_P (dC, dI) cls [(t, .inr (1, [.int (nI (C - 1)), .ref am, .ref ak, .ref av, .ref aw, .int n])), (am, .inl (cA, C, .inl M)), (ak, .inl (cA, C, .inl K)), (av, .inl (cA, C, .inl V)), (aw, .inl (cA, 4, .inl Wd))] Hp) : Met l y_Table_valueOf (.code y_Table_valueOf b_Table_valueOf 3 (some .int) :: BG) ({ frames := 4, cells := 0, slots := 0, locals := 102 }) (pRO dC dI cA [.ref t, .int x] Hp) (qRi (if lk C M K x C (hm C Wd x) = -1 then 0 else V (lk C M K x C (hm C Wd x)).toNatClampNeg) Hp) 0 0 (fun _ => False) := by
  refine Met.ofW (cc := b_Table_valueOf) (maxL := 3) (ret := some .int) (by decide) rfl ?_
  intro p e s m args below meth c s₁ B hml hv
  obtain ⟨rfl, rfl, hK⟩ := hv
  have hx := B.exec
  have hb := B.bytes
  have hr := B.returns
  have hts : ∀ w ∈ BG, w.before _ s = true := fun w h => atoms_spec (ws := .code y_Table_valueOf b_Table_valueOf 3 (some .int) :: BG) B.pre w (List.mem_cons_of_mem _ h)
  have hown : s.vm.findClass R_Table = some m.cls := findClass_of_methodNamed B.named
  have hlocks := B.notSynchronized
  have hS : va_S (fun _ => False) s.heap s.heap [] := va_S.rf
  have hl := lv_entry ([.ref t, .int x]) (n := 3) (Nat.le_of_ble_eq_true rfl)
  rw [lg_entry_eq]
  generalize (lg_sl ([.ref t, .int x]) ++ List.replicate (3 - (lg_sl ([.ref t, .int x])).length) Slot.unset).toArray = ls at hl ⊢
  have hl : lv_has ls 3 [(0, .ref t), (1, .int x)] := hl
  refine lv_aload_n hx hb d_Table_valueOf_0 rfl (lv_at hl 0 rfl) ?_
  refine lv_iload_n hx hb d_Table_valueOf_1 rfl (lv_at hl 1 rfl) ?_
  refine ro_i (va_runV (As := [.int x]) (rest := []) ⟨hx, hb, hml, hown, hts⟩ (c_cellOf l hC x hP) (cwV 1 hts g_Table_62 rfl rfl rfl (by decide +kernel) ⟨Nat.le_of_ble_eq_true rfl, Nat.le_of_ble_eq_true rfl⟩) ⟨bl_RO, va_recv (q0 := 0) hK hP rfl rfl, fun U hU hW => ⟨rfl, hU, va_K.moved hW.alike hK⟩⟩ rfl rfl hl.1 rfl (lv_room (Nat.le_of_ble_eq_true rfl)) d_Table_valueOf_2 ⟨Nat.zero_le _, Nat.zero_le _⟩) hS (fun locs hS => ?_)
  refine lv_istore_n hx hb d_Table_valueOf_5 rfl hl (by decide) rfl (fun ls hl => ?_)
  have hl : lv_has ls 3 [(2, .int (lk C M K x C (hm C Wd x))), (0, .ref t), (1, .int x)] := hl
  refine lv_iload_n hx hb d_Table_valueOf_6 rfl (lv_at hl 0 rfl) ?_
  refine lv_iconst hx hb d_Table_valueOf_7 (v := (-1)) rfl ?_
  refine lv_icmp_ne hx hb d_Table_valueOf_8 (tgt := 15) rfl (fun hc8 => ?_) (fun hc8 => ?_)
  · skip
    obtain ⟨j, hj, hjl, -⟩ := (lk_cases hC M K x C _ (hm_lt hC Wd x)).resolve_left hc8
    have hhi := hC.hi
    refine lv_aload_n hx hb d_Table_valueOf_15 rfl (lv_at hl 1 rfl) ?_
    refine va_get (ci := 1) (C := R_Table) (T := F_Table) (N := 6) hx hb hts in_Table hown hK hP 0 rfl rfl 3 (by decide) (hts _ wk_52) (fun _ h => h) rfl d_Table_valueOf_16 ?_
    refine lv_iload_n hx hb d_Table_valueOf_19 rfl (lv_at hl 0 rfl) ?_
    refine lv_asI (y := nI j) hjl ?_
    refine ia_ld (i := j) hx hb hK hP 3 rfl rfl (by omega) (by omega) d_Table_valueOf_20 ?_
    exact rt_i hx hb hr hlocks (by rw [if_neg hc8, hjl, nI_clamp (by omega)]) hS d_Table_valueOf_21
  · skip
    refine lv_iconst hx hb d_Table_valueOf_11 (v := 0) rfl ?_
    refine lv_goto hx hb d_Table_valueOf_12 (tgt := 21) rfl ?_
    exact rt_i hx hb hr hlocks ((if_pos hc8).symm) hS d_Table_valueOf_21
set_option maxHeartbeats 4000000 in
set_option maxRecDepth 100000 in
theorem c_change (l : Launch) {dC : Nat → ClassId} {dI : Nat → Nat → Nat} {cA : ClassId} (sz : Nat) {t am ak av aw C : Nat} {n : Int32} {M K V Wd : Nat → Int32} (hC : szC C) (x y : Int32) : Met l y_Table_change (.code y_Table_change b_Table_change 4 none :: BG) ({ frames := 4, cells := 0, slots := 0, locals := 102 }) (pRW dC dI cA [.ref t, .int x, .int y] [(t, .inr (1, [.int (nI (C - 1)), .ref am, .ref ak, .ref av, .ref aw, .int n])), (am, .inl (cA, C, .inl M)), (ak, .inl (cA, C, .inl K)), (av, .inl (cA, C, .inl V)), (aw, .inl (cA, 4, .inl Wd))] sz) (va_Qv (fun (_ : Unit) => True) (fun _ tS => wdB dC dI cA (va_A [(t, .inr (1, [.int (nI (C - 1)), .ref am, .ref ak, .ref av, .ref aw, .int n])), (am, .inl (cA, C, .inl M)), (ak, .inl (cA, C, .inl K)), (av, .inl (cA, C, .inl V)), (aw, .inl (cA, 4, .inl Wd))] sz) [(t, .inr (1, [.int (nI (C - 1)), .ref am, .ref ak, .ref av, .ref aw, .int n])), (am, .inl (cA, C, .inl M)), (ak, .inl (cA, C, .inl K)), (av, .inl (cA, C, .inl (if lk C M K x C (hm C Wd x) = -1 then V else upd V (lk C M K x C (hm C Wd x)).toNatClampNeg y))), (aw, .inl (cA, 4, .inl Wd))] tS) (va_A [(t, .inr (1, [.int (nI (C - 1)), .ref am, .ref ak, .ref av, .ref aw, .int n])), (am, .inl (cA, C, .inl M)), (ak, .inl (cA, C, .inl K)), (av, .inl (cA, C, .inl V)), (aw, .inl (cA, 4, .inl Wd))] sz)) 0 0 (va_A [(t, .inr (1, [.int (nI (C - 1)), .ref am, .ref ak, .ref av, .ref aw, .int n])), (am, .inl (cA, C, .inl M)), (ak, .inl (cA, C, .inl K)), (av, .inl (cA, C, .inl V)), (aw, .inl (cA, 4, .inl Wd))] sz) := by
  refine Met.ofW (cc := b_Table_change) (maxL := 4) (ret := none) (by decide) rfl ?_
  intro p e s m args below meth c s₁ B hml hv
  obtain ⟨rfl, hsz, hP, hK, hD0⟩ := hv
  have hx := B.exec
  have hb := B.bytes
  have hr := B.returns
  have hts : ∀ w ∈ BG, w.before _ s = true := fun w h => atoms_spec (ws := .code y_Table_change b_Table_change 4 none :: BG) B.pre w (List.mem_cons_of_mem _ h)
  have hown : s.vm.findClass R_Table = some m.cls := findClass_of_methodNamed B.named
  have hlocks := B.notSynchronized
  subst hsz
  have hD := hD0.self (sz := s.heap.size)
  generalize hAe : va_A [(t, .inr (1, [.int (nI (C - 1)), .ref am, .ref ak, .ref av, .ref aw, .int n])), (am, .inl (cA, C, .inl M)), (ak, .inl (cA, C, .inl K)), (av, .inl (cA, C, .inl V)), (aw, .inl (cA, 4, .inl Wd))] s.heap.size = A at hD ⊢
  have hA : ∀ q : Nat, s.heap.size ≤ q → A q := fun q h => by rw [← hAe]; exact Or.inr h
  have hS : va_S A s.heap s.heap [] := va_S.rf
  have hP : va_P (dC, dI) cls [(t, .inr (1, [.int (nI (C - 1)), .ref am, .ref ak, .ref av, .ref aw, .int n])), (am, .inl (cA, C, .inl M)), (ak, .inl (cA, C, .inl K)), (av, .inl (cA, C, .inl V)), (aw, .inl (cA, 4, .inl Wd))] s.heap := hP
  have hl := lv_entry ([.ref t, .int x, .int y]) (n := 4) (Nat.le_of_ble_eq_true rfl)
  rw [lg_entry_eq]
  generalize (lg_sl ([.ref t, .int x, .int y]) ++ List.replicate (4 - (lg_sl ([.ref t, .int x, .int y])).length) Slot.unset).toArray = ls at hl ⊢
  have hl : lv_has ls 4 [(0, .ref t), (1, .int x), (2, .int y)] := hl
  refine lv_aload_n hx hb d_Table_change_0 rfl (lv_at hl 0 rfl) ?_
  refine lv_iload_n hx hb d_Table_change_1 rfl (lv_at hl 1 rfl) ?_
  refine ro_i (va_runV (As := [.int x]) (rest := []) ⟨hx, hb, hml, hown, hts⟩ (c_cellOf l hC x hP) (cwV 1 hts g_Table_62 rfl rfl rfl (by decide +kernel) ⟨Nat.le_of_ble_eq_true rfl, Nat.le_of_ble_eq_true rfl⟩) ⟨bl_RO, va_recv (q0 := 0) hK hP rfl rfl, fun U hU hW => ⟨rfl, hU, va_K.moved hW.alike hK⟩⟩ rfl rfl hl.1 rfl (lv_room (Nat.le_of_ble_eq_true rfl)) d_Table_change_2 ⟨Nat.zero_le _, Nat.zero_le _⟩) hS (fun locs hS => ?_)
  refine lv_istore_n hx hb d_Table_change_5 rfl hl (by decide) rfl (fun ls hl => ?_)
  have hl : lv_has ls 4 [(3, .int (lk C M K x C (hm C Wd x))), (0, .ref t), (1, .int x), (2, .int y)] := hl
  refine lv_iload_n hx hb d_Table_change_6 rfl (lv_at hl 0 rfl) ?_
  refine lv_iconst hx hb d_Table_change_7 (v := (-1)) rfl ?_
  refine lv_icmp_eq hx hb d_Table_change_8 (tgt := 18) rfl (fun hc8 => ?_) (fun hc8 => ?_)
  · skip
    exact W.vret hx hb hr (fun tS ht hW => ⟨⟨(), rfl, trivial, by rw [ht]; exact (by rw [if_pos hc8]; exact hP), va_K.moved hW.alike hK, (by rw [if_pos hc8]; exact hD)⟩, hS.F ht⟩) hS.2.2 d_Table_change_18 hlocks
  · skip
    obtain ⟨j, hj, hjl, -⟩ := (lk_cases hC M K x C _ (hm_lt hC Wd x)).resolve_left hc8
    have hhi := hC.hi
    refine lv_aload_n hx hb d_Table_change_11 rfl (lv_at hl 1 rfl) ?_
    refine va_get (ci := 1) (C := R_Table) (T := F_Table) (N := 6) hx hb hts in_Table hown hK hP 0 rfl rfl 3 (by decide) (hts _ wk_52) (fun _ h => h) rfl d_Table_change_12 ?_
    refine lv_iload_n hx hb d_Table_change_15 rfl (lv_at hl 0 rfl) ?_
    refine lv_asI (y := nI j) hjl ?_
    refine lv_iload_n hx hb d_Table_change_16 rfl (lv_at hl 3 rfl) ?_
    refine ia_st (i := j) hx hb hK hP hD hS 3 rfl rfl (by omega) (by omega) d_Table_change_17 (fun H locs hP hD hS => ?_)
    have hP : va_P (dC, dI) cls [(t, .inr (1, [.int (nI (C - 1)), .ref am, .ref ak, .ref av, .ref aw, .int n])), (am, .inl (cA, C, .inl M)), (ak, .inl (cA, C, .inl K)), (av, .inl (cA, C, .inl (upd V j y))), (aw, .inl (cA, 4, .inl Wd))] H := hP
    have hD : va_D A [(t, .inr (1, [.int (nI (C - 1)), .ref am, .ref ak, .ref av, .ref aw, .int n])), (am, .inl (cA, C, .inl M)), (ak, .inl (cA, C, .inl K)), (av, .inl (cA, C, .inl (upd V j y))), (aw, .inl (cA, 4, .inl Wd))] := hD
    exact W.vret hx hb hr (fun tS ht hW => ⟨⟨(), rfl, trivial, by rw [ht]; exact (by rw [if_neg hc8, hjl, nI_clamp (by omega)]; exact hP), va_K.moved hW.alike hK, (by rw [if_neg hc8, hjl, nI_clamp (by omega)]; exact hD)⟩, hS.F ht⟩) hS.2.2 d_Table_change_18 hlocks
set_option maxHeartbeats 4000000 in
set_option maxRecDepth 100000 in
theorem c_fill (l : Launch) {dC : Nat → ClassId} {dI : Nat → Nat → Nat} {cA : ClassId} (sz : Nat) {t am ak av aw C : Nat} {n : Int32} {M K V Wd : Nat → Int32} (hC : szC C) (j : Nat) (hj : j < C) (x y : Int32) : Met l y_Table_fill (.code y_Table_fill b_Table_fill 4 none :: BG) ({ frames := 0, cells := 0, slots := 0, locals := 0 }) (pRW dC dI cA [.ref t, .int (nI j), .int x, .int y] [(t, .inr (1, [.int (nI (C - 1)), .ref am, .ref ak, .ref av, .ref aw, .int n])), (am, .inl (cA, C, .inl M)), (ak, .inl (cA, C, .inl K)), (av, .inl (cA, C, .inl V)), (aw, .inl (cA, 4, .inl Wd))] sz) (va_Qv (fun (_ : Unit) => True) (fun _ tS => wdB dC dI cA (va_A [(t, .inr (1, [.int (nI (C - 1)), .ref am, .ref ak, .ref av, .ref aw, .int n])), (am, .inl (cA, C, .inl M)), (ak, .inl (cA, C, .inl K)), (av, .inl (cA, C, .inl V)), (aw, .inl (cA, 4, .inl Wd))] sz) [(t, .inr (1, [.int (nI (C - 1)), .ref am, .ref ak, .ref av, .ref aw, .int n])), (am, .inl (cA, C, .inl (upd M j 1))), (ak, .inl (cA, C, .inl (upd K j x))), (av, .inl (cA, C, .inl (upd V j y))), (aw, .inl (cA, 4, .inl Wd))] tS) (va_A [(t, .inr (1, [.int (nI (C - 1)), .ref am, .ref ak, .ref av, .ref aw, .int n])), (am, .inl (cA, C, .inl M)), (ak, .inl (cA, C, .inl K)), (av, .inl (cA, C, .inl V)), (aw, .inl (cA, 4, .inl Wd))] sz)) 0 0 (va_A [(t, .inr (1, [.int (nI (C - 1)), .ref am, .ref ak, .ref av, .ref aw, .int n])), (am, .inl (cA, C, .inl M)), (ak, .inl (cA, C, .inl K)), (av, .inl (cA, C, .inl V)), (aw, .inl (cA, 4, .inl Wd))] sz) := by
  refine Met.ofW (cc := b_Table_fill) (maxL := 4) (ret := none) (by decide) rfl ?_
  intro p e s m args below meth c s₁ B hml hv
  obtain ⟨rfl, hsz, hP, hK, hD0⟩ := hv
  have hx := B.exec
  have hb := B.bytes
  have hr := B.returns
  have hts : ∀ w ∈ BG, w.before _ s = true := fun w h => atoms_spec (ws := .code y_Table_fill b_Table_fill 4 none :: BG) B.pre w (List.mem_cons_of_mem _ h)
  have hown : s.vm.findClass R_Table = some m.cls := findClass_of_methodNamed B.named
  have hlocks := B.notSynchronized
  subst hsz
  have hD := hD0.self (sz := s.heap.size)
  generalize hAe : va_A [(t, .inr (1, [.int (nI (C - 1)), .ref am, .ref ak, .ref av, .ref aw, .int n])), (am, .inl (cA, C, .inl M)), (ak, .inl (cA, C, .inl K)), (av, .inl (cA, C, .inl V)), (aw, .inl (cA, 4, .inl Wd))] s.heap.size = A at hD ⊢
  have hA : ∀ q : Nat, s.heap.size ≤ q → A q := fun q h => by rw [← hAe]; exact Or.inr h
  have hS : va_S A s.heap s.heap [] := va_S.rf
  have hP : va_P (dC, dI) cls [(t, .inr (1, [.int (nI (C - 1)), .ref am, .ref ak, .ref av, .ref aw, .int n])), (am, .inl (cA, C, .inl M)), (ak, .inl (cA, C, .inl K)), (av, .inl (cA, C, .inl V)), (aw, .inl (cA, 4, .inl Wd))] s.heap := hP
  have hl := lv_entry ([.ref t, .int (nI j), .int x, .int y]) (n := 4) (Nat.le_of_ble_eq_true rfl)
  rw [lg_entry_eq]
  generalize (lg_sl ([.ref t, .int (nI j), .int x, .int y]) ++ List.replicate (4 - (lg_sl ([.ref t, .int (nI j), .int x, .int y])).length) Slot.unset).toArray = ls at hl ⊢
  have hl : lv_has ls 4 [(0, .ref t), (1, .int (nI j)), (2, .int x), (3, .int y)] := hl
  have hhi := hC.hi
  refine lv_aload_n hx hb d_Table_fill_0 rfl (lv_at hl 0 rfl) ?_
  refine va_get (ci := 1) (C := R_Table) (T := F_Table) (N := 6) hx hb hts in_Table hown hK hP 0 rfl rfl 1 (by decide) (hts _ wk_50) (fun _ h => h) rfl d_Table_fill_1 ?_
  refine lv_iload_n hx hb d_Table_fill_4 rfl (lv_at hl 1 rfl) ?_
  refine lv_iconst hx hb d_Table_fill_5 (v := 1) rfl ?_
  refine ia_st (i := j) hx hb hK hP hD hS 1 rfl rfl (by omega) (by omega) d_Table_fill_6 (fun H locs hP hD hS => ?_)
  have hP : va_P (dC, dI) cls [(t, .inr (1, [.int (nI (C - 1)), .ref am, .ref ak, .ref av, .ref aw, .int n])), (am, .inl (cA, C, .inl (upd M j 1))), (ak, .inl (cA, C, .inl K)), (av, .inl (cA, C, .inl V)), (aw, .inl (cA, 4, .inl Wd))] H := hP
  have hD : va_D A [(t, .inr (1, [.int (nI (C - 1)), .ref am, .ref ak, .ref av, .ref aw, .int n])), (am, .inl (cA, C, .inl (upd M j 1))), (ak, .inl (cA, C, .inl K)), (av, .inl (cA, C, .inl V)), (aw, .inl (cA, 4, .inl Wd))] := hD
  refine lv_aload_n hx hb d_Table_fill_7 rfl (lv_at hl 0 rfl) ?_
  refine va_get (ci := 1) (C := R_Table) (T := F_Table) (N := 6) hx hb hts in_Table hown hK hP 0 rfl rfl 2 (by decide) (hts _ wk_51) (fun _ h => h) rfl d_Table_fill_8 ?_
  refine lv_iload_n hx hb d_Table_fill_11 rfl (lv_at hl 1 rfl) ?_
  refine lv_iload_n hx hb d_Table_fill_12 rfl (lv_at hl 2 rfl) ?_
  refine ia_st (i := j) hx hb hK hP hD hS 2 rfl rfl (by omega) (by omega) d_Table_fill_13 (fun H locs hP hD hS => ?_)
  have hP : va_P (dC, dI) cls [(t, .inr (1, [.int (nI (C - 1)), .ref am, .ref ak, .ref av, .ref aw, .int n])), (am, .inl (cA, C, .inl (upd M j 1))), (ak, .inl (cA, C, .inl (upd K j x))), (av, .inl (cA, C, .inl V)), (aw, .inl (cA, 4, .inl Wd))] H := hP
  have hD : va_D A [(t, .inr (1, [.int (nI (C - 1)), .ref am, .ref ak, .ref av, .ref aw, .int n])), (am, .inl (cA, C, .inl (upd M j 1))), (ak, .inl (cA, C, .inl (upd K j x))), (av, .inl (cA, C, .inl V)), (aw, .inl (cA, 4, .inl Wd))] := hD
  refine lv_aload_n hx hb d_Table_fill_14 rfl (lv_at hl 0 rfl) ?_
  refine va_get (ci := 1) (C := R_Table) (T := F_Table) (N := 6) hx hb hts in_Table hown hK hP 0 rfl rfl 3 (by decide) (hts _ wk_52) (fun _ h => h) rfl d_Table_fill_15 ?_
  refine lv_iload_n hx hb d_Table_fill_18 rfl (lv_at hl 1 rfl) ?_
  refine lv_iload_n hx hb d_Table_fill_19 rfl (lv_at hl 3 rfl) ?_
  refine ia_st (i := j) hx hb hK hP hD hS 3 rfl rfl (by omega) (by omega) d_Table_fill_20 (fun H locs hP hD hS => ?_)
  have hP : va_P (dC, dI) cls [(t, .inr (1, [.int (nI (C - 1)), .ref am, .ref ak, .ref av, .ref aw, .int n])), (am, .inl (cA, C, .inl (upd M j 1))), (ak, .inl (cA, C, .inl (upd K j x))), (av, .inl (cA, C, .inl (upd V j y))), (aw, .inl (cA, 4, .inl Wd))] H := hP
  have hD : va_D A [(t, .inr (1, [.int (nI (C - 1)), .ref am, .ref ak, .ref av, .ref aw, .int n])), (am, .inl (cA, C, .inl (upd M j 1))), (ak, .inl (cA, C, .inl (upd K j x))), (av, .inl (cA, C, .inl (upd V j y))), (aw, .inl (cA, 4, .inl Wd))] := hD
  refine W.eq (g2 := F0 m 21 ls []) rfl ?_
  exact W.vret hx hb hr (fun tS ht hW => ⟨⟨(), rfl, trivial, by rw [ht]; exact hP, va_K.moved hW.alike hK, hD⟩, hS.F ht⟩) hS.2.2 d_Table_fill_21 hlocks
set_option maxHeartbeats 4000000 in
set_option maxRecDepth 100000 in
theorem c_markGone (l : Launch) {dC : Nat → ClassId} {dI : Nat → Nat → Nat} {cA : ClassId} (sz : Nat) {t am ak av aw C : Nat} {n : Int32} {M K V Wd : Nat → Int32} (hC : szC C) (j : Nat) (hj : j < C) : Met l y_Table_markGone (.code y_Table_markGone b_Table_markGone 2 none :: BG) ({ frames := 0, cells := 0, slots := 0, locals := 0 }) (pRW dC dI cA [.ref t, .int (nI j)] [(t, .inr (1, [.int (nI (C - 1)), .ref am, .ref ak, .ref av, .ref aw, .int n])), (am, .inl (cA, C, .inl M)), (ak, .inl (cA, C, .inl K)), (av, .inl (cA, C, .inl V)), (aw, .inl (cA, 4, .inl Wd))] sz) (va_Qv (fun (_ : Unit) => True) (fun _ tS => wdB dC dI cA (va_A [(t, .inr (1, [.int (nI (C - 1)), .ref am, .ref ak, .ref av, .ref aw, .int n])), (am, .inl (cA, C, .inl M)), (ak, .inl (cA, C, .inl K)), (av, .inl (cA, C, .inl V)), (aw, .inl (cA, 4, .inl Wd))] sz) [(t, .inr (1, [.int (nI (C - 1)), .ref am, .ref ak, .ref av, .ref aw, .int (n - 1)])), (am, .inl (cA, C, .inl (upd M j 2))), (ak, .inl (cA, C, .inl K)), (av, .inl (cA, C, .inl V)), (aw, .inl (cA, 4, .inl Wd))] tS) (va_A [(t, .inr (1, [.int (nI (C - 1)), .ref am, .ref ak, .ref av, .ref aw, .int n])), (am, .inl (cA, C, .inl M)), (ak, .inl (cA, C, .inl K)), (av, .inl (cA, C, .inl V)), (aw, .inl (cA, 4, .inl Wd))] sz)) 0 0 (va_A [(t, .inr (1, [.int (nI (C - 1)), .ref am, .ref ak, .ref av, .ref aw, .int n])), (am, .inl (cA, C, .inl M)), (ak, .inl (cA, C, .inl K)), (av, .inl (cA, C, .inl V)), (aw, .inl (cA, 4, .inl Wd))] sz) := by
  refine Met.ofW (cc := b_Table_markGone) (maxL := 2) (ret := none) (by decide) rfl ?_
  intro p e s m args below meth c s₁ B hml hv
  obtain ⟨rfl, hsz, hP, hK, hD0⟩ := hv
  have hx := B.exec
  have hb := B.bytes
  have hr := B.returns
  have hts : ∀ w ∈ BG, w.before _ s = true := fun w h => atoms_spec (ws := .code y_Table_markGone b_Table_markGone 2 none :: BG) B.pre w (List.mem_cons_of_mem _ h)
  have hown : s.vm.findClass R_Table = some m.cls := findClass_of_methodNamed B.named
  have hlocks := B.notSynchronized
  subst hsz
  have hD := hD0.self (sz := s.heap.size)
  generalize hAe : va_A [(t, .inr (1, [.int (nI (C - 1)), .ref am, .ref ak, .ref av, .ref aw, .int n])), (am, .inl (cA, C, .inl M)), (ak, .inl (cA, C, .inl K)), (av, .inl (cA, C, .inl V)), (aw, .inl (cA, 4, .inl Wd))] s.heap.size = A at hD ⊢
  have hA : ∀ q : Nat, s.heap.size ≤ q → A q := fun q h => by rw [← hAe]; exact Or.inr h
  have hS : va_S A s.heap s.heap [] := va_S.rf
  have hP : va_P (dC, dI) cls [(t, .inr (1, [.int (nI (C - 1)), .ref am, .ref ak, .ref av, .ref aw, .int n])), (am, .inl (cA, C, .inl M)), (ak, .inl (cA, C, .inl K)), (av, .inl (cA, C, .inl V)), (aw, .inl (cA, 4, .inl Wd))] s.heap := hP
  have hl := lv_entry ([.ref t, .int (nI j)]) (n := 2) (Nat.le_of_ble_eq_true rfl)
  rw [lg_entry_eq]
  generalize (lg_sl ([.ref t, .int (nI j)]) ++ List.replicate (2 - (lg_sl ([.ref t, .int (nI j)])).length) Slot.unset).toArray = ls at hl ⊢
  have hl : lv_has ls 2 [(0, .ref t), (1, .int (nI j))] := hl
  have hhi := hC.hi
  refine lv_aload_n hx hb d_Table_markGone_0 rfl (lv_at hl 0 rfl) ?_
  refine va_get (ci := 1) (C := R_Table) (T := F_Table) (N := 6) hx hb hts in_Table hown hK hP 0 rfl rfl 1 (by decide) (hts _ wk_50) (fun _ h => h) rfl d_Table_markGone_1 ?_
  refine lv_iload_n hx hb d_Table_markGone_4 rfl (lv_at hl 1 rfl) ?_
  refine lv_iconst hx hb d_Table_markGone_5 (v := 2) rfl ?_
  refine ia_st (i := j) hx hb hK hP hD hS 1 rfl rfl (by omega) (by omega) d_Table_markGone_6 (fun H locs hP hD hS => ?_)
  have hP : va_P (dC, dI) cls [(t, .inr (1, [.int (nI (C - 1)), .ref am, .ref ak, .ref av, .ref aw, .int n])), (am, .inl (cA, C, .inl (upd M j 2))), (ak, .inl (cA, C, .inl K)), (av, .inl (cA, C, .inl V)), (aw, .inl (cA, 4, .inl Wd))] H := hP
  have hD : va_D A [(t, .inr (1, [.int (nI (C - 1)), .ref am, .ref ak, .ref av, .ref aw, .int n])), (am, .inl (cA, C, .inl (upd M j 2))), (ak, .inl (cA, C, .inl K)), (av, .inl (cA, C, .inl V)), (aw, .inl (cA, 4, .inl Wd))] := hD
  refine lv_aload_n hx hb d_Table_markGone_7 rfl (lv_at hl 0 rfl) ?_
  refine lv_dup hx hb d_Table_markGone_8 rfl ?_
  refine va_get (ci := 1) (C := R_Table) (T := F_Table) (N := 6) hx hb hts in_Table hown hK hP 0 rfl rfl 5 (by decide) (hts _ wk_54) (fun _ h => h) rfl d_Table_markGone_9 ?_
  refine lv_iconst hx hb d_Table_markGone_12 (v := 1) rfl ?_
  refine lv_isub hx hb d_Table_markGone_13 ?_
  refine va_put (D := (dC, dI)) (ci := 1) (v := .int (n - 1)) (ty := .int) (C := R_Table) (T := F_Table) (N := 6) hx hb hts in_Table t_Table t_Table_ok n_Table hown hK hP hD hS 0 rfl rfl 5 (by decide) (hts _ wk_54) (fun _ h => h) rfl t_Table_5 rfl rfl (Nat.le_of_ble_eq_true rfl) d_Table_markGone_14 (fun H locs hP hD hS => ?_)
  have hP : va_P (dC, dI) cls [(t, .inr (1, [.int (nI (C - 1)), .ref am, .ref ak, .ref av, .ref aw, .int (n - 1)])), (am, .inl (cA, C, .inl (upd M j 2))), (ak, .inl (cA, C, .inl K)), (av, .inl (cA, C, .inl V)), (aw, .inl (cA, 4, .inl Wd))] H := hP
  have hD : va_D A [(t, .inr (1, [.int (nI (C - 1)), .ref am, .ref ak, .ref av, .ref aw, .int (n - 1)])), (am, .inl (cA, C, .inl (upd M j 2))), (ak, .inl (cA, C, .inl K)), (av, .inl (cA, C, .inl V)), (aw, .inl (cA, 4, .inl Wd))] := hD
  exact W.vret hx hb hr (fun tS ht hW => ⟨⟨(), rfl, trivial, by rw [ht]; exact hP, va_K.moved hW.alike hK, hD⟩, hS.F ht⟩) hS.2.2 d_Table_markGone_17 hlocks
/-- the mark of the cell x, 0 where there is none -/
def mkA (C : Nat) (M : Nat → Int32) (x : Int32) : Int32 := if x < 0 ∨ nI (C - 1) < x then 0 else M x.toNatClampNeg
def clr (M : Nat → Int32) : Nat → Nat → Int32
  | 0 => M
  | n + 1 => upd (clr M n) n 0
theorem clr_0 {M : Nat → Int32} : ∀ n j, j < n → clr M n j = 0
  | 0, _, h => absurd h (by omega)
  | n + 1, j, h => by
    rw [clr]
    by_cases e : j = n
    · rw [e, pk_us]
    · rw [pk_un e]; exact clr_0 n j (by omega)
set_option maxHeartbeats 4000000 in
set_option maxRecDepth 100000 in
theorem c_markAt (l : Launch) {dC : Nat → ClassId} {dI : Nat → Nat → Nat} {cA : ClassId} {Hp : Heap} {t am ak av aw C : Nat} {n : Int32} {M K V Wd : Nat → Int32} (hC : szC C) (x : Int32) (hP : va_P (dC, dI) cls [(t, .inr (1, [.int (nI (C - 1)), .ref am, .ref ak, .ref av, .ref aw, .int n])), (am, .inl (cA, C, .inl M)), (ak, .inl (cA, C, .inl K)), (av, .inl (cA, C, .inl V)), (aw, .inl (cA, 4, .inl Wd))] Hp) : Met l y_Table_markAt (.code y_Table_markAt b_Table_markAt 2 (some .int) :: BG) ({ frames := 0, cells := 0, slots := 0, locals := 0 }) (pRO dC dI cA [.ref t, .int x] Hp) (qRi (mkA C M x) Hp) 0 0 (fun _ => False) := by
  refine Met.ofW (cc := b_Table_markAt) (maxL := 2) (ret := some .int) (by decide) rfl ?_
  intro p e s m args below meth c s₁ B hml hv
  obtain ⟨rfl, rfl, hK⟩ := hv
  have hx := B.exec
  have hb := B.bytes
  have hr := B.returns
  have hts : ∀ w ∈ BG, w.before _ s = true := fun w h => atoms_spec (ws := .code y_Table_markAt b_Table_markAt 2 (some .int) :: BG) B.pre w (List.mem_cons_of_mem _ h)
  have hown : s.vm.findClass R_Table = some m.cls := findClass_of_methodNamed B.named
  have hlocks := B.notSynchronized
  have hS : va_S (fun _ => False) s.heap s.heap [] := va_S.rf
  have hl := lv_entry ([.ref t, .int x]) (n := 2) (Nat.le_of_ble_eq_true rfl)
  rw [lg_entry_eq]
  generalize (lg_sl ([.ref t, .int x]) ++ List.replicate (2 - (lg_sl ([.ref t, .int x])).length) Slot.unset).toArray = ls at hl ⊢
  have hl : lv_has ls 2 [(0, .ref t), (1, .int x)] := hl
  refine lv_iload_n hx hb d_Table_markAt_0 rfl (lv_at hl 1 rfl) ?_
  refine lv_if_lt hx hb d_Table_markAt_1 (tgt := 21) rfl (fun hc1 => ?_) (fun hc1 => ?_)
  · skip
    refine lv_iconst hx hb d_Table_markAt_21 (v := 0) rfl ?_
    exact rt_i hx hb hr hlocks ((if_pos (by first | exact Or.inl hc1 | exact Or.inr hc9)).symm) hS d_Table_markAt_22
  · skip
    refine lv_iload_n hx hb d_Table_markAt_4 rfl (lv_at hl 1 rfl) ?_
    refine lv_aload_n hx hb d_Table_markAt_5 rfl (lv_at hl 0 rfl) ?_
    refine va_get (ci := 1) (C := R_Table) (T := F_Table) (N := 6) hx hb hts in_Table hown hK hP 0 rfl rfl 0 (by decide) (hts _ wk_49) (fun _ h => h) rfl d_Table_markAt_6 ?_
    refine lv_icmp_gt hx hb d_Table_markAt_9 (tgt := 21) rfl (fun hc9 => ?_) (fun hc9 => ?_)
    · skip
      refine lv_iconst hx hb d_Table_markAt_21 (v := 0) rfl ?_
      exact rt_i hx hb hr hlocks ((if_pos (by first | exact Or.inl hc1 | exact Or.inr hc9)).symm) hS d_Table_markAt_22
    · skip
      have hhi := hC.hi
      have hlo := hC.lo
      obtain ⟨j, hj, rfl⟩ := nI_of2 (nI_toInt (n := C - 1) (by omega)) hc1 (i32_nlt hc9)
      refine lv_aload_n hx hb d_Table_markAt_12 rfl (lv_at hl 0 rfl) ?_
      refine va_get (ci := 1) (C := R_Table) (T := F_Table) (N := 6) hx hb hts in_Table hown hK hP 0 rfl rfl 1 (by decide) (hts _ wk_50) (fun _ h => h) rfl d_Table_markAt_13 ?_
      refine lv_iload_n hx hb d_Table_markAt_16 rfl (lv_at hl 1 rfl) ?_
      refine ia_ld (i := j) hx hb hK hP 1 rfl rfl (by omega) (by omega) d_Table_markAt_17 ?_
      refine lv_goto hx hb d_Table_markAt_18 (tgt := 22) rfl ?_
      exact rt_i hx hb hr hlocks (by unfold mkA; rw [if_neg (by rintro (h | h); exact hc1 h; exact hc9 h), nI_clamp (by omega)]) hS d_Table_markAt_22
set_option maxHeartbeats 4000000 in
set_option maxRecDepth 100000 in
theorem c_clear (l : Launch) {dC : Nat → ClassId} {dI : Nat → Nat → Nat} {cA : ClassId} (sz : Nat) {t am ak av aw C : Nat} {n : Int32} {M K V Wd : Nat → Int32} (hC : szC C) : Met l y_Table_clear (.code y_Table_clear b_Table_clear 2 none :: BG) ({ frames := 0, cells := 0, slots := 0, locals := 0 }) (pRW dC dI cA [.ref t] [(t, .inr (1, [.int (nI (C - 1)), .ref am, .ref ak, .ref av, .ref aw, .int n])), (am, .inl (cA, C, .inl M)), (ak, .inl (cA, C, .inl K)), (av, .inl (cA, C, .inl V)), (aw, .inl (cA, 4, .inl Wd))] sz) (va_Qv (fun (_ : Unit) => True) (fun _ tS => wdB dC dI cA (va_A [(t, .inr (1, [.int (nI (C - 1)), .ref am, .ref ak, .ref av, .ref aw, .int n])), (am, .inl (cA, C, .inl M)), (ak, .inl (cA, C, .inl K)), (av, .inl (cA, C, .inl V)), (aw, .inl (cA, 4, .inl Wd))] sz) [(t, .inr (1, [.int (nI (C - 1)), .ref am, .ref ak, .ref av, .ref aw, .int 0])), (am, .inl (cA, C, .inl (clr M C))), (ak, .inl (cA, C, .inl K)), (av, .inl (cA, C, .inl V)), (aw, .inl (cA, 4, .inl Wd))] tS) (va_A [(t, .inr (1, [.int (nI (C - 1)), .ref am, .ref ak, .ref av, .ref aw, .int n])), (am, .inl (cA, C, .inl M)), (ak, .inl (cA, C, .inl K)), (av, .inl (cA, C, .inl V)), (aw, .inl (cA, 4, .inl Wd))] sz)) 0 0 (va_A [(t, .inr (1, [.int (nI (C - 1)), .ref am, .ref ak, .ref av, .ref aw, .int n])), (am, .inl (cA, C, .inl M)), (ak, .inl (cA, C, .inl K)), (av, .inl (cA, C, .inl V)), (aw, .inl (cA, 4, .inl Wd))] sz) := by
  refine Met.ofW (cc := b_Table_clear) (maxL := 2) (ret := none) (by decide) rfl ?_
  intro p e s m args below meth c s₁ B hml hv
  obtain ⟨rfl, hsz, hP, hK, hD0⟩ := hv
  have hx := B.exec
  have hb := B.bytes
  have hr := B.returns
  have hts : ∀ w ∈ BG, w.before _ s = true := fun w h => atoms_spec (ws := .code y_Table_clear b_Table_clear 2 none :: BG) B.pre w (List.mem_cons_of_mem _ h)
  have hown : s.vm.findClass R_Table = some m.cls := findClass_of_methodNamed B.named
  have hlocks := B.notSynchronized
  subst hsz
  have hD := hD0.self (sz := s.heap.size)
  generalize hAe : va_A [(t, .inr (1, [.int (nI (C - 1)), .ref am, .ref ak, .ref av, .ref aw, .int n])), (am, .inl (cA, C, .inl M)), (ak, .inl (cA, C, .inl K)), (av, .inl (cA, C, .inl V)), (aw, .inl (cA, 4, .inl Wd))] s.heap.size = A at hD ⊢
  have hA : ∀ q : Nat, s.heap.size ≤ q → A q := fun q h => by rw [← hAe]; exact Or.inr h
  have hS : va_S A s.heap s.heap [] := va_S.rf
  have hP : va_P (dC, dI) cls [(t, .inr (1, [.int (nI (C - 1)), .ref am, .ref ak, .ref av, .ref aw, .int n])), (am, .inl (cA, C, .inl M)), (ak, .inl (cA, C, .inl K)), (av, .inl (cA, C, .inl V)), (aw, .inl (cA, 4, .inl Wd))] s.heap := hP
  have hl := lv_entry ([.ref t]) (n := 2) (Nat.le_of_ble_eq_true rfl)
  rw [lg_entry_eq]
  generalize (lg_sl ([.ref t]) ++ List.replicate (2 - (lg_sl ([.ref t])).length) Slot.unset).toArray = ls at hl ⊢
  have hl : lv_has ls 2 [(0, .ref t)] := hl
  have hhi := hC.hi
  have hlo := hC.lo
  refine lv_iconst hx hb d_Table_clear_0 (v := (nI 0)) rfl ?_
  refine lv_istore_n hx hb d_Table_clear_1 rfl hl (by decide) rfl (fun ls hl => ?_)
  have hl : lv_has ls 2 [(1, .int (nI 0)), (0, .ref t)] := hl
  refine W.eq (g2 := F0 m 2 ls []) rfl ?_
  refine lq1 (fun (j : Nat) => C - j) (fun (j : Nat) ls H locs => (j ≤ C) ∧ lv_has ls 2 [(0, .ref t), (1, .int (nI j))] ∧ va_P (dC, dI) cls [(t, .inr (1, [.int (nI (C - 1)), .ref am, .ref ak, .ref av, .ref aw, .int n])), (am, .inl (cA, C, .inl (clr M j))), (ak, .inl (cA, C, .inl K)), (av, .inl (cA, C, .inl V)), (aw, .inl (cA, 4, .inl Wd))] H ∧ va_D A [(t, .inr (1, [.int (nI (C - 1)), .ref am, .ref ak, .ref av, .ref aw, .int n])), (am, .inl (cA, C, .inl (clr M j))), (ak, .inl (cA, C, .inl K)), (av, .inl (cA, C, .inl V)), (aw, .inl (cA, 4, .inl Wd))] ∧ va_S A s.heap H locs) (fun j ls H locs hE ih2 => ?_) 0 ls _ _ ⟨Nat.zero_le _, lv_sub hl [1, 0] rfl, hP, hD, hS⟩
  obtain ⟨hj, hl, hP, hD, hS⟩ := hE
  refine lv_iload_n hx hb d_Table_clear_2 rfl (lv_at hl 1 rfl) ?_
  refine lv_aload_n hx hb d_Table_clear_3 rfl (lv_at hl 0 rfl) ?_
  refine va_get (ci := 1) (C := R_Table) (T := F_Table) (N := 6) hx hb hts in_Table hown hK hP 0 rfl rfl 0 (by decide) (hts _ wk_49) (fun _ h => h) rfl d_Table_clear_4 ?_
  refine lv_icmp_gt hx hb d_Table_clear_7 (tgt := 23) rfl (fun hc7 => ?_) (fun hc7 => ?_)
  · skip
    have hq : C = j := by
      have := (nI_ltI (by omega) (by omega)).mp hc7
      omega
    subst hq
    refine lv_aload_n hx hb d_Table_clear_23 rfl (lv_at hl 0 rfl) ?_
    refine lv_iconst hx hb d_Table_clear_24 (v := 0) rfl ?_
    refine va_put (D := (dC, dI)) (ci := 1) (v := .int 0) (ty := .int) (C := R_Table) (T := F_Table) (N := 6) hx hb hts in_Table t_Table t_Table_ok n_Table hown hK hP hD hS 0 rfl rfl 5 (by decide) (hts _ wk_54) (fun _ h => h) rfl t_Table_5 rfl rfl (Nat.le_of_ble_eq_true rfl) d_Table_clear_25 (fun H locs hP hD hS => ?_)
    have hP : va_P (dC, dI) cls [(t, .inr (1, [.int (nI (C - 1)), .ref am, .ref ak, .ref av, .ref aw, .int 0])), (am, .inl (cA, C, .inl (clr M C))), (ak, .inl (cA, C, .inl K)), (av, .inl (cA, C, .inl V)), (aw, .inl (cA, 4, .inl Wd))] H := hP
    have hD : va_D A [(t, .inr (1, [.int (nI (C - 1)), .ref am, .ref ak, .ref av, .ref aw, .int 0])), (am, .inl (cA, C, .inl (clr M C))), (ak, .inl (cA, C, .inl K)), (av, .inl (cA, C, .inl V)), (aw, .inl (cA, 4, .inl Wd))] := hD
    exact W.vret hx hb hr (fun tS ht hW => ⟨⟨(), rfl, trivial, by rw [ht]; exact hP, va_K.moved hW.alike hK, hD⟩, hS.F ht⟩) hS.2.2 d_Table_clear_28 hlocks
  · skip
    have hq : ¬ C - 1 < j := fun h => hc7 ((nI_ltI (by omega) (by omega)).mpr h)
    refine lv_aload_n hx hb d_Table_clear_10 rfl (lv_at hl 0 rfl) ?_
    refine va_get (ci := 1) (C := R_Table) (T := F_Table) (N := 6) hx hb hts in_Table hown hK hP 0 rfl rfl 1 (by decide) (hts _ wk_50) (fun _ h => h) rfl d_Table_clear_11 ?_
    refine lv_iload_n hx hb d_Table_clear_14 rfl (lv_at hl 1 rfl) ?_
    refine lv_iconst hx hb d_Table_clear_15 (v := 0) rfl ?_
    refine ia_st (i := j) hx hb hK hP hD hS 1 rfl rfl (by omega) (by omega) d_Table_clear_16 (fun H locs hP hD hS => ?_)
    have hP : va_P (dC, dI) cls [(t, .inr (1, [.int (nI (C - 1)), .ref am, .ref ak, .ref av, .ref aw, .int n])), (am, .inl (cA, C, .inl (upd (clr M j) j 0))), (ak, .inl (cA, C, .inl K)), (av, .inl (cA, C, .inl V)), (aw, .inl (cA, 4, .inl Wd))] H := hP
    have hD : va_D A [(t, .inr (1, [.int (nI (C - 1)), .ref am, .ref ak, .ref av, .ref aw, .int n])), (am, .inl (cA, C, .inl (upd (clr M j) j 0))), (ak, .inl (cA, C, .inl K)), (av, .inl (cA, C, .inl V)), (aw, .inl (cA, 4, .inl Wd))] := hD
    refine lv_iinc hx hb d_Table_clear_17 hl (k := 1) rfl (v := nI (j + 1)) (nI_1 _) (by decide) rfl (fun ls hl => ?_)
    have hl : lv_has ls 2 [(1, .int (nI (j + 1))), (0, .ref t)] := hl
    refine lv_goto hx hb d_Table_clear_20 (tgt := 2) rfl ?_
    exact ih2 (j + 1) ls _ _ ⟨by omega, lv_sub hl [1, 0] rfl, hP, hD, hS⟩ (by omega)
