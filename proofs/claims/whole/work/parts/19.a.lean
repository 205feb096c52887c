set_option maxHeartbeats 4000000 in
set_option maxRecDepth 100000 in
theorem c_msize (l : Launch) {dC : Nat → ClassId} {dI : Nat → Nat → Nat} {cA : ClassId} {Hp : Heap} {ob bw bm bk bv cm ck cv C : Nat} {lim lo ti mv : Int32} {v : Int32 × Int32 × Int32 × Int32} {k1 l1 k2 l2 : Int64} {z : Int64 × Int64 × Int64 × Int64} {M K V Wd OM OK OV : Nat → Int32} (hC : szC C) (hmv : mv = 0 → cnt OM C = 0) (hP : va_P (dC, dI) cls [(ob, .inr (3, [.int (nI C), .int lim, .int v.1, .int v.2.1, .int v.2.2.1, .int v.2.2.2, .ref bw, .long k1, .long l1, .long k2, .long l2, .ref bm, .ref bk, .ref bv, .int mv, .ref cm, .ref ck, .ref cv, .int lo, .int ti, .long z.1, .long z.2.1, .long z.2.2.1, .long z.2.2.2])), (bw, .inl (cA, 4, .inl Wd)), (bm, .inl (cA, 128, .inl M)), (bk, .inl (cA, 128, .inl K)), (bv, .inl (cA, 128, .inl V)), (cm, .inl (cA, 128, .inl OM)), (ck, .inl (cA, 128, .inl OK)), (cv, .inl (cA, 128, .inl OV))] Hp) : Met l y_Model_size (.code y_Model_size b_Model_size 1 (some .int) :: BG) ({ frames := 1, cells := 0, slots := 0, locals := 22 }) (pRO dC dI cA [.ref ob] Hp) (qRi (nI (cnt M C) + nI (cnt OM C)) Hp) 0 0 (fun _ => False) := by
  refine Met.ofW (cc := b_Model_size) (maxL := 1) (ret := some .int) (by decide) rfl ?_
  intro p e s m args below meth c s₁ B hml hv
  obtain ⟨rfl, rfl, hK⟩ := hv
  have hx := B.exec
  have hb := B.bytes
  have hr := B.returns
  have hts : ∀ w ∈ BG, w.before _ s = true := fun w h => atoms_spec (ws := .code y_Model_size b_Model_size 1 (some .int) :: BG) B.pre w (List.mem_cons_of_mem _ h)
  have hown : s.vm.findClass R_Model = some m.cls := findClass_of_methodNamed B.named
  have hlocks := B.notSynchronized
  have hS : va_S (fun _ => False) s.heap s.heap [] := va_S.rf
  have hl := lv_entry ([.ref ob]) (n := 1) (Nat.le_of_ble_eq_true rfl)
  rw [lg_entry_eq]
  generalize (lg_sl ([.ref ob]) ++ List.replicate (1 - (lg_sl ([.ref ob])).length) Slot.unset).toArray = ls at hl ⊢
  have hl : lv_has ls 1 [(0, .ref ob)] := hl
  refine lv_aload_n hx hb d_Model_size_0 rfl (lv_at hl 0 rfl) ?_
  refine ro_i (va_runV (As := []) (rest := []) ⟨hx, hb, hml, hown, hts⟩ (c_inNew l hC hP) (cwV 0 hts g_Model_140 rfl rfl rfl (by decide +kernel) ⟨Nat.le_of_ble_eq_true rfl, Nat.le_of_ble_eq_true rfl⟩) ⟨bl_RO, va_recv (q0 := 0) hK hP rfl rfl, fun U hU hW => ⟨rfl, hU, va_K.moved hW.alike hK⟩⟩ rfl rfl hl.1 rfl (lv_room (Nat.le_of_ble_eq_true rfl)) d_Model_size_1 ⟨Nat.zero_le _, Nat.zero_le _⟩) hS (fun locs hS => ?_)
  refine lv_aload_n hx hb d_Model_size_4 rfl (lv_at hl 0 rfl) ?_
  refine ro_i (va_runV (As := []) (rest := [.int (nI (cnt M C))]) ⟨hx, hb, hml, hown, hts⟩ (c_inOld l hC hmv hP) (cwV 0 hts g_Model_155 rfl rfl rfl (by decide +kernel) ⟨Nat.le_of_ble_eq_true rfl, Nat.le_of_ble_eq_true rfl⟩) ⟨bl_RO, va_recv (q0 := 0) hK hP rfl rfl, fun U hU hW => ⟨rfl, hU, va_K.moved hW.alike hK⟩⟩ rfl rfl hl.1 rfl (lv_room (Nat.le_of_ble_eq_true rfl)) d_Model_size_5 ⟨Nat.zero_le _, Nat.zero_le _⟩) hS (fun locs hS => ?_)
  refine lv_iadd hx hb d_Model_size_8 ?_
  exact rt_i hx hb hr hlocks rfl hS d_Model_size_9
set_option maxHeartbeats 4000000 in
set_option maxRecDepth 100000 in
theorem c_mprobeMax (l : Launch) {dC : Nat → ClassId} {dI : Nat → Nat → Nat} {cA : ClassId} {Hp : Heap} {ob bw bm bk bv cm ck cv C : Nat} {lim lo ti mv : Int32} {v : Int32 × Int32 × Int32 × Int32} {k1 l1 k2 l2 : Int64} {z : Int64 × Int64 × Int64 × Int64} {M K V Wd OM OK OV : Nat → Int32} (hP : va_P (dC, dI) cls [(ob, .inr (3, [.int (nI C), .int lim, .int v.1, .int v.2.1, .int v.2.2.1, .int v.2.2.2, .ref bw, .long k1, .long l1, .long k2, .long l2, .ref bm, .ref bk, .ref bv, .int mv, .ref cm, .ref ck, .ref cv, .int lo, .int ti, .long z.1, .long z.2.1, .long z.2.2.1, .long z.2.2.2])), (bw, .inl (cA, 4, .inl Wd)), (bm, .inl (cA, 128, .inl M)), (bk, .inl (cA, 128, .inl K)), (bv, .inl (cA, 128, .inl V)), (cm, .inl (cA, 128, .inl OM)), (ck, .inl (cA, 128, .inl OK)), (cv, .inl (cA, 128, .inl OV))] Hp) : Met l y_Model_probeMax (.code y_Model_probeMax b_Model_probeMax 1 (some .int) :: BG) ({ frames := 1, cells := 0, slots := 0, locals := 12 }) (pRO dC dI cA [.ref ob] Hp) (qRi lo Hp) 0 0 (fun _ => False) := by
  refine Met.ofW (cc := b_Model_probeMax) (maxL := 1) (ret := some .int) (by decide) rfl ?_
  intro p e s m args below meth c s₁ B hml hv
  obtain ⟨rfl, rfl, hK⟩ := hv
  have hx := B.exec
  have hb := B.bytes
  have hr := B.returns
  have hts : ∀ w ∈ BG, w.before _ s = true := fun w h => atoms_spec (ws := .code y_Model_probeMax b_Model_probeMax 1 (some .int) :: BG) B.pre w (List.mem_cons_of_mem _ h)
  have hown : s.vm.findClass R_Model = some m.cls := findClass_of_methodNamed B.named
  have hlocks := B.notSynchronized
  have hS : va_S (fun _ => False) s.heap s.heap [] := va_S.rf
  have hl := lv_entry ([.ref ob]) (n := 1) (Nat.le_of_ble_eq_true rfl)
  rw [lg_entry_eq]
  generalize (lg_sl ([.ref ob]) ++ List.replicate (1 - (lg_sl ([.ref ob])).length) Slot.unset).toArray = ls at hl ⊢
  have hl : lv_has ls 1 [(0, .ref ob)] := hl
  refine lv_aload_n hx hb d_Model_probeMax_0 rfl (lv_at hl 0 rfl) ?_
  refine va_get (ci := 3) (C := R_Model) (T := F_Model) (N := 24) hx hb hts in_Model hown hK hP 0 rfl rfl 18 (by decide) (hts _ wk_254) (fun _ h => h) rfl d_Model_probeMax_1 ?_
  exact rt_i hx hb hr hlocks rfl hS d_Model_probeMax_4
set_option maxHeartbeats 4000000 in
set_option maxRecDepth 100000 in
theorem c_mrekeys (l : Launch) {dC : Nat → ClassId} {dI : Nat → Nat → Nat} {cA : ClassId} {Hp : Heap} {ob bw bm bk bv cm ck cv C : Nat} {lim lo ti mv : Int32} {v : Int32 × Int32 × Int32 × Int32} {k1 l1 k2 l2 : Int64} {z : Int64 × Int64 × Int64 × Int64} {M K V Wd OM OK OV : Nat → Int32} (hP : va_P (dC, dI) cls [(ob, .inr (3, [.int (nI C), .int lim, .int v.1, .int v.2.1, .int v.2.2.1, .int v.2.2.2, .ref bw, .long k1, .long l1, .long k2, .long l2, .ref bm, .ref bk, .ref bv, .int mv, .ref cm, .ref ck, .ref cv, .int lo, .int ti, .long z.1, .long z.2.1, .long z.2.2.1, .long z.2.2.2])), (bw, .inl (cA, 4, .inl Wd)), (bm, .inl (cA, 128, .inl M)), (bk, .inl (cA, 128, .inl K)), (bv, .inl (cA, 128, .inl V)), (cm, .inl (cA, 128, .inl OM)), (ck, .inl (cA, 128, .inl OK)), (cv, .inl (cA, 128, .inl OV))] Hp) : Met l y_Model_rekeys (.code y_Model_rekeys b_Model_rekeys 1 (some .int) :: BG) ({ frames := 1, cells := 0, slots := 0, locals := 12 }) (pRO dC dI cA [.ref ob] Hp) (qRi ti Hp) 0 0 (fun _ => False) := by
  refine Met.ofW (cc := b_Model_rekeys) (maxL := 1) (ret := some .int) (by decide) rfl ?_
  intro p e s m args below meth c s₁ B hml hv
  obtain ⟨rfl, rfl, hK⟩ := hv
  have hx := B.exec
  have hb := B.bytes
  have hr := B.returns
  have hts : ∀ w ∈ BG, w.before _ s = true := fun w h => atoms_spec (ws := .code y_Model_rekeys b_Model_rekeys 1 (some .int) :: BG) B.pre w (List.mem_cons_of_mem _ h)
  have hown : s.vm.findClass R_Model = some m.cls := findClass_of_methodNamed B.named
  have hlocks := B.notSynchronized
  have hS : va_S (fun _ => False) s.heap s.heap [] := va_S.rf
  have hl := lv_entry ([.ref ob]) (n := 1) (Nat.le_of_ble_eq_true rfl)
  rw [lg_entry_eq]
  generalize (lg_sl ([.ref ob]) ++ List.replicate (1 - (lg_sl ([.ref ob])).length) Slot.unset).toArray = ls at hl ⊢
  have hl : lv_has ls 1 [(0, .ref ob)] := hl
  refine lv_aload_n hx hb d_Model_rekeys_0 rfl (lv_at hl 0 rfl) ?_
  refine va_get (ci := 3) (C := R_Model) (T := F_Model) (N := 24) hx hb hts in_Model hown hK hP 0 rfl rfl 19 (by decide) (hts _ wk_255) (fun _ h => h) rfl d_Model_rekeys_1 ?_
  exact rt_i hx hb hr hlocks rfl hS d_Model_rekeys_4
set_option maxHeartbeats 4000000 in
set_option maxRecDepth 100000 in
theorem c_mkeyWord (l : Launch) {dC : Nat → ClassId} {dI : Nat → Nat → Nat} {cA : ClassId} {Hp : Heap} {ob bw bm bk bv cm ck cv C : Nat} {lim lo ti mv : Int32} {v : Int32 × Int32 × Int32 × Int32} {k1 l1 k2 l2 : Int64} {z : Int64 × Int64 × Int64 × Int64} {M K V Wd OM OK OV : Nat → Int32} (x : Int32) (hP : va_P (dC, dI) cls [(ob, .inr (3, [.int (nI C), .int lim, .int v.1, .int v.2.1, .int v.2.2.1, .int v.2.2.2, .ref bw, .long k1, .long l1, .long k2, .long l2, .ref bm, .ref bk, .ref bv, .int mv, .ref cm, .ref ck, .ref cv, .int lo, .int ti, .long z.1, .long z.2.1, .long z.2.2.1, .long z.2.2.2])), (bw, .inl (cA, 4, .inl Wd)), (bm, .inl (cA, 128, .inl M)), (bk, .inl (cA, 128, .inl K)), (bv, .inl (cA, 128, .inl V)), (cm, .inl (cA, 128, .inl OM)), (ck, .inl (cA, 128, .inl OK)), (cv, .inl (cA, 128, .inl OV))] Hp) : Met l y_Model_keyWord (.code y_Model_keyWord b_Model_keyWord 2 (some .int) :: BG) ({ frames := 1, cells := 0, slots := 0, locals := 12 }) (pRO dC dI cA [.ref ob, .int x] Hp) (qRi (if x < 0 ∨ 4 ≤ x then 0 else Wd x.toNatClampNeg) Hp) 0 0 (fun _ => False) := by
  refine Met.ofW (cc := b_Model_keyWord) (maxL := 2) (ret := some .int) (by decide) rfl ?_
  intro p e s m args below meth c s₁ B hml hv
  obtain ⟨rfl, rfl, hK⟩ := hv
  have hx := B.exec
  have hb := B.bytes
  have hr := B.returns
  have hts : ∀ w ∈ BG, w.before _ s = true := fun w h => atoms_spec (ws := .code y_Model_keyWord b_Model_keyWord 2 (some .int) :: BG) B.pre w (List.mem_cons_of_mem _ h)
  have hown : s.vm.findClass R_Model = some m.cls := findClass_of_methodNamed B.named
  have hlocks := B.notSynchronized
  have hS : va_S (fun _ => False) s.heap s.heap [] := va_S.rf
  have hl := lv_entry ([.ref ob, .int x]) (n := 2) (Nat.le_of_ble_eq_true rfl)
  rw [lg_entry_eq]
  generalize (lg_sl ([.ref ob, .int x]) ++ List.replicate (2 - (lg_sl ([.ref ob, .int x])).length) Slot.unset).toArray = ls at hl ⊢
  have hl : lv_has ls 2 [(0, .ref ob), (1, .int x)] := hl
  refine lv_iload_n hx hb d_Model_keyWord_0 rfl (lv_at hl 1 rfl) ?_
  refine lv_if_lt hx hb d_Model_keyWord_1 (tgt := 18) rfl (fun hc1 => ?_) (fun hc1 => ?_)
  · skip
    refine lv_iconst hx hb d_Model_keyWord_18 (v := 0) rfl ?_
    exact rt_i hx hb hr hlocks ((if_pos (by first | exact Or.inl hc1 | exact Or.inr hc6)).symm) hS d_Model_keyWord_19
  · skip
    refine lv_iload_n hx hb d_Model_keyWord_4 rfl (lv_at hl 1 rfl) ?_
    refine lv_iconst hx hb d_Model_keyWord_5 (v := (nI 4)) rfl ?_
    refine lv_icmp_ge hx hb d_Model_keyWord_6 (tgt := 18) rfl (fun hc6 => ?_) (fun hc6 => ?_)
    · skip
      refine lv_iconst hx hb d_Model_keyWord_18 (v := 0) rfl ?_
      exact rt_i hx hb hr hlocks ((if_pos (by first | exact Or.inl hc1 | exact Or.inr hc6)).symm) hS d_Model_keyWord_19
    · skip
      obtain ⟨j, hj, rfl⟩ : ∃ j : Nat, j < 4 ∧ x = nI j := by
          rcases pk_ix x (n := 4) (by omega) with h | h | h
          · exact absurd h hc1
          · exact absurd h hc6
          · exact h
      refine lv_aload_n hx hb d_Model_keyWord_9 rfl (lv_at hl 0 rfl) ?_
      refine va_get (ci := 3) (C := R_Model) (T := F_Model) (N := 24) hx hb hts in_Model hown hK hP 0 rfl rfl 6 (by decide) (hts _ wk_242) (fun _ h => h) rfl d_Model_keyWord_10 ?_
      refine lv_iload_n hx hb d_Model_keyWord_13 rfl (lv_at hl 1 rfl) ?_
      refine ia_ld (i := j) hx hb hK hP 1 rfl rfl (by omega) (by omega) d_Model_keyWord_14 ?_
      refine lv_goto hx hb d_Model_keyWord_15 (tgt := 19) rfl ?_
      exact rt_i hx hb hr hlocks (by rw [if_neg (by rintro (h | h); exact hc1 h; exact hc6 h), nI_clamp (by omega)]) hS d_Model_keyWord_19
set_option maxHeartbeats 4000000 in
set_option maxRecDepth 100000 in
theorem c_mnth (l : Launch) {dC : Nat → ClassId} {dI : Nat → Nat → Nat} {cA : ClassId} {Hp : Heap} {ob bw bm bk bv cm ck cv C : Nat} {lim lo ti mv : Int32} {v : Int32 × Int32 × Int32 × Int32} {k1 l1 k2 l2 : Int64} {z : Int64 × Int64 × Int64 × Int64} {M K V Wd OM OK OV : Nat → Int32} (hC : szC C) (x : Int32) (hP : va_P (dC, dI) cls [(ob, .inr (3, [.int (nI C), .int lim, .int v.1, .int v.2.1, .int v.2.2.1, .int v.2.2.2, .ref bw, .long k1, .long l1, .long k2, .long l2, .ref bm, .ref bk, .ref bv, .int mv, .ref cm, .ref ck, .ref cv, .int lo, .int ti, .long z.1, .long z.2.1, .long z.2.2.1, .long z.2.2.2])), (bw, .inl (cA, 4, .inl Wd)), (bm, .inl (cA, 128, .inl M)), (bk, .inl (cA, 128, .inl K)), (bv, .inl (cA, 128, .inl V)), (cm, .inl (cA, 128, .inl OM)), (ck, .inl (cA, 128, .inl OK)), (cv, .inl (cA, 128, .inl OV))] Hp) : Met l y_Model_nth (.code y_Model_nth b_Model_nth 2 (some .int) :: BG) ({ frames := 1, cells := 0, slots := 0, locals := 12 }) (pRO dC dI cA [.ref ob, .int x] Hp) (qRi (if x < 0 ∨ nI C ≤ x then -1 else if M x.toNatClampNeg = 1 then K x.toNatClampNeg else -1) Hp) 0 0 (fun _ => False) := by
  refine Met.ofW (cc := b_Model_nth) (maxL := 2) (ret := some .int) (by decide) rfl ?_
  intro p e s m args below meth c s₁ B hml hv
  obtain ⟨rfl, rfl, hK⟩ := hv
  have hx := B.exec
  have hb := B.bytes
  have hr := B.returns
  have hts : ∀ w ∈ BG, w.before _ s = true := fun w h => atoms_spec (ws := .code y_Model_nth b_Model_nth 2 (some .int) :: BG) B.pre w (List.mem_cons_of_mem _ h)
  have hown : s.vm.findClass R_Model = some m.cls := findClass_of_methodNamed B.named
  have hlocks := B.notSynchronized
  have hS : va_S (fun _ => False) s.heap s.heap [] := va_S.rf
  have hl := lv_entry ([.ref ob, .int x]) (n := 2) (Nat.le_of_ble_eq_true rfl)
  rw [lg_entry_eq]
  generalize (lg_sl ([.ref ob, .int x]) ++ List.replicate (2 - (lg_sl ([.ref ob, .int x])).length) Slot.unset).toArray = ls at hl ⊢
  have hl : lv_has ls 2 [(0, .ref ob), (1, .int x)] := hl
  have hlo := hC.lo
  have hhi := hC.hi
  refine lv_iload_n hx hb d_Model_nth_0 rfl (lv_at hl 1 rfl) ?_
  refine lv_if_lt hx hb d_Model_nth_1 (tgt := 31) rfl (fun hc1 => ?_) (fun hc1 => ?_)
  · skip
    refine lv_iconst hx hb d_Model_nth_31 (v := (-1)) rfl ?_
    exact rt_i hx hb hr hlocks (by first | exact (if_pos (Or.inl hc1)).symm | exact (if_pos (Or.inr hc9)).symm | (rw [if_neg (by rintro (h | h); exact hc1 h; exact hc9 h), nI_clamp (by omega), if_neg hc19])) hS d_Model_nth_32
  · skip
    refine lv_iload_n hx hb d_Model_nth_4 rfl (lv_at hl 1 rfl) ?_
    refine lv_aload_n hx hb d_Model_nth_5 rfl (lv_at hl 0 rfl) ?_
    refine va_get (ci := 3) (C := R_Model) (T := F_Model) (N := 24) hx hb hts in_Model hown hK hP 0 rfl rfl 0 (by decide) (hts _ wk_236) (fun _ h => h) rfl d_Model_nth_6 ?_
    refine lv_icmp_ge hx hb d_Model_nth_9 (tgt := 31) rfl (fun hc9 => ?_) (fun hc9 => ?_)
    · skip
      refine lv_iconst hx hb d_Model_nth_31 (v := (-1)) rfl ?_
      exact rt_i hx hb hr hlocks (by first | exact (if_pos (Or.inl hc1)).symm | exact (if_pos (Or.inr hc9)).symm | (rw [if_neg (by rintro (h | h); exact hc1 h; exact hc9 h), nI_clamp (by omega), if_neg hc19])) hS d_Model_nth_32
    · skip
      obtain ⟨j, hj, rfl⟩ : ∃ j : Nat, j < C ∧ x = nI j := by
          rcases pk_ix x (n := C) (by omega) with h | h | h
          · exact absurd h hc1
          · exact absurd h hc9
          · exact h
      refine lv_aload_n hx hb d_Model_nth_12 rfl (lv_at hl 0 rfl) ?_
      refine va_get (ci := 3) (C := R_Model) (T := F_Model) (N := 24) hx hb hts in_Model hown hK hP 0 rfl rfl 11 (by decide) (hts _ wk_247) (fun _ h => h) rfl d_Model_nth_13 ?_
      refine lv_iload_n hx hb d_Model_nth_16 rfl (lv_at hl 1 rfl) ?_
      refine ia_ld (i := j) hx hb hK hP 2 rfl rfl (by omega) (by omega) d_Model_nth_17 ?_
      refine lv_iconst hx hb d_Model_nth_18 (v := 1) rfl ?_
      refine lv_icmp_ne hx hb d_Model_nth_19 (tgt := 31) rfl (fun hc19 => ?_) (fun hc19 => ?_)
      · skip
        refine lv_iconst hx hb d_Model_nth_31 (v := (-1)) rfl ?_
        exact rt_i hx hb hr hlocks (by first | exact (if_pos (Or.inl hc1)).symm | exact (if_pos (Or.inr hc9)).symm | (rw [if_neg (by rintro (h | h); exact hc1 h; exact hc9 h), nI_clamp (by omega), if_neg hc19])) hS d_Model_nth_32
      · skip
        refine lv_aload_n hx hb d_Model_nth_22 rfl (lv_at hl 0 rfl) ?_
        refine va_get (ci := 3) (C := R_Model) (T := F_Model) (N := 24) hx hb hts in_Model hown hK hP 0 rfl rfl 12 (by decide) (hts _ wk_248) (fun _ h => h) rfl d_Model_nth_23 ?_
        refine lv_iload_n hx hb d_Model_nth_26 rfl (lv_at hl 1 rfl) ?_
        refine W.eq (g2 := F0 m 27 ls [.int (nI j), .ref bk]) rfl ?_
        refine ia_ld (i := j) hx hb hK hP 3 rfl rfl (by omega) (by omega) d_Model_nth_27 ?_
        refine lv_goto hx hb d_Model_nth_28 (tgt := 32) rfl ?_
        exact rt_i hx hb hr hlocks (by rw [if_neg (by rintro (h | h); exact hc1 h; exact hc9 h), nI_clamp (by omega), if_pos hc19]) hS d_Model_nth_32
set_option maxHeartbeats 4000000 in
set_option maxRecDepth 100000 in
theorem c_mfilled (l : Launch) {dC : Nat → ClassId} {dI : Nat → Nat → Nat} {cA : ClassId} {Hp : Heap} {ob bw bm bk bv cm ck cv C : Nat} {lim lo ti mv : Int32} {v : Int32 × Int32 × Int32 × Int32} {k1 l1 k2 l2 : Int64} {z : Int64 × Int64 × Int64 × Int64} {M K V Wd OM OK OV : Nat → Int32} (hC : szC C) (b x : Int32) (hP : va_P (dC, dI) cls [(ob, .inr (3, [.int (nI C), .int lim, .int v.1, .int v.2.1, .int v.2.2.1, .int v.2.2.2, .ref bw, .long k1, .long l1, .long k2, .long l2, .ref bm, .ref bk, .ref bv, .int mv, .ref cm, .ref ck, .ref cv, .int lo, .int ti, .long z.1, .long z.2.1, .long z.2.2.1, .long z.2.2.2])), (bw, .inl (cA, 4, .inl Wd)), (bm, .inl (cA, 128, .inl M)), (bk, .inl (cA, 128, .inl K)), (bv, .inl (cA, 128, .inl V)), (cm, .inl (cA, 128, .inl OM)), (ck, .inl (cA, 128, .inl OK)), (cv, .inl (cA, 128, .inl OV))] Hp) : Met l y_Model_filled (.code y_Model_filled b_Model_filled 3 (some .int) :: BG) ({ frames := 1, cells := 0, slots := 0, locals := 12 }) (pRO dC dI cA [.ref ob, .int b, .int x] Hp) (qRi (if x < 0 ∨ nI C ≤ x then 0 else if b = 0 then M x.toNatClampNeg else if mv = 0 then 0 else OM x.toNatClampNeg) Hp) 0 0 (fun _ => False) := by
  refine Met.ofW (cc := b_Model_filled) (maxL := 3) (ret := some .int) (by decide) rfl ?_
  intro p e s m args below meth c s₁ B hml hv
  obtain ⟨rfl, rfl, hK⟩ := hv
  have hx := B.exec
  have hb := B.bytes
  have hr := B.returns
  have hts : ∀ w ∈ BG, w.before _ s = true := fun w h => atoms_spec (ws := .code y_Model_filled b_Model_filled 3 (some .int) :: BG) B.pre w (List.mem_cons_of_mem _ h)
  have hown : s.vm.findClass R_Model = some m.cls := findClass_of_methodNamed B.named
  have hlocks := B.notSynchronized
  have hS : va_S (fun _ => False) s.heap s.heap [] := va_S.rf
  have hl := lv_entry ([.ref ob, .int b, .int x]) (n := 3) (Nat.le_of_ble_eq_true rfl)
  rw [lg_entry_eq]
  generalize (lg_sl ([.ref ob, .int b, .int x]) ++ List.replicate (3 - (lg_sl ([.ref ob, .int b, .int x])).length) Slot.unset).toArray = ls at hl ⊢
  have hl : lv_has ls 3 [(0, .ref ob), (1, .int b), (2, .int x)] := hl
  have hlo := hC.lo
  have hhi := hC.hi
  refine lv_iload_n hx hb d_Model_filled_0 rfl (lv_at hl 2 rfl) ?_
  refine lv_if_lt hx hb d_Model_filled_1 (tgt := 12) rfl (fun hc1 => ?_) (fun hc1 => ?_)
  · skip
    refine lv_iconst hx hb d_Model_filled_12 (v := 0) rfl ?_
    exact rt_i hx hb hr hlocks ((if_pos (by first | exact Or.inl hc1 | exact Or.inr (i32_nlt hc9))).symm) hS d_Model_filled_13
  · skip
    refine lv_iload_n hx hb d_Model_filled_4 rfl (lv_at hl 2 rfl) ?_
    refine lv_aload_n hx hb d_Model_filled_5 rfl (lv_at hl 0 rfl) ?_
    refine va_get (ci := 3) (C := R_Model) (T := F_Model) (N := 24) hx hb hts in_Model hown hK hP 0 rfl rfl 0 (by decide) (hts _ wk_236) (fun _ h => h) rfl d_Model_filled_6 ?_
    refine lv_icmp_lt hx hb d_Model_filled_9 (tgt := 14) rfl (fun hc9 => ?_) (fun hc9 => ?_)
    · skip
      obtain ⟨j, hj, rfl⟩ : ∃ j : Nat, j < C ∧ x = nI j := by
          rcases pk_ix x (n := C) (by omega) with h | h | h
          · exact absurd h hc1
          · exact absurd h (fun z => i32_irr (Int32.lt_of_lt_of_le hc9 z))
          · exact h
      refine lv_iload_n hx hb d_Model_filled_14 rfl (lv_at hl 1 rfl) ?_
      refine lv_if_eq hx hb d_Model_filled_15 (tgt := 38) rfl (fun hc15 => ?_) (fun hc15 => ?_)
      · skip
        refine lv_aload_n hx hb d_Model_filled_38 rfl (lv_at hl 0 rfl) ?_
        refine va_get (ci := 3) (C := R_Model) (T := F_Model) (N := 24) hx hb hts in_Model hown hK hP 0 rfl rfl 11 (by decide) (hts _ wk_247) (fun _ h => h) rfl d_Model_filled_39 ?_
        refine lv_iload_n hx hb d_Model_filled_42 rfl (lv_at hl 2 rfl) ?_
        refine ia_ld (i := j) hx hb hK hP 2 rfl rfl (by omega) (by omega) d_Model_filled_43 ?_
        exact rt_i hx hb hr hlocks (by rw [if_neg (by rintro (h | h); exact hc1 h; exact (fun z => i32_irr (Int32.lt_of_lt_of_le hc9 z)) h), if_pos hc15, nI_clamp (by omega)]) hS d_Model_filled_44
      · skip
        refine lv_aload_n hx hb d_Model_filled_18 rfl (lv_at hl 0 rfl) ?_
        refine va_get (ci := 3) (C := R_Model) (T := F_Model) (N := 24) hx hb hts in_Model hown hK hP 0 rfl rfl 14 (by decide) (hts _ wk_250) (fun _ h => h) rfl d_Model_filled_19 ?_
        refine lv_if_eq hx hb d_Model_filled_22 (tgt := 34) rfl (fun hc22 => ?_) (fun hc22 => ?_)
        · skip
          refine lv_iconst hx hb d_Model_filled_34 (v := 0) rfl ?_
          refine lv_goto hx hb d_Model_filled_35 (tgt := 44) rfl ?_
          exact rt_i hx hb hr hlocks (by rw [if_neg (by rintro (h | h); exact hc1 h; exact (fun z => i32_irr (Int32.lt_of_lt_of_le hc9 z)) h), if_neg hc15, if_pos hc22]) hS d_Model_filled_44
        · skip
          refine lv_aload_n hx hb d_Model_filled_25 rfl (lv_at hl 0 rfl) ?_
          refine va_get (ci := 3) (C := R_Model) (T := F_Model) (N := 24) hx hb hts in_Model hown hK hP 0 rfl rfl 15 (by decide) (hts _ wk_251) (fun _ h => h) rfl d_Model_filled_26 ?_
          refine lv_iload_n hx hb d_Model_filled_29 rfl (lv_at hl 2 rfl) ?_
          refine ia_ld (i := j) hx hb hK hP 5 rfl rfl (by omega) (by omega) d_Model_filled_30 ?_
          refine W.eq (g2 := F0 m 31 ls [.int (OM j)]) rfl ?_
          refine lv_goto hx hb d_Model_filled_31 (tgt := 44) rfl ?_
          exact rt_i hx hb hr hlocks (by rw [if_neg (by rintro (h | h); exact hc1 h; exact (fun z => i32_irr (Int32.lt_of_lt_of_le hc9 z)) h), if_neg hc15, if_neg hc22, nI_clamp (by omega)]) hS d_Model_filled_44
    · skip
      refine lv_iconst hx hb d_Model_filled_12 (v := 0) rfl ?_
      exact rt_i hx hb hr hlocks ((if_pos (by first | exact Or.inl hc1 | exact Or.inr (i32_nlt hc9))).symm) hS d_Model_filled_13
