set_option maxHeartbeats 4000000 in
set_option maxRecDepth 100000 in
theorem c_cellOf (l : Launch) {dC : Nat → ClassId} {dI : Nat → Nat → Nat} {cA : ClassId} {Hp : Heap} {t am ak av aw C : Nat} {n : Int32} {M K V Wd : Nat → Int32} (hC : szC C) (x : Int32) (hP : va_P (dC, dI) cls [(t, .inr (1, [.int (nI (C - 1)), .ref am, .ref ak, .ref av, .ref aw, .int n])), (am, .inl (cA, C, .inl M)), (ak, .inl (cA, C, .inl K)), (av, .inl (cA, C, .inl V)), (aw, .inl (cA, 4, .inl Wd))] Hp) : Met l y_Table_cellOf (.code y_Table_cellOf b_Table_cellOf 4 (some .int) :: BG) ({ frames := 3, cells := 0, slots := 0, locals := 79 }) (pRO dC dI cA [.ref t, .int x] Hp) (qRi (lk C M K x C (hm C Wd x)) Hp) 0 0 (fun _ => False) := by
  refine Met.ofW (cc := b_Table_cellOf) (maxL := 4) (ret := some .int) (by decide) rfl ?_
  intro p e s m args below meth c s₁ B hml hv
  obtain ⟨rfl, rfl, hK⟩ := hv
  have hx := B.exec
  have hb := B.bytes
  have hr := B.returns
  have hts : ∀ w ∈ BG, w.before _ s = true := fun w h => atoms_spec (ws := .code y_Table_cellOf b_Table_cellOf 4 (some .int) :: BG) B.pre w (List.mem_cons_of_mem _ h)
  have hown : s.vm.findClass R_Table = some m.cls := findClass_of_methodNamed B.named
  have hlocks := B.notSynchronized
  have hS : va_S (fun _ => False) s.heap s.heap [] := va_S.rf
  have hl := lv_entry ([.ref t, .int x]) (n := 4) (Nat.le_of_ble_eq_true rfl)
  rw [lg_entry_eq]
  generalize (lg_sl ([.ref t, .int x]) ++ List.replicate (4 - (lg_sl ([.ref t, .int x])).length) Slot.unset).toArray = ls at hl ⊢
  have hl : lv_has ls 4 [(0, .ref t), (1, .int x)] := hl
  refine lv_aload_n hx hb d_Table_cellOf_0 rfl (lv_at hl 0 rfl) ?_
  refine lv_iload_n hx hb d_Table_cellOf_1 rfl (lv_at hl 1 rfl) ?_
  refine ro_i (va_runV (As := [.int x]) (rest := []) ⟨hx, hb, hml, hown, hts⟩ (c_homeOf l hC x hP) (cwV 1 hts g_Table_58 rfl rfl rfl (by decide +kernel) ⟨Nat.le_of_ble_eq_true rfl, Nat.le_of_ble_eq_true rfl⟩) ⟨bl_RO, va_recv (q0 := 0) hK hP rfl rfl, fun U hU hW => ⟨rfl, hU, va_K.moved hW.alike hK⟩⟩ rfl rfl hl.1 rfl (lv_room (Nat.le_of_ble_eq_true rfl)) d_Table_cellOf_2 ⟨Nat.zero_le _, Nat.zero_le _⟩) hS (fun locs hS => ?_)
  refine lv_istore_n hx hb d_Table_cellOf_5 rfl hl (by decide) rfl (fun ls hl => ?_)
  have hl : lv_has ls 4 [(2, .int (nI (hm C Wd x))), (0, .ref t), (1, .int x)] := hl
  refine lv_iconst hx hb d_Table_cellOf_6 (v := (nI 0)) rfl ?_
  refine lv_istore_n hx hb d_Table_cellOf_7 rfl hl (by decide) rfl (fun ls hl => ?_)
  have hl : lv_has ls 4 [(3, .int (nI 0)), (2, .int (nI (hm C Wd x))), (0, .ref t), (1, .int x)] := hl
  have hlo := hC.lo
  have hhi := hC.hi
  rw [show (nI 0 : Int32) = nI (C - C) by rw [Nat.sub_self]] at hl
  refine W.eq (g2 := F0 m 8 ls []) rfl ?_
  refine lr2 (fun (f : Nat) (j : Nat) => f) (fun (f : Nat) (j : Nat) ls locs => (f ≤ C) ∧ (j < C) ∧ (lk C M K x f j = lk C M K x C (hm C Wd x)) ∧ lv_has ls 4 [(0, .ref t), (1, .int x), (2, .int (nI j)), (3, .int (nI (C - f)))] ∧ va_S (fun _ => False) s.heap s.heap locs) (fun f j ls locs hE ih8 => ?_) C (hm C Wd x) ls _ ⟨Nat.le_refl _, hm_lt hC _ _, rfl, lv_sub hl [2, 3, 1, 0] rfl, hS⟩
  obtain ⟨hf, hj, hZ, hl, hS⟩ := hE
  refine lv_iload_n hx hb d_Table_cellOf_8 rfl (lv_at hl 3 rfl) ?_
  refine lv_aload_n hx hb d_Table_cellOf_9 rfl (lv_at hl 0 rfl) ?_
  refine va_get (ci := 1) (C := R_Table) (T := F_Table) (N := 6) hx hb hts in_Table hown hK hP 0 rfl rfl 0 (by decide) (hts _ wk_49) (fun _ h => h) rfl d_Table_cellOf_10 ?_
  refine lv_icmp_gt hx hb d_Table_cellOf_13 (tgt := 64) rfl (fun hc13 => ?_) (fun hc13 => ?_)
  · skip
    have hq : f = 0 := by
      have := (nI_ltI (by omega) (by omega)).mp hc13
      omega
    subst hq
    refine lv_iconst hx hb d_Table_cellOf_64 (v := (-1)) rfl ?_
    exact rt_i hx hb hr hlocks hZ hS d_Table_cellOf_65
  · skip
    obtain ⟨f, rfl⟩ : ∃ z, f = z + 1 := ⟨f - 1, by
      have : ¬ C - 1 < C - f := fun h => hc13 ((nI_ltI (a := C - 1) (b := C - f) (by omega) (by omega)).mpr h)
      omega⟩
    rw [lk] at hZ
    refine lv_aload_n hx hb d_Table_cellOf_16 rfl (lv_at hl 0 rfl) ?_
    refine va_get (ci := 1) (C := R_Table) (T := F_Table) (N := 6) hx hb hts in_Table hown hK hP 0 rfl rfl 1 (by decide) (hts _ wk_50) (fun _ h => h) rfl d_Table_cellOf_17 ?_
    refine lv_iload_n hx hb d_Table_cellOf_20 rfl (lv_at hl 2 rfl) ?_
    refine ia_ld (i := j) hx hb hK hP 1 rfl rfl (by omega) (by omega) d_Table_cellOf_21 ?_
    refine lv_if_ne hx hb d_Table_cellOf_22 (tgt := 27) rfl (fun hc22 => ?_) (fun hc22 => ?_)
    · skip
      rw [if_neg hc22] at hZ
      refine lv_aload_n hx hb d_Table_cellOf_27 rfl (lv_at hl 0 rfl) ?_
      refine va_get (ci := 1) (C := R_Table) (T := F_Table) (N := 6) hx hb hts in_Table hown hK hP 0 rfl rfl 1 (by decide) (hts _ wk_50) (fun _ h => h) rfl d_Table_cellOf_28 ?_
      refine lv_iload_n hx hb d_Table_cellOf_31 rfl (lv_at hl 2 rfl) ?_
      refine ia_ld (i := j) hx hb hK hP 1 rfl rfl (by omega) (by omega) d_Table_cellOf_32 ?_
      refine lv_iconst hx hb d_Table_cellOf_33 (v := 1) rfl ?_
      refine lv_icmp_ne hx hb d_Table_cellOf_34 (tgt := 49) rfl (fun hc34 => ?_) (fun hc34 => ?_)
      · skip
        rw [if_neg (fun q => hc34 q.1)] at hZ
        refine W.eq (g2 := F0 m 49 ls []) rfl ?_
        refine lv_iload_n hx hb d_Table_cellOf_49 rfl (lv_at hl 2 rfl) ?_
        refine lv_iconst hx hb d_Table_cellOf_50 (v := 1) rfl ?_
        refine lv_iadd hx hb d_Table_cellOf_51 ?_
        refine lv_aload_n hx hb d_Table_cellOf_52 rfl (lv_at hl 0 rfl) ?_
        refine va_get (ci := 1) (C := R_Table) (T := F_Table) (N := 6) hx hb hts in_Table hown hK hP 0 rfl rfl 0 (by decide) (hts _ wk_49) (fun _ h => h) rfl d_Table_cellOf_53 ?_
        refine lv_iand hx hb d_Table_cellOf_56 ?_
        refine lv_asI (y := nI ((j + 1) % C)) (mk_next hC hj) ?_
        refine lv_istore_n hx hb d_Table_cellOf_57 rfl hl (by decide) rfl (fun ls hl => ?_)
        have hl : lv_has ls 4 [(2, .int (nI ((j + 1) % C))), (0, .ref t), (1, .int x), (3, .int (nI (C - (f + 1))))] := hl
        refine lv_iinc hx hb d_Table_cellOf_58 hl (k := 3) rfl (v := nI (C - f)) ((nI_1 _).trans (congrArg nI (by omega))) (by decide) rfl (fun ls hl => ?_)
        have hl : lv_has ls 4 [(3, .int (nI (C - f))), (2, .int (nI ((j + 1) % C))), (0, .ref t), (1, .int x)] := hl
        refine lv_goto hx hb d_Table_cellOf_61 (tgt := 8) rfl ?_
        exact ih8 f ((j + 1) % C) ls _ ⟨by omega, md_lt hC, hZ, lv_sub hl [2, 3, 1, 0] rfl, hS⟩ (by omega)
      · skip
        refine W.eq (g2 := F0 m 37 ls []) rfl ?_
        refine lv_aload_n hx hb d_Table_cellOf_37 rfl (lv_at hl 0 rfl) ?_
        refine va_get (ci := 1) (C := R_Table) (T := F_Table) (N := 6) hx hb hts in_Table hown hK hP 0 rfl rfl 2 (by decide) (hts _ wk_51) (fun _ h => h) rfl d_Table_cellOf_38 ?_
        refine lv_iload_n hx hb d_Table_cellOf_41 rfl (lv_at hl 2 rfl) ?_
        refine ia_ld (i := j) hx hb hK hP 2 rfl rfl (by omega) (by omega) d_Table_cellOf_42 ?_
        refine lv_iload_n hx hb d_Table_cellOf_43 rfl (lv_at hl 1 rfl) ?_
        refine lv_icmp_ne hx hb d_Table_cellOf_44 (tgt := 49) rfl (fun hc44 => ?_) (fun hc44 => ?_)
        · skip
          rw [if_neg (fun q => hc44 q.2)] at hZ
          refine lv_iload_n hx hb d_Table_cellOf_49 rfl (lv_at hl 2 rfl) ?_
          refine lv_iconst hx hb d_Table_cellOf_50 (v := 1) rfl ?_
          refine lv_iadd hx hb d_Table_cellOf_51 ?_
          refine lv_aload_n hx hb d_Table_cellOf_52 rfl (lv_at hl 0 rfl) ?_
          refine va_get (ci := 1) (C := R_Table) (T := F_Table) (N := 6) hx hb hts in_Table hown hK hP 0 rfl rfl 0 (by decide) (hts _ wk_49) (fun _ h => h) rfl d_Table_cellOf_53 ?_
          refine lv_iand hx hb d_Table_cellOf_56 ?_
          refine lv_asI (y := nI ((j + 1) % C)) (mk_next hC hj) ?_
          refine lv_istore_n hx hb d_Table_cellOf_57 rfl hl (by decide) rfl (fun ls hl => ?_)
          have hl : lv_has ls 4 [(2, .int (nI ((j + 1) % C))), (0, .ref t), (1, .int x), (3, .int (nI (C - (f + 1))))] := hl
          refine lv_iinc hx hb d_Table_cellOf_58 hl (k := 3) rfl (v := nI (C - f)) ((nI_1 _).trans (congrArg nI (by omega))) (by decide) rfl (fun ls hl => ?_)
          have hl : lv_has ls 4 [(3, .int (nI (C - f))), (2, .int (nI ((j + 1) % C))), (0, .ref t), (1, .int x)] := hl
          refine lv_goto hx hb d_Table_cellOf_61 (tgt := 8) rfl ?_
          exact ih8 f ((j + 1) % C) ls _ ⟨by omega, md_lt hC, hZ, lv_sub hl [2, 3, 1, 0] rfl, hS⟩ (by omega)
        · skip
          rw [if_pos ⟨hc34, hc44⟩] at hZ
          refine lv_iload_n hx hb d_Table_cellOf_47 rfl (lv_at hl 2 rfl) ?_
          exact rt_i hx hb hr hlocks hZ hS d_Table_cellOf_48
    · skip
      rw [if_pos hc22] at hZ
      refine lv_iconst hx hb d_Table_cellOf_25 (v := (-1)) rfl ?_
      exact rt_i hx hb hr hlocks hZ hS d_Table_cellOf_26
