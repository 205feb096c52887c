set_option maxHeartbeats 4000000 in
set_option maxRecDepth 100000 in
theorem c_hashOf (l : Launch) {dC : Nat → ClassId} {dI : Nat → Nat → Nat} {cA : ClassId} {Hp : Heap} {t am ak av aw C : Nat} {n : Int32} {M K V Wd : Nat → Int32} (x : Int32) (hP : va_P (dC, dI) cls [(t, .inr (1, [.int (nI (C - 1)), .ref am, .ref ak, .ref av, .ref aw, .int n])), (am, .inl (cA, C, .inl M)), (ak, .inl (cA, C, .inl K)), (av, .inl (cA, C, .inl V)), (aw, .inl (cA, 4, .inl Wd))] Hp) : Met l y_Table_hashOf (.code y_Table_hashOf b_Table_hashOf 17 (some .long) :: BG) ({ frames := 1, cells := 0, slots := 0, locals := 22 }) (pRO dC dI cA [.ref t, .int x] Hp) (qRl (hwd Wd x) Hp) 0 0 (fun _ => False) := by
  refine Met.ofW (cc := b_Table_hashOf) (maxL := 17) (ret := some .long) (by decide) rfl ?_
  intro p e s m args below meth c s₁ B hml hv
  obtain ⟨rfl, rfl, hK⟩ := hv
  have hx := B.exec
  have hb := B.bytes
  have hr := B.returns
  have hts : ∀ w ∈ BG, w.before _ s = true := fun w h => atoms_spec (ws := .code y_Table_hashOf b_Table_hashOf 17 (some .long) :: BG) B.pre w (List.mem_cons_of_mem _ h)
  have hown : s.vm.findClass R_Table = some m.cls := findClass_of_methodNamed B.named
  have hlocks := B.notSynchronized
  have hS : va_S (fun _ => False) s.heap s.heap [] := va_S.rf
  have hl := lv_entry ([.ref t, .int x]) (n := 17) (Nat.le_of_ble_eq_true rfl)
  rw [lg_entry_eq]
  generalize (lg_sl ([.ref t, .int x]) ++ List.replicate (17 - (lg_sl ([.ref t, .int x])).length) Slot.unset).toArray = ls at hl ⊢
  have hl : lv_has ls 17 [(0, .ref t), (1, .int x)] := hl
  refine lv_aload_n hx hb d_Table_hashOf_0 rfl (lv_at hl 0 rfl) ?_
  refine va_get (ci := 1) (C := R_Table) (T := F_Table) (N := 6) hx hb hts in_Table hown hK hP 0 rfl rfl 4 (by decide) (hts _ wk_53) (fun _ h => h) rfl d_Table_hashOf_1 ?_
  refine lv_iconst hx hb d_Table_hashOf_4 (v := 0) rfl ?_
  refine ia_ld (i := 0) hx hb hK hP 4 rfl rfl (by decide) (by decide) d_Table_hashOf_5 ?_
  refine lv_aload_n hx hb d_Table_hashOf_6 rfl (lv_at hl 0 rfl) ?_
  refine va_get (ci := 1) (C := R_Table) (T := F_Table) (N := 6) hx hb hts in_Table hown hK hP 0 rfl rfl 4 (by decide) (hts _ wk_53) (fun _ h => h) rfl d_Table_hashOf_7 ?_
  refine lv_iconst hx hb d_Table_hashOf_10 (v := 1) rfl ?_
  refine ia_ld (i := 1) hx hb hK hP 4 rfl rfl (by decide) (by decide) d_Table_hashOf_11 ?_
  refine ro_l (va_runS (As := [.int (Wd 0), .int (Wd 1)]) (rest := []) ⟨hx, hb, hml, hown, hts⟩ (c_joined l (Wd 0) (Wd 1)) (cwS 2 hts g_Table_31 rfl rfl rfl (by decide +kernel) ⟨Nat.le_of_ble_eq_true rfl, Nat.le_of_ble_eq_true rfl⟩) ⟨bl_J, fun U hU hW => ⟨rfl, hU⟩⟩ rfl rfl hl.1 rfl (lv_room (Nat.le_of_ble_eq_true rfl)) d_Table_hashOf_12 ⟨Nat.zero_le _, Nat.zero_le _⟩) hS (fun locs hS => ?_)
  refine lv_lstore_n hx hb d_Table_hashOf_15 rfl hl (by decide) rfl (fun ls hl => ?_)
  have hl : lv_has ls 17 [(2, .long (jn (Wd 0) (Wd 1))), (0, .ref t), (1, .int x)] := hl
  refine lv_aload_n hx hb d_Table_hashOf_16 rfl (lv_at hl 1 rfl) ?_
  refine va_get (ci := 1) (C := R_Table) (T := F_Table) (N := 6) hx hb hts in_Table hown hK hP 0 rfl rfl 4 (by decide) (hts _ wk_53) (fun _ h => h) rfl d_Table_hashOf_17 ?_
  refine lv_iconst hx hb d_Table_hashOf_20 (v := 2) rfl ?_
  refine ia_ld (i := 2) hx hb hK hP 4 rfl rfl (by decide) (by decide) d_Table_hashOf_21 ?_
  refine lv_aload_n hx hb d_Table_hashOf_22 rfl (lv_at hl 1 rfl) ?_
  refine W.eq (g2 := F0 m 23 ls [.ref t, .int (Wd 2)]) rfl ?_
  refine va_get (ci := 1) (C := R_Table) (T := F_Table) (N := 6) hx hb hts in_Table hown hK hP 0 rfl rfl 4 (by decide) (hts _ wk_53) (fun _ h => h) rfl d_Table_hashOf_23 ?_
  refine lv_iconst hx hb d_Table_hashOf_26 (v := 3) rfl ?_
  refine ia_ld (i := 3) hx hb hK hP 4 rfl rfl (by decide) (by decide) d_Table_hashOf_27 ?_
  refine ro_l (va_runS (As := [.int (Wd 2), .int (Wd 3)]) (rest := []) ⟨hx, hb, hml, hown, hts⟩ (c_joined l (Wd 2) (Wd 3)) (cwS 2 hts g_Table_31 rfl rfl rfl (by decide +kernel) ⟨Nat.le_of_ble_eq_true rfl, Nat.le_of_ble_eq_true rfl⟩) ⟨bl_J, fun U hU hW => ⟨rfl, hU⟩⟩ rfl rfl hl.1 rfl (lv_room (Nat.le_of_ble_eq_true rfl)) d_Table_hashOf_28 ⟨Nat.zero_le _, Nat.zero_le _⟩) hS (fun locs hS => ?_)
  refine lv_lstore hx hb d_Table_hashOf_31 hl (by decide) rfl (fun ls hl => ?_)
  have hl : lv_has ls 17 [(4, .long (jn (Wd 2) (Wd 3))), (2, .long (jn (Wd 0) (Wd 1))), (0, .ref t), (1, .int x)] := hl
  refine lv_iload_n hx hb d_Table_hashOf_33 rfl (lv_at hl 3 rfl) ?_
  refine lv_ldc hx hb hown (hts _ wk_107) d_Table_hashOf_34 ?_
  refine ro_l (va_runS (As := [.int x, .int 67108864]) (rest := []) ⟨hx, hb, hml, hown, hts⟩ (c_joined l x 67108864) (cwS 2 hts g_Table_31 rfl rfl rfl (by decide +kernel) ⟨Nat.le_of_ble_eq_true rfl, Nat.le_of_ble_eq_true rfl⟩) ⟨bl_J, fun U hU hW => ⟨rfl, hU⟩⟩ rfl rfl hl.1 rfl (lv_room (Nat.le_of_ble_eq_true rfl)) d_Table_hashOf_36 ⟨Nat.zero_le _, Nat.zero_le _⟩) hS (fun locs hS => ?_)
  refine lv_lstore hx hb d_Table_hashOf_39 hl (by decide) rfl (fun ls hl => ?_)
  have hl : lv_has ls 17 [(6, .long (jn x 67108864)), (4, .long (jn (Wd 2) (Wd 3))), (2, .long (jn (Wd 0) (Wd 1))), (0, .ref t), (1, .int x)] := hl
  refine lv_lload_n hx hb d_Table_hashOf_41 rfl (lv_at hl 2 rfl) ?_
  refine lv_ldc2 hx hb hown (hts _ wk_108) d_Table_hashOf_42 ?_
  refine lv_lxor hx hb d_Table_hashOf_45 ?_
  refine lv_lstore hx hb d_Table_hashOf_46 hl (by decide) rfl (fun ls hl => ?_)
  have hl : lv_has ls 17 [(8, .long ((jn (Wd 0) (Wd 1)) ^^^ 8317987319222330741)), (6, .long (jn x 67108864)), (4, .long (jn (Wd 2) (Wd 3))), (2, .long (jn (Wd 0) (Wd 1))), (0, .ref t), (1, .int x)] := hl
  refine lv_lload hx hb d_Table_hashOf_48 (lv_at hl 2 rfl) ?_
  refine lv_ldc2 hx hb hown (hts _ wk_109) d_Table_hashOf_50 ?_
  refine lv_lxor hx hb d_Table_hashOf_53 ?_
  refine W.eq (g2 := F0 m 54 ls [.long ((jn (Wd 2) (Wd 3)) ^^^ 7237128888997146477)]) rfl ?_
  refine lv_lstore hx hb d_Table_hashOf_54 hl (by decide) rfl (fun ls hl => ?_)
  have hl : lv_has ls 17 [(10, .long ((jn (Wd 2) (Wd 3)) ^^^ 7237128888997146477)), (8, .long ((jn (Wd 0) (Wd 1)) ^^^ 8317987319222330741)), (6, .long (jn x 67108864)), (4, .long (jn (Wd 2) (Wd 3))), (2, .long (jn (Wd 0) (Wd 1))), (0, .ref t), (1, .int x)] := hl
  refine lv_lload_n hx hb d_Table_hashOf_56 rfl (lv_at hl 4 rfl) ?_
  refine lv_ldc2 hx hb hown (hts _ wk_110) d_Table_hashOf_57 ?_
  refine lv_lxor hx hb d_Table_hashOf_60 ?_
  refine lv_lstore hx hb d_Table_hashOf_61 hl (by decide) rfl (fun ls hl => ?_)
  have hl : lv_has ls 17 [(12, .long ((jn (Wd 0) (Wd 1)) ^^^ 7816392313619706465)), (10, .long ((jn (Wd 2) (Wd 3)) ^^^ 7237128888997146477)), (8, .long ((jn (Wd 0) (Wd 1)) ^^^ 8317987319222330741)), (6, .long (jn x 67108864)), (4, .long (jn (Wd 2) (Wd 3))), (2, .long (jn (Wd 0) (Wd 1))), (0, .ref t), (1, .int x)] := hl
  refine lv_lload hx hb d_Table_hashOf_63 (lv_at hl 4 rfl) ?_
  refine lv_ldc2 hx hb hown (hts _ wk_111) d_Table_hashOf_65 ?_
  refine lv_lxor hx hb d_Table_hashOf_68 ?_
  refine lv_lload hx hb d_Table_hashOf_69 (lv_at hl 3 rfl) ?_
  refine lv_lxor hx hb d_Table_hashOf_71 ?_
  refine lv_lstore hx hb d_Table_hashOf_72 hl (by decide) rfl (fun ls hl => ?_)
  have hl : lv_has ls 17 [(14, .long (((jn (Wd 2) (Wd 3)) ^^^ 8387220255154660723) ^^^ (jn x 67108864))), (12, .long ((jn (Wd 0) (Wd 1)) ^^^ 7816392313619706465)), (10, .long ((jn (Wd 2) (Wd 3)) ^^^ 7237128888997146477)), (8, .long ((jn (Wd 0) (Wd 1)) ^^^ 8317987319222330741)), (6, .long (jn x 67108864)), (4, .long (jn (Wd 2) (Wd 3))), (2, .long (jn (Wd 0) (Wd 1))), (0, .ref t), (1, .int x)] := hl
  refine lv_iconst hx hb d_Table_hashOf_74 (v := 1) rfl ?_
  refine lv_istore hx hb d_Table_hashOf_75 hl (by decide) rfl (fun ls hl => ?_)
  have hl : lv_has ls 17 [(16, .int 1), (14, .long (((jn (Wd 2) (Wd 3)) ^^^ 8387220255154660723) ^^^ (jn x 67108864))), (12, .long ((jn (Wd 0) (Wd 1)) ^^^ 7816392313619706465)), (10, .long ((jn (Wd 2) (Wd 3)) ^^^ 7237128888997146477)), (8, .long ((jn (Wd 0) (Wd 1)) ^^^ 8317987319222330741)), (6, .long (jn x 67108864)), (4, .long (jn (Wd 2) (Wd 3))), (2, .long (jn (Wd 0) (Wd 1))), (0, .ref t), (1, .int x)] := hl
  refine W.eq (g2 := F0 m 77 ls []) rfl ?_
  refine lr5 (fun (f : Nat) (x1 : Int64) (x2 : Int64) (x3 : Int64) (x4 : Int64) => f) (fun (f : Nat) (x1 : Int64) (x2 : Int64) (x3 : Int64) (x4 : Int64) ls locs => (f ≤ 4) ∧ (hk (jn x 67108864) f (x1, x2, x3, x4) = hwd Wd x) ∧ lv_has ls 17 [(0, .ref t), (6, .long (jn x 67108864)), (8, .long x1), (10, .long x2), (12, .long x3), (14, .long x4), (16, .int (nI (5 - f)))] ∧ va_S (fun _ => False) s.heap s.heap locs) (fun f x1 x2 x3 x4 ls locs hE ih77 => ?_) 4 (jn (Wd 0) (Wd 1) ^^^ 8317987319222330741) (jn (Wd 2) (Wd 3) ^^^ 7237128888997146477) (jn (Wd 0) (Wd 1) ^^^ 7816392313619706465) (jn (Wd 2) (Wd 3) ^^^ 8387220255154660723 ^^^ jn x 67108864) ls _ ⟨by decide, rfl, lv_sub hl [8, 5, 4, 3, 2, 1, 0] rfl, hS⟩
  obtain ⟨hf, hZ, hl, hS⟩ := hE
  refine lv_iload hx hb d_Table_hashOf_77 (lv_at hl 6 rfl) ?_
  refine lv_iconst hx hb d_Table_hashOf_79 (v := (nI 4)) rfl ?_
  refine lv_icmp_gt hx hb d_Table_hashOf_80 (tgt := 204) rfl (fun hc80 => ?_) (fun hc80 => ?_)
  · skip
    have hq : f = 0 := by
      have := (nI_ltI (by omega) (by omega)).mp hc80
      omega
    subst hq
    refine lv_lload hx hb d_Table_hashOf_204 (lv_at hl 2 rfl) ?_
    refine lv_lload hx hb d_Table_hashOf_206 (lv_at hl 3 rfl) ?_
    refine lv_lxor hx hb d_Table_hashOf_208 ?_
    refine lv_lload hx hb d_Table_hashOf_209 (lv_at hl 4 rfl) ?_
    refine lv_lxor hx hb d_Table_hashOf_211 ?_
    refine lv_lload hx hb d_Table_hashOf_212 (lv_at hl 5 rfl) ?_
    refine lv_lxor hx hb d_Table_hashOf_214 ?_
    exact rt_l hx hb hr hlocks hZ hS d_Table_hashOf_215
  · skip
    obtain ⟨f, rfl⟩ : ∃ z, f = z + 1 := ⟨f - 1, by
      have : ¬ 4 < 5 - f := fun h => hc80 ((nI_ltI (a := 4) (b := 5 - f) (by omega) (by omega)).mpr h)
      omega⟩
    refine lv_lload hx hb d_Table_hashOf_83 (lv_at hl 2 rfl) ?_
    refine lv_lload hx hb d_Table_hashOf_85 (lv_at hl 3 rfl) ?_
    refine lv_ladd hx hb d_Table_hashOf_87 ?_
    refine lv_lstore hx hb d_Table_hashOf_88 hl (by decide) rfl (fun ls hl => ?_)
    have hl : lv_has ls 17 [(8, .long (x1 + x2)), (0, .ref t), (6, .long (jn x 67108864)), (10, .long x2), (12, .long x3), (14, .long x4), (16, .int (nI (5 - (f + 1))))] := hl
    refine lv_lload hx hb d_Table_hashOf_90 (lv_at hl 3 rfl) ?_
    refine lv_bipush hx hb d_Table_hashOf_92 (v := 13) rfl ?_
    refine ro_l (va_runS (As := [.long x2, .int 13]) (rest := []) ⟨hx, hb, hml, hown, hts⟩ (c_rotL l x2 13) (⟨callB_of 2 hts g_Table_44 rfl rfl rfl (hts _ wk_7) (hts _ wk_112) (by decide +kernel) ⟨Nat.le_of_ble_eq_true rfl, Nat.le_of_ble_eq_true rfl⟩, hts _ wk_113⟩) ⟨bl_J, fun U hU hW => ⟨rfl, hU⟩⟩ rfl rfl hl.1 rfl (lv_room (Nat.le_of_ble_eq_true rfl)) d_Table_hashOf_94 ⟨Nat.zero_le _, Nat.zero_le _⟩) hS (fun locs hS => ?_)
    refine lv_lload hx hb d_Table_hashOf_97 (lv_at hl 0 rfl) ?_
    refine lv_lxor hx hb d_Table_hashOf_99 ?_
    refine lv_lstore hx hb d_Table_hashOf_100 hl (by decide) rfl (fun ls hl => ?_)
    have hl : lv_has ls 17 [(10, .long ((rl64 x2 13) ^^^ (x1 + x2))), (8, .long (x1 + x2)), (0, .ref t), (6, .long (jn x 67108864)), (12, .long x3), (14, .long x4), (16, .int (nI (5 - (f + 1))))] := hl
    refine lv_lload hx hb d_Table_hashOf_102 (lv_at hl 1 rfl) ?_
    refine lv_bipush hx hb d_Table_hashOf_104 (v := 32) rfl ?_
    refine W.eq (g2 := F0 m 106 ls [.int 32, .long (x1 + x2)]) rfl ?_
    refine ro_l (va_runS (As := [.long (x1 + x2), .int 32]) (rest := []) ⟨hx, hb, hml, hown, hts⟩ (c_rotL l (x1 + x2) 32) (⟨callB_of 2 hts g_Table_44 rfl rfl rfl (hts _ wk_7) (hts _ wk_112) (by decide +kernel) ⟨Nat.le_of_ble_eq_true rfl, Nat.le_of_ble_eq_true rfl⟩, hts _ wk_113⟩) ⟨bl_J, fun U hU hW => ⟨rfl, hU⟩⟩ rfl rfl hl.1 rfl (lv_room (Nat.le_of_ble_eq_true rfl)) d_Table_hashOf_106 ⟨Nat.zero_le _, Nat.zero_le _⟩) hS (fun locs hS => ?_)
    refine lv_lstore hx hb d_Table_hashOf_109 hl (by decide) rfl (fun ls hl => ?_)
    have hl : lv_has ls 17 [(8, .long (rl64 (x1 + x2) 32)), (10, .long ((rl64 x2 13) ^^^ (x1 + x2))), (0, .ref t), (6, .long (jn x 67108864)), (12, .long x3), (14, .long x4), (16, .int (nI (5 - (f + 1))))] := hl
    refine lv_lload hx hb d_Table_hashOf_111 (lv_at hl 4 rfl) ?_
    refine lv_lload hx hb d_Table_hashOf_113 (lv_at hl 5 rfl) ?_
    refine lv_ladd hx hb d_Table_hashOf_115 ?_
    refine lv_lstore hx hb d_Table_hashOf_116 hl (by decide) rfl (fun ls hl => ?_)
    have hl : lv_has ls 17 [(12, .long (x3 + x4)), (8, .long (rl64 (x1 + x2) 32)), (10, .long ((rl64 x2 13) ^^^ (x1 + x2))), (0, .ref t), (6, .long (jn x 67108864)), (14, .long x4), (16, .int (nI (5 - (f + 1))))] := hl
    refine lv_lload hx hb d_Table_hashOf_118 (lv_at hl 5 rfl) ?_
    refine lv_bipush hx hb d_Table_hashOf_120 (v := 16) rfl ?_
    refine ro_l (va_runS (As := [.long x4, .int 16]) (rest := []) ⟨hx, hb, hml, hown, hts⟩ (c_rotL l x4 16) (⟨callB_of 2 hts g_Table_44 rfl rfl rfl (hts _ wk_7) (hts _ wk_112) (by decide +kernel) ⟨Nat.le_of_ble_eq_true rfl, Nat.le_of_ble_eq_true rfl⟩, hts _ wk_113⟩) ⟨bl_J, fun U hU hW => ⟨rfl, hU⟩⟩ rfl rfl hl.1 rfl (lv_room (Nat.le_of_ble_eq_true rfl)) d_Table_hashOf_122 ⟨Nat.zero_le _, Nat.zero_le _⟩) hS (fun locs hS => ?_)
    refine lv_lload hx hb d_Table_hashOf_125 (lv_at hl 0 rfl) ?_
    refine lv_lxor hx hb d_Table_hashOf_127 ?_
    refine lv_lstore hx hb d_Table_hashOf_128 hl (by decide) rfl (fun ls hl => ?_)
    have hl : lv_has ls 17 [(14, .long ((rl64 x4 16) ^^^ (x3 + x4))), (12, .long (x3 + x4)), (8, .long (rl64 (x1 + x2) 32)), (10, .long ((rl64 x2 13) ^^^ (x1 + x2))), (0, .ref t), (6, .long (jn x 67108864)), (16, .int (nI (5 - (f + 1))))] := hl
    refine lv_lload hx hb d_Table_hashOf_130 (lv_at hl 2 rfl) ?_
    refine lv_lload hx hb d_Table_hashOf_132 (lv_at hl 0 rfl) ?_
    refine lv_ladd hx hb d_Table_hashOf_134 ?_
    refine lv_lstore hx hb d_Table_hashOf_135 hl (by decide) rfl (fun ls hl => ?_)
    have hl : lv_has ls 17 [(8, .long ((rl64 (x1 + x2) 32) + ((rl64 x4 16) ^^^ (x3 + x4)))), (14, .long ((rl64 x4 16) ^^^ (x3 + x4))), (12, .long (x3 + x4)), (10, .long ((rl64 x2 13) ^^^ (x1 + x2))), (0, .ref t), (6, .long (jn x 67108864)), (16, .int (nI (5 - (f + 1))))] := hl
    refine W.eq (g2 := F0 m 137 ls []) rfl ?_
    refine lv_lload hx hb d_Table_hashOf_137 (lv_at hl 1 rfl) ?_
    refine lv_bipush hx hb d_Table_hashOf_139 (v := 21) rfl ?_
    refine ro_l (va_runS (As := [.long ((rl64 x4 16) ^^^ (x3 + x4)), .int 21]) (rest := []) ⟨hx, hb, hml, hown, hts⟩ (c_rotL l ((rl64 x4 16) ^^^ (x3 + x4)) 21) (⟨callB_of 2 hts g_Table_44 rfl rfl rfl (hts _ wk_7) (hts _ wk_112) (by decide +kernel) ⟨Nat.le_of_ble_eq_true rfl, Nat.le_of_ble_eq_true rfl⟩, hts _ wk_113⟩) ⟨bl_J, fun U hU hW => ⟨rfl, hU⟩⟩ rfl rfl hl.1 rfl (lv_room (Nat.le_of_ble_eq_true rfl)) d_Table_hashOf_141 ⟨Nat.zero_le _, Nat.zero_le _⟩) hS (fun locs hS => ?_)
    refine lv_lload hx hb d_Table_hashOf_144 (lv_at hl 0 rfl) ?_
    refine lv_lxor hx hb d_Table_hashOf_146 ?_
    refine lv_lstore hx hb d_Table_hashOf_147 hl (by decide) rfl (fun ls hl => ?_)
    have hl : lv_has ls 17 [(14, .long ((rl64 ((rl64 x4 16) ^^^ (x3 + x4)) 21) ^^^ ((rl64 (x1 + x2) 32) + ((rl64 x4 16) ^^^ (x3 + x4))))), (8, .long ((rl64 (x1 + x2) 32) + ((rl64 x4 16) ^^^ (x3 + x4)))), (12, .long (x3 + x4)), (10, .long ((rl64 x2 13) ^^^ (x1 + x2))), (0, .ref t), (6, .long (jn x 67108864)), (16, .int (nI (5 - (f + 1))))] := hl
    refine lv_lload hx hb d_Table_hashOf_149 (lv_at hl 2 rfl) ?_
    refine lv_lload hx hb d_Table_hashOf_151 (lv_at hl 3 rfl) ?_
    refine lv_ladd hx hb d_Table_hashOf_153 ?_
    refine lv_lstore hx hb d_Table_hashOf_154 hl (by decide) rfl (fun ls hl => ?_)
    have hl : lv_has ls 17 [(12, .long ((x3 + x4) + ((rl64 x2 13) ^^^ (x1 + x2)))), (14, .long ((rl64 ((rl64 x4 16) ^^^ (x3 + x4)) 21) ^^^ ((rl64 (x1 + x2) 32) + ((rl64 x4 16) ^^^ (x3 + x4))))), (8, .long ((rl64 (x1 + x2) 32) + ((rl64 x4 16) ^^^ (x3 + x4)))), (10, .long ((rl64 x2 13) ^^^ (x1 + x2))), (0, .ref t), (6, .long (jn x 67108864)), (16, .int (nI (5 - (f + 1))))] := hl
    refine lv_lload hx hb d_Table_hashOf_156 (lv_at hl 3 rfl) ?_
    refine lv_bipush hx hb d_Table_hashOf_158 (v := 17) rfl ?_
    refine ro_l (va_runS (As := [.long ((rl64 x2 13) ^^^ (x1 + x2)), .int 17]) (rest := []) ⟨hx, hb, hml, hown, hts⟩ (c_rotL l ((rl64 x2 13) ^^^ (x1 + x2)) 17) (⟨callB_of 2 hts g_Table_44 rfl rfl rfl (hts _ wk_7) (hts _ wk_112) (by decide +kernel) ⟨Nat.le_of_ble_eq_true rfl, Nat.le_of_ble_eq_true rfl⟩, hts _ wk_113⟩) ⟨bl_J, fun U hU hW => ⟨rfl, hU⟩⟩ rfl rfl hl.1 rfl (lv_room (Nat.le_of_ble_eq_true rfl)) d_Table_hashOf_160 ⟨Nat.zero_le _, Nat.zero_le _⟩) hS (fun locs hS => ?_)
    refine lv_lload hx hb d_Table_hashOf_163 (lv_at hl 0 rfl) ?_
    refine lv_lxor hx hb d_Table_hashOf_165 ?_
    refine lv_lstore hx hb d_Table_hashOf_166 hl (by decide) rfl (fun ls hl => ?_)
    have hl : lv_has ls 17 [(10, .long ((rl64 ((rl64 x2 13) ^^^ (x1 + x2)) 17) ^^^ ((x3 + x4) + ((rl64 x2 13) ^^^ (x1 + x2))))), (12, .long ((x3 + x4) + ((rl64 x2 13) ^^^ (x1 + x2)))), (14, .long ((rl64 ((rl64 x4 16) ^^^ (x3 + x4)) 21) ^^^ ((rl64 (x1 + x2) 32) + ((rl64 x4 16) ^^^ (x3 + x4))))), (8, .long ((rl64 (x1 + x2) 32) + ((rl64 x4 16) ^^^ (x3 + x4)))), (0, .ref t), (6, .long (jn x 67108864)), (16, .int (nI (5 - (f + 1))))] := hl
    refine W.eq (g2 := F0 m 168 ls []) rfl ?_
    refine lv_lload hx hb d_Table_hashOf_168 (lv_at hl 1 rfl) ?_
    refine lv_bipush hx hb d_Table_hashOf_170 (v := 32) rfl ?_
    refine ro_l (va_runS (As := [.long ((x3 + x4) + ((rl64 x2 13) ^^^ (x1 + x2))), .int 32]) (rest := []) ⟨hx, hb, hml, hown, hts⟩ (c_rotL l ((x3 + x4) + ((rl64 x2 13) ^^^ (x1 + x2))) 32) (⟨callB_of 2 hts g_Table_44 rfl rfl rfl (hts _ wk_7) (hts _ wk_112) (by decide +kernel) ⟨Nat.le_of_ble_eq_true rfl, Nat.le_of_ble_eq_true rfl⟩, hts _ wk_113⟩) ⟨bl_J, fun U hU hW => ⟨rfl, hU⟩⟩ rfl rfl hl.1 rfl (lv_room (Nat.le_of_ble_eq_true rfl)) d_Table_hashOf_172 ⟨Nat.zero_le _, Nat.zero_le _⟩) hS (fun locs hS => ?_)
    refine lv_lstore hx hb d_Table_hashOf_175 hl (by decide) rfl (fun ls hl => ?_)
    have hl : lv_has ls 17 [(12, .long (rl64 ((x3 + x4) + ((rl64 x2 13) ^^^ (x1 + x2))) 32)), (10, .long ((rl64 ((rl64 x2 13) ^^^ (x1 + x2)) 17) ^^^ ((x3 + x4) + ((rl64 x2 13) ^^^ (x1 + x2))))), (14, .long ((rl64 ((rl64 x4 16) ^^^ (x3 + x4)) 21) ^^^ ((rl64 (x1 + x2) 32) + ((rl64 x4 16) ^^^ (x3 + x4))))), (8, .long ((rl64 (x1 + x2) 32) + ((rl64 x4 16) ^^^ (x3 + x4)))), (0, .ref t), (6, .long (jn x 67108864)), (16, .int (nI (5 - (f + 1))))] := hl
    refine lv_iload hx hb d_Table_hashOf_177 (lv_at hl 6 rfl) ?_
    refine lv_iconst hx hb d_Table_hashOf_179 (v := (nI 1)) rfl ?_
    refine lv_icmp_ne hx hb d_Table_hashOf_180 (tgt := 198) rfl (fun hc180 => ?_) (fun hc180 => ?_)
    · skip
      have hq : ¬ f = 3 := fun h => hc180 (by subst h; rfl)
      have hZ := (show hk (jn x 67108864) f (if f = 3 then sx (jn x 67108864) (sr (x1, x2, x3, x4)) else sr (x1, x2, x3, x4)) = hwd Wd x from hZ)
      rw [if_neg hq] at hZ
      refine lv_iinc hx hb d_Table_hashOf_198 hl (k := 6) rfl (v := nI (5 - f)) ((nI_1 _).trans (congrArg nI (by omega))) (by decide) rfl (fun ls hl => ?_)
      have hl : lv_has ls 17 [(16, .int (nI (5 - f))), (12, .long (rl64 ((x3 + x4) + ((rl64 x2 13) ^^^ (x1 + x2))) 32)), (10, .long ((rl64 ((rl64 x2 13) ^^^ (x1 + x2)) 17) ^^^ ((x3 + x4) + ((rl64 x2 13) ^^^ (x1 + x2))))), (14, .long ((rl64 ((rl64 x4 16) ^^^ (x3 + x4)) 21) ^^^ ((rl64 (x1 + x2) 32) + ((rl64 x4 16) ^^^ (x3 + x4))))), (8, .long ((rl64 (x1 + x2) 32) + ((rl64 x4 16) ^^^ (x3 + x4)))), (0, .ref t), (6, .long (jn x 67108864))] := hl
      refine lv_goto hx hb d_Table_hashOf_201 (tgt := 77) rfl ?_
      exact ih77 f ((rl64 (x1 + x2) 32) + ((rl64 x4 16) ^^^ (x3 + x4))) ((rl64 ((rl64 x2 13) ^^^ (x1 + x2)) 17) ^^^ ((x3 + x4) + ((rl64 x2 13) ^^^ (x1 + x2)))) (rl64 ((x3 + x4) + ((rl64 x2 13) ^^^ (x1 + x2))) 32) ((rl64 ((rl64 x4 16) ^^^ (x3 + x4)) 21) ^^^ ((rl64 (x1 + x2) 32) + ((rl64 x4 16) ^^^ (x3 + x4)))) ls _ ⟨by omega, hZ, lv_sub hl [5, 6, 4, 2, 1, 3, 0] rfl, hS⟩ (by omega)
    · skip
      have hq : f = 3 := by
        have := (nI_eq (a := 5 - (f + 1)) (b := 1) (by omega) (by omega)).mp hc180
        omega
      have hZ := (show hk (jn x 67108864) f (if f = 3 then sx (jn x 67108864) (sr (x1, x2, x3, x4)) else sr (x1, x2, x3, x4)) = hwd Wd x from hZ)
      rw [if_pos hq] at hZ
      refine lv_lload hx hb d_Table_hashOf_183 (lv_at hl 3 rfl) ?_
      refine lv_lload hx hb d_Table_hashOf_185 (lv_at hl 5 rfl) ?_
      refine lv_lxor hx hb d_Table_hashOf_187 ?_
      refine lv_lstore hx hb d_Table_hashOf_188 hl (by decide) rfl (fun ls hl => ?_)
      have hl : lv_has ls 17 [(8, .long (((rl64 (x1 + x2) 32) + ((rl64 x4 16) ^^^ (x3 + x4))) ^^^ (jn x 67108864))), (12, .long (rl64 ((x3 + x4) + ((rl64 x2 13) ^^^ (x1 + x2))) 32)), (10, .long ((rl64 ((rl64 x2 13) ^^^ (x1 + x2)) 17) ^^^ ((x3 + x4) + ((rl64 x2 13) ^^^ (x1 + x2))))), (14, .long ((rl64 ((rl64 x4 16) ^^^ (x3 + x4)) 21) ^^^ ((rl64 (x1 + x2) 32) + ((rl64 x4 16) ^^^ (x3 + x4))))), (0, .ref t), (6, .long (jn x 67108864)), (16, .int (nI (5 - (f + 1))))] := hl
      refine lv_lload hx hb d_Table_hashOf_190 (lv_at hl 1 rfl) ?_
      refine lv_ldc2 hx hb hown (hts _ wk_115) d_Table_hashOf_192 ?_
      refine lv_lxor hx hb d_Table_hashOf_195 ?_
      refine lv_lstore hx hb d_Table_hashOf_196 hl (by decide) rfl (fun ls hl => ?_)
      have hl : lv_has ls 17 [(12, .long ((rl64 ((x3 + x4) + ((rl64 x2 13) ^^^ (x1 + x2))) 32) ^^^ 255)), (8, .long (((rl64 (x1 + x2) 32) + ((rl64 x4 16) ^^^ (x3 + x4))) ^^^ (jn x 67108864))), (10, .long ((rl64 ((rl64 x2 13) ^^^ (x1 + x2)) 17) ^^^ ((x3 + x4) + ((rl64 x2 13) ^^^ (x1 + x2))))), (14, .long ((rl64 ((rl64 x4 16) ^^^ (x3 + x4)) 21) ^^^ ((rl64 (x1 + x2) 32) + ((rl64 x4 16) ^^^ (x3 + x4))))), (0, .ref t), (6, .long (jn x 67108864)), (16, .int (nI (5 - (f + 1))))] := hl
      refine lv_iinc hx hb d_Table_hashOf_198 hl (k := 6) rfl (v := nI (5 - f)) ((nI_1 _).trans (congrArg nI (by omega))) (by decide) rfl (fun ls hl => ?_)
      have hl : lv_has ls 17 [(16, .int (nI (5 - f))), (12, .long ((rl64 ((x3 + x4) + ((rl64 x2 13) ^^^ (x1 + x2))) 32) ^^^ 255)), (8, .long (((rl64 (x1 + x2) 32) + ((rl64 x4 16) ^^^ (x3 + x4))) ^^^ (jn x 67108864))), (10, .long ((rl64 ((rl64 x2 13) ^^^ (x1 + x2)) 17) ^^^ ((x3 + x4) + ((rl64 x2 13) ^^^ (x1 + x2))))), (14, .long ((rl64 ((rl64 x4 16) ^^^ (x3 + x4)) 21) ^^^ ((rl64 (x1 + x2) 32) + ((rl64 x4 16) ^^^ (x3 + x4))))), (0, .ref t), (6, .long (jn x 67108864))] := hl
      refine W.eq (g2 := F0 m 201 ls []) rfl ?_
      refine lv_goto hx hb d_Table_hashOf_201 (tgt := 77) rfl ?_
      exact ih77 f (((rl64 (x1 + x2) 32) + ((rl64 x4 16) ^^^ (x3 + x4))) ^^^ (jn x 67108864)) ((rl64 ((rl64 x2 13) ^^^ (x1 + x2)) 17) ^^^ ((x3 + x4) + ((rl64 x2 13) ^^^ (x1 + x2)))) ((rl64 ((x3 + x4) + ((rl64 x2 13) ^^^ (x1 + x2))) 32) ^^^ 255) ((rl64 ((rl64 x4 16) ^^^ (x3 + x4)) 21) ^^^ ((rl64 (x1 + x2) 32) + ((rl64 x4 16) ^^^ (x3 + x4)))) ls _ ⟨by omega, hZ, lv_sub hl [5, 6, 2, 3, 1, 4, 0] rfl, hS⟩ (by omega)
set_option maxHeartbeats 4000000 in
set_option maxRecDepth 100000 in
theorem c_homeOf (l : Launch) {dC : Nat → ClassId} {dI : Nat → Nat → Nat} {cA : ClassId} {Hp : Heap} {t am ak av aw C : Nat} {n : Int32} {M K V Wd : Nat → Int32} (hC : szC C) (x : Int32) (hP : va_P (dC, dI) cls [(t, .inr (1, [.int (nI (C - 1)), .ref am, .ref ak, .ref av, .ref aw, .int n])), (am, .inl (cA, C, .inl M)), (ak, .inl (cA, C, .inl K)), (av, .inl (cA, C, .inl V)), (aw, .inl (cA, 4, .inl Wd))] Hp) : Met l y_Table_homeOf (.code y_Table_homeOf b_Table_homeOf 2 (some .int) :: BG) ({ frames := 2, cells := 0, slots := 0, locals := 58 }) (pRO dC dI cA [.ref t, .int x] Hp) (qRi (nI (hm C Wd x)) Hp) 0 0 (fun _ => False) := by
  refine Met.ofW (cc := b_Table_homeOf) (maxL := 2) (ret := some .int) (by decide) rfl ?_
  intro p e s m args below meth c s₁ B hml hv
  obtain ⟨rfl, rfl, hK⟩ := hv
  have hx := B.exec
  have hb := B.bytes
  have hr := B.returns
  have hts : ∀ w ∈ BG, w.before _ s = true := fun w h => atoms_spec (ws := .code y_Table_homeOf b_Table_homeOf 2 (some .int) :: BG) B.pre w (List.mem_cons_of_mem _ h)
  have hown : s.vm.findClass R_Table = some m.cls := findClass_of_methodNamed B.named
  have hlocks := B.notSynchronized
  have hS : va_S (fun _ => False) s.heap s.heap [] := va_S.rf
  have hl := lv_entry ([.ref t, .int x]) (n := 2) (Nat.le_of_ble_eq_true rfl)
  rw [lg_entry_eq]
  generalize (lg_sl ([.ref t, .int x]) ++ List.replicate (2 - (lg_sl ([.ref t, .int x])).length) Slot.unset).toArray = ls at hl ⊢
  have hl : lv_has ls 2 [(0, .ref t), (1, .int x)] := hl
  refine lv_aload_n hx hb d_Table_homeOf_0 rfl (lv_at hl 0 rfl) ?_
  refine lv_iload_n hx hb d_Table_homeOf_1 rfl (lv_at hl 1 rfl) ?_
  refine ro_l (va_runV (As := [.int x]) (rest := []) ⟨hx, hb, hml, hown, hts⟩ (c_hashOf l x hP) (cwV 1 hts g_Table_54 rfl rfl rfl (by decide +kernel) ⟨Nat.le_of_ble_eq_true rfl, Nat.le_of_ble_eq_true rfl⟩) ⟨bl_RO, va_recv (q0 := 0) hK hP rfl rfl, fun U hU hW => ⟨rfl, hU, va_K.moved hW.alike hK⟩⟩ rfl rfl hl.1 rfl (lv_room (Nat.le_of_ble_eq_true rfl)) d_Table_homeOf_2 ⟨Nat.zero_le _, Nat.zero_le _⟩) hS (fun locs hS => ?_)
  refine lv_l2i hx hb d_Table_homeOf_5 (v := (hwd Wd x).toInt32) rfl ?_
  refine lv_aload_n hx hb d_Table_homeOf_6 rfl (lv_at hl 0 rfl) ?_
  refine va_get (ci := 1) (C := R_Table) (T := F_Table) (N := 6) hx hb hts in_Table hown hK hP 0 rfl rfl 0 (by decide) (hts _ wk_49) (fun _ h => h) rfl d_Table_homeOf_7 ?_
  refine lv_iand hx hb d_Table_homeOf_10 ?_
  exact rt_i hx hb hr hlocks (mk_andX hC _) hS d_Table_homeOf_11
