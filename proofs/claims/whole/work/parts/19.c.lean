set_option maxHeartbeats 4000000 in
set_option maxRecDepth 100000 in
theorem c_mabove (l : Launch) {dC : Nat → ClassId} {dI : Nat → Nat → Nat} {cA : ClassId} {Hp : Heap} {ob bw bm bk bv cm ck cv C : Nat} {lim lo ti mv : Int32} {v : Int32 × Int32 × Int32 × Int32} {k1 l1 k2 l2 : Int64} {z : Int64 × Int64 × Int64 × Int64} {M K V Wd OM OK OV : Nat → Int32} (hC : szC C) (hmv : mv = 0 → cnt OM C = 0) (b : Int32) (hP : va_P (dC, dI) cls [(ob, .inr (3, [.int (nI C), .int lim, .int v.1, .int v.2.1, .int v.2.2.1, .int v.2.2.2, .ref bw, .long k1, .long l1, .long k2, .long l2, .ref bm, .ref bk, .ref bv, .int mv, .ref cm, .ref ck, .ref cv, .int lo, .int ti, .long z.1, .long z.2.1, .long z.2.2.1, .long z.2.2.2])), (bw, .inl (cA, 4, .inl Wd)), (bm, .inl (cA, 128, .inl M)), (bk, .inl (cA, 128, .inl K)), (bv, .inl (cA, 128, .inl V)), (cm, .inl (cA, 128, .inl OM)), (ck, .inl (cA, 128, .inl OK)), (cv, .inl (cA, 128, .inl OV))] Hp) : Met l y_Model_above (.code y_Model_above b_Model_above 6 (some .int) :: BG) ({ frames := 0, cells := 0, slots := 0, locals := 0 }) (pRO dC dI cA [.ref ob, .int b] Hp) (qRi (abr M K OM OK b C 0 b) Hp) 0 0 (fun _ => False) := by
  refine Met.ofW (cc := b_Model_above) (maxL := 6) (ret := some .int) (by decide) rfl ?_
  intro p e s m args below meth c s₁ B hml hv
  obtain ⟨rfl, rfl, hK⟩ := hv
  have hx := B.exec
  have hb := B.bytes
  have hr := B.returns
  have hts : ∀ w ∈ BG, w.before _ s = true := fun w h => atoms_spec (ws := .code y_Model_above b_Model_above 6 (some .int) :: BG) B.pre w (List.mem_cons_of_mem _ h)
  have hown : s.vm.findClass R_Model = some m.cls := findClass_of_methodNamed B.named
  have hlocks := B.notSynchronized
  have hS : va_S (fun _ => False) s.heap s.heap [] := va_S.rf
  have hl := lv_entry ([.ref ob, .int b]) (n := 6) (Nat.le_of_ble_eq_true rfl)
  rw [lg_entry_eq]
  generalize (lg_sl ([.ref ob, .int b]) ++ List.replicate (6 - (lg_sl ([.ref ob, .int b])).length) Slot.unset).toArray = ls at hl ⊢
  have hl : lv_has ls 6 [(0, .ref ob), (1, .int b)] := hl
  have hlo := hC.lo
  have hhi := hC.hi
  refine lv_iload_n hx hb d_Model_above_0 rfl (lv_at hl 1 rfl) ?_
  refine lv_istore_n hx hb d_Model_above_1 rfl hl (by decide) rfl (fun ls hl => ?_)
  have hl : lv_has ls 6 [(2, .int b), (0, .ref ob), (1, .int b)] := hl
  refine lv_iconst hx hb d_Model_above_2 (v := (nI 0)) rfl ?_
  refine lv_istore_n hx hb d_Model_above_3 rfl hl (by decide) rfl (fun ls hl => ?_)
  have hl : lv_has ls 6 [(3, .int (nI 0)), (2, .int b), (0, .ref ob), (1, .int b)] := hl
  rw [show (nI 0 : Int32) = nI (C - C) by rw [Nat.sub_self]] at hl
  refine W.eq (g2 := F0 m 4 ls []) rfl ?_
  refine lr2 (fun (f : Nat) (x : Int32) => f) (fun (f : Nat) (x : Int32) ls locs => (f ≤ C) ∧ (abr M K OM OK b f (C - f) x = abr M K OM OK b C 0 b) ∧ lv_has ls 6 [(0, .ref ob), (1, .int b), (2, .int x), (3, .int (nI (C - f)))] ∧ va_S (fun _ => False) s.heap s.heap locs) (fun f x ls locs hE ih4 => ?_) C b ls _ ⟨Nat.le_refl _, by rw [Nat.sub_self], lv_sub hl [2, 3, 1, 0] rfl, hS⟩
  obtain ⟨hf, hZ, hl, hS⟩ := hE
  refine lv_iload_n hx hb d_Model_above_4 rfl (lv_at hl 3 rfl) ?_
  refine lv_aload_n hx hb d_Model_above_5 rfl (lv_at hl 0 rfl) ?_
  refine va_get (ci := 3) (C := R_Model) (T := F_Model) (N := 24) hx hb hts in_Model hown hK hP 0 rfl rfl 0 (by decide) (hts _ wk_236) (fun _ h => h) rfl d_Model_above_6 ?_
  refine lv_icmp_ge hx hb d_Model_above_9 (tgt := 141) rfl (fun hc9 => ?_) (fun hc9 => ?_)
  · skip
    have hq : f = 0 := by
        have := (nI_leI (by omega) (by omega)).mp hc9
        omega
    subst hq
    refine lv_iload_n hx hb d_Model_above_141 rfl (lv_at hl 2 rfl) ?_
    exact rt_i hx hb hr hlocks hZ hS d_Model_above_142
  · skip
    obtain ⟨f, rfl⟩ : ∃ y, f = y + 1 := ⟨f - 1, by
        have : ¬ C ≤ C - f := fun h => hc9 ((nI_leI (by omega) (by omega)).mpr h)
        omega⟩
    rw [abr, show C - (f + 1) + 1 = C - f by omega] at hZ
    have hk : C - (f + 1) < C := by omega
    have hk1 : C - (f + 1) + 1 = C - f := by omega
    clear hc9
    generalize C - (f + 1) = k at hZ hl hk hk1 ⊢
    refine lv_aload_n hx hb d_Model_above_12 rfl (lv_at hl 0 rfl) ?_
    refine va_get (ci := 3) (C := R_Model) (T := F_Model) (N := 24) hx hb hts in_Model hown hK hP 0 rfl rfl 11 (by decide) (hts _ wk_247) (fun _ h => h) rfl d_Model_above_13 ?_
    refine lv_iload_n hx hb d_Model_above_16 rfl (lv_at hl 3 rfl) ?_
    refine ia_ld (i := k) hx hb hK hP 2 rfl rfl (by omega) (by omega) d_Model_above_17 ?_
    refine lv_iconst hx hb d_Model_above_18 (v := 1) rfl ?_
    refine lv_icmp_ne hx hb d_Model_above_19 (tgt := 36) rfl (fun hc19 => ?_) (fun hc19 => ?_)
    · skip
      have hs : sp b x (K k) (M k) = x := if_neg (fun q => hc19 q.1)
      refine lv_iconst hx hb d_Model_above_36 (v := 0) rfl ?_
      refine lv_istore hx hb d_Model_above_37 hl (by decide) rfl (fun ls hl => ?_)
      have hl : lv_has ls 6 [(4, .int 0), (0, .ref ob), (1, .int b), (2, .int x), (3, .int (nI k))] := hl
      refine lv_iload hx hb d_Model_above_39 (lv_at hl 0 rfl) ?_
      refine lv_if_eq hx hb d_Model_above_41 (tgt := 68) rfl (fun hc => ?_) (fun hc => absurd hc (fun q => q rfl))
      refine lv_iload_n hx hb d_Model_above_68 rfl (lv_at hl 3 rfl) ?_
      refine lv_asI (y := sp b x (K k) (M k)) hs.symm ?_
      refine W.eq (g2 := F0 m 69 ls [.int (sp b x (K k) (M k))]) rfl ?_
      refine lv_istore_n hx hb d_Model_above_69 rfl hl (by decide) rfl (fun ls hl => ?_)
      have hl : lv_has ls 6 [(2, .int (sp b x (K k) (M k))), (4, .int 0), (0, .ref ob), (1, .int b), (3, .int (nI k))] := hl
      refine lv_aload_n hx hb d_Model_above_70 rfl (lv_at hl 2 rfl) ?_
      refine va_get (ci := 3) (C := R_Model) (T := F_Model) (N := 24) hx hb hts in_Model hown hK hP 0 rfl rfl 14 (by decide) (hts _ wk_250) (fun _ h => h) rfl d_Model_above_71 ?_
      refine lv_if_eq hx hb d_Model_above_74 (tgt := 101) rfl (fun hc74 => ?_) (fun hc74 => ?_)
      · skip
        have hs : sp b (sp b x (K k) (M k)) (OK k) (OM k) = (sp b x (K k) (M k)) := if_neg (fun q => cnt_zero C (hmv hc74) k hk q.1)
        refine lv_iconst hx hb d_Model_above_101 (v := 0) rfl ?_
        refine lv_istore hx hb d_Model_above_102 hl (by decide) rfl (fun ls hl => ?_)
        have hl : lv_has ls 6 [(5, .int 0), (2, .int (sp b x (K k) (M k))), (4, .int 0), (0, .ref ob), (1, .int b), (3, .int (nI k))] := hl
        refine lv_iload hx hb d_Model_above_104 (lv_at hl 0 rfl) ?_
        refine lv_if_eq hx hb d_Model_above_106 (tgt := 133) rfl (fun hc => ?_) (fun hc => absurd hc (fun q => q rfl))
        refine lv_iload_n hx hb d_Model_above_133 rfl (lv_at hl 1 rfl) ?_
        refine lv_asI (y := sp b (sp b x (K k) (M k)) (OK k) (OM k)) hs.symm ?_
        refine lv_istore_n hx hb d_Model_above_134 rfl hl (by decide) rfl (fun ls hl => ?_)
        have hl : lv_has ls 6 [(2, .int (sp b (sp b x (K k) (M k)) (OK k) (OM k))), (5, .int 0), (4, .int 0), (0, .ref ob), (1, .int b), (3, .int (nI k))] := hl
        refine lv_iinc hx hb d_Model_above_135 hl (k := 5) rfl (v := nI (C - f)) ((nI_1 _).trans (congrArg nI hk1)) (by decide) rfl (fun ls hl => ?_)
        have hl : lv_has ls 6 [(3, .int (nI (C - f))), (2, .int (sp b (sp b x (K k) (M k)) (OK k) (OM k))), (5, .int 0), (4, .int 0), (0, .ref ob), (1, .int b)] := hl
        refine lv_goto hx hb d_Model_above_138 (tgt := 4) rfl ?_
        exact ih4 f (sp b (sp b x (K k) (M k)) (OK k) (OM k)) ls _ ⟨by omega, hZ, lv_sub hl [4, 5, 1, 0] rfl, hS⟩ (by omega)
      · skip
        refine lv_aload_n hx hb d_Model_above_77 rfl (lv_at hl 2 rfl) ?_
        refine va_get (ci := 3) (C := R_Model) (T := F_Model) (N := 24) hx hb hts in_Model hown hK hP 0 rfl rfl 15 (by decide) (hts _ wk_251) (fun _ h => h) rfl d_Model_above_78 ?_
        refine lv_iload_n hx hb d_Model_above_81 rfl (lv_at hl 4 rfl) ?_
        refine ia_ld (i := k) hx hb hK hP 5 rfl rfl (by omega) (by omega) d_Model_above_82 ?_
        refine lv_iconst hx hb d_Model_above_83 (v := 1) rfl ?_
        refine lv_icmp_ne hx hb d_Model_above_84 (tgt := 101) rfl (fun hc84 => ?_) (fun hc84 => ?_)
        · skip
          have hs : sp b (sp b x (K k) (M k)) (OK k) (OM k) = (sp b x (K k) (M k)) := if_neg (fun q => hc84 q.1)
          refine lv_iconst hx hb d_Model_above_101 (v := 0) rfl ?_
          refine lv_istore hx hb d_Model_above_102 hl (by decide) rfl (fun ls hl => ?_)
          have hl : lv_has ls 6 [(5, .int 0), (2, .int (sp b x (K k) (M k))), (4, .int 0), (0, .ref ob), (1, .int b), (3, .int (nI k))] := hl
          refine lv_iload hx hb d_Model_above_104 (lv_at hl 0 rfl) ?_
          refine lv_if_eq hx hb d_Model_above_106 (tgt := 133) rfl (fun hc => ?_) (fun hc => absurd hc (fun q => q rfl))
          refine lv_iload_n hx hb d_Model_above_133 rfl (lv_at hl 1 rfl) ?_
          refine lv_asI (y := sp b (sp b x (K k) (M k)) (OK k) (OM k)) hs.symm ?_
          refine lv_istore_n hx hb d_Model_above_134 rfl hl (by decide) rfl (fun ls hl => ?_)
          have hl : lv_has ls 6 [(2, .int (sp b (sp b x (K k) (M k)) (OK k) (OM k))), (5, .int 0), (4, .int 0), (0, .ref ob), (1, .int b), (3, .int (nI k))] := hl
          refine W.eq (g2 := F0 m 135 ls []) rfl ?_
          refine lv_iinc hx hb d_Model_above_135 hl (k := 5) rfl (v := nI (C - f)) ((nI_1 _).trans (congrArg nI hk1)) (by decide) rfl (fun ls hl => ?_)
          have hl : lv_has ls 6 [(3, .int (nI (C - f))), (2, .int (sp b (sp b x (K k) (M k)) (OK k) (OM k))), (5, .int 0), (4, .int 0), (0, .ref ob), (1, .int b)] := hl
          refine lv_goto hx hb d_Model_above_138 (tgt := 4) rfl ?_
          exact ih4 f (sp b (sp b x (K k) (M k)) (OK k) (OM k)) ls _ ⟨by omega, hZ, lv_sub hl [4, 5, 1, 0] rfl, hS⟩ (by omega)
        · skip
          refine lv_aload_n hx hb d_Model_above_87 rfl (lv_at hl 2 rfl) ?_
          refine va_get (ci := 3) (C := R_Model) (T := F_Model) (N := 24) hx hb hts in_Model hown hK hP 0 rfl rfl 16 (by decide) (hts _ wk_252) (fun _ h => h) rfl d_Model_above_88 ?_
          refine lv_iload_n hx hb d_Model_above_91 rfl (lv_at hl 4 rfl) ?_
          refine ia_ld (i := k) hx hb hK hP 6 rfl rfl (by omega) (by omega) d_Model_above_92 ?_
          refine lv_iload_n hx hb d_Model_above_93 rfl (lv_at hl 3 rfl) ?_
          refine lv_icmp_le hx hb d_Model_above_94 (tgt := 101) rfl (fun hc94 => ?_) (fun hc94 => ?_)
          · skip
            have hs : sp b (sp b x (K k) (M k)) (OK k) (OM k) = (sp b x (K k) (M k)) := if_neg (fun q => i32_irr (Int32.lt_of_lt_of_le q.2.1 hc94))
            refine W.eq (g2 := F0 m 101 ls []) rfl ?_
            refine lv_iconst hx hb d_Model_above_101 (v := 0) rfl ?_
            refine lv_istore hx hb d_Model_above_102 hl (by decide) rfl (fun ls hl => ?_)
            have hl : lv_has ls 6 [(5, .int 0), (2, .int (sp b x (K k) (M k))), (4, .int 0), (0, .ref ob), (1, .int b), (3, .int (nI k))] := hl
            refine lv_iload hx hb d_Model_above_104 (lv_at hl 0 rfl) ?_
            refine lv_if_eq hx hb d_Model_above_106 (tgt := 133) rfl (fun hc => ?_) (fun hc => absurd hc (fun q => q rfl))
            refine lv_iload_n hx hb d_Model_above_133 rfl (lv_at hl 1 rfl) ?_
            refine lv_asI (y := sp b (sp b x (K k) (M k)) (OK k) (OM k)) hs.symm ?_
            refine lv_istore_n hx hb d_Model_above_134 rfl hl (by decide) rfl (fun ls hl => ?_)
            have hl : lv_has ls 6 [(2, .int (sp b (sp b x (K k) (M k)) (OK k) (OM k))), (5, .int 0), (4, .int 0), (0, .ref ob), (1, .int b), (3, .int (nI k))] := hl
            refine lv_iinc hx hb d_Model_above_135 hl (k := 5) rfl (v := nI (C - f)) ((nI_1 _).trans (congrArg nI hk1)) (by decide) rfl (fun ls hl => ?_)
            have hl : lv_has ls 6 [(3, .int (nI (C - f))), (2, .int (sp b (sp b x (K k) (M k)) (OK k) (OM k))), (5, .int 0), (4, .int 0), (0, .ref ob), (1, .int b)] := hl
            refine lv_goto hx hb d_Model_above_138 (tgt := 4) rfl ?_
            exact ih4 f (sp b (sp b x (K k) (M k)) (OK k) (OM k)) ls _ ⟨by omega, hZ, lv_sub hl [4, 5, 1, 0] rfl, hS⟩ (by omega)
          · skip
            have hgt94 := i32_gt hc94
            refine W.eq (g2 := F0 m 97 ls []) rfl ?_
            refine lv_iconst hx hb d_Model_above_97 (v := 1) rfl ?_
            refine lv_goto hx hb d_Model_above_98 (tgt := 102) rfl ?_
            refine lv_istore hx hb d_Model_above_102 hl (by decide) rfl (fun ls hl => ?_)
            have hl : lv_has ls 6 [(5, .int 1), (2, .int (sp b x (K k) (M k))), (4, .int 0), (0, .ref ob), (1, .int b), (3, .int (nI k))] := hl
            refine lv_iload hx hb d_Model_above_104 (lv_at hl 0 rfl) ?_
            refine lv_if_eq hx hb d_Model_above_106 (tgt := 133) rfl (fun hc => absurd hc (by decide)) (fun hc => ?_)
            refine lv_iload_n hx hb d_Model_above_109 rfl (lv_at hl 1 rfl) ?_
            refine lv_iload_n hx hb d_Model_above_110 rfl (lv_at hl 4 rfl) ?_
            refine lv_icmp_eq hx hb d_Model_above_111 (tgt := 124) rfl (fun hc111 => ?_) (fun hc111 => ?_)
            · skip
              have hs : sp b (sp b x (K k) (M k)) (OK k) (OM k) = OK k := if_pos ⟨hc84, hgt94, Or.inl hc111⟩
              refine lv_aload_n hx hb d_Model_above_124 rfl (lv_at hl 3 rfl) ?_
              refine va_get (ci := 3) (C := R_Model) (T := F_Model) (N := 24) hx hb hts in_Model hown hK hP 0 rfl rfl 16 (by decide) (hts _ wk_252) (fun _ h => h) rfl d_Model_above_125 ?_
              refine lv_iload_n hx hb d_Model_above_128 rfl (lv_at hl 5 rfl) ?_
              refine ia_ld (i := k) hx hb hK hP 6 rfl rfl (by omega) (by omega) d_Model_above_129 ?_
              refine lv_asI (y := sp b (sp b x (K k) (M k)) (OK k) (OM k)) hs.symm ?_
              refine lv_goto hx hb d_Model_above_130 (tgt := 134) rfl ?_
              refine lv_istore_n hx hb d_Model_above_134 rfl hl (by decide) rfl (fun ls hl => ?_)
              have hl : lv_has ls 6 [(2, .int (sp b (sp b x (K k) (M k)) (OK k) (OM k))), (5, .int 1), (4, .int 0), (0, .ref ob), (1, .int b), (3, .int (nI k))] := hl
              refine lv_iinc hx hb d_Model_above_135 hl (k := 5) rfl (v := nI (C - f)) ((nI_1 _).trans (congrArg nI hk1)) (by decide) rfl (fun ls hl => ?_)
              have hl : lv_has ls 6 [(3, .int (nI (C - f))), (2, .int (sp b (sp b x (K k) (M k)) (OK k) (OM k))), (5, .int 1), (4, .int 0), (0, .ref ob), (1, .int b)] := hl
              refine lv_goto hx hb d_Model_above_138 (tgt := 4) rfl ?_
              exact ih4 f (sp b (sp b x (K k) (M k)) (OK k) (OM k)) ls _ ⟨by omega, hZ, lv_sub hl [4, 5, 1, 0] rfl, hS⟩ (by omega)
            · skip
              refine lv_aload_n hx hb d_Model_above_114 rfl (lv_at hl 3 rfl) ?_
              refine va_get (ci := 3) (C := R_Model) (T := F_Model) (N := 24) hx hb hts in_Model hown hK hP 0 rfl rfl 16 (by decide) (hts _ wk_252) (fun _ h => h) rfl d_Model_above_115 ?_
              refine lv_iload_n hx hb d_Model_above_118 rfl (lv_at hl 5 rfl) ?_
              refine ia_ld (i := k) hx hb hK hP 6 rfl rfl (by omega) (by omega) d_Model_above_119 ?_
              refine lv_iload_n hx hb d_Model_above_120 rfl (lv_at hl 1 rfl) ?_
              refine lv_icmp_ge hx hb d_Model_above_121 (tgt := 133) rfl (fun hc121 => ?_) (fun hc121 => ?_)
              · skip
                have hs : sp b (sp b x (K k) (M k)) (OK k) (OM k) = (sp b x (K k) (M k)) := if_neg (fun q => q.2.2.elim hc111 (fun y => i32_irr (Int32.lt_of_lt_of_le y hc121)))
                refine lv_iload_n hx hb d_Model_above_133 rfl (lv_at hl 1 rfl) ?_
                refine lv_asI (y := sp b (sp b x (K k) (M k)) (OK k) (OM k)) hs.symm ?_
                refine lv_istore_n hx hb d_Model_above_134 rfl hl (by decide) rfl (fun ls hl => ?_)
                have hl : lv_has ls 6 [(2, .int (sp b (sp b x (K k) (M k)) (OK k) (OM k))), (5, .int 1), (4, .int 0), (0, .ref ob), (1, .int b), (3, .int (nI k))] := hl
                refine W.eq (g2 := F0 m 135 ls []) rfl ?_
                refine lv_iinc hx hb d_Model_above_135 hl (k := 5) rfl (v := nI (C - f)) ((nI_1 _).trans (congrArg nI hk1)) (by decide) rfl (fun ls hl => ?_)
                have hl : lv_has ls 6 [(3, .int (nI (C - f))), (2, .int (sp b (sp b x (K k) (M k)) (OK k) (OM k))), (5, .int 1), (4, .int 0), (0, .ref ob), (1, .int b)] := hl
                refine lv_goto hx hb d_Model_above_138 (tgt := 4) rfl ?_
                exact ih4 f (sp b (sp b x (K k) (M k)) (OK k) (OM k)) ls _ ⟨by omega, hZ, lv_sub hl [4, 5, 1, 0] rfl, hS⟩ (by omega)
              · skip
                have hs : sp b (sp b x (K k) (M k)) (OK k) (OM k) = OK k := if_pos ⟨hc84, hgt94, Or.inr (i32_gt hc121)⟩
                refine lv_aload_n hx hb d_Model_above_124 rfl (lv_at hl 3 rfl) ?_
                refine va_get (ci := 3) (C := R_Model) (T := F_Model) (N := 24) hx hb hts in_Model hown hK hP 0 rfl rfl 16 (by decide) (hts _ wk_252) (fun _ h => h) rfl d_Model_above_125 ?_
                refine W.eq (g2 := F0 m 128 ls [.ref ck]) rfl ?_
                refine lv_iload_n hx hb d_Model_above_128 rfl (lv_at hl 5 rfl) ?_
                refine ia_ld (i := k) hx hb hK hP 6 rfl rfl (by omega) (by omega) d_Model_above_129 ?_
                refine lv_asI (y := sp b (sp b x (K k) (M k)) (OK k) (OM k)) hs.symm ?_
                refine lv_goto hx hb d_Model_above_130 (tgt := 134) rfl ?_
                refine lv_istore_n hx hb d_Model_above_134 rfl hl (by decide) rfl (fun ls hl => ?_)
                have hl : lv_has ls 6 [(2, .int (sp b (sp b x (K k) (M k)) (OK k) (OM k))), (5, .int 1), (4, .int 0), (0, .ref ob), (1, .int b), (3, .int (nI k))] := hl
                refine lv_iinc hx hb d_Model_above_135 hl (k := 5) rfl (v := nI (C - f)) ((nI_1 _).trans (congrArg nI hk1)) (by decide) rfl (fun ls hl => ?_)
                have hl : lv_has ls 6 [(3, .int (nI (C - f))), (2, .int (sp b (sp b x (K k) (M k)) (OK k) (OM k))), (5, .int 1), (4, .int 0), (0, .ref ob), (1, .int b)] := hl
                refine lv_goto hx hb d_Model_above_138 (tgt := 4) rfl ?_
                exact ih4 f (sp b (sp b x (K k) (M k)) (OK k) (OM k)) ls _ ⟨by omega, hZ, lv_sub hl [4, 5, 1, 0] rfl, hS⟩ (by omega)
    · skip
      refine lv_aload_n hx hb d_Model_above_22 rfl (lv_at hl 0 rfl) ?_
      refine va_get (ci := 3) (C := R_Model) (T := F_Model) (N := 24) hx hb hts in_Model hown hK hP 0 rfl rfl 12 (by decide) (hts _ wk_248) (fun _ h => h) rfl d_Model_above_23 ?_
      refine lv_iload_n hx hb d_Model_above_26 rfl (lv_at hl 3 rfl) ?_
      refine ia_ld (i := k) hx hb hK hP 3 rfl rfl (by omega) (by omega) d_Model_above_27 ?_
      refine lv_iload_n hx hb d_Model_above_28 rfl (lv_at hl 1 rfl) ?_
      refine W.eq (g2 := F0 m 29 ls [.int b, .int (K k)]) rfl ?_
      refine lv_icmp_le hx hb d_Model_above_29 (tgt := 36) rfl (fun hc29 => ?_) (fun hc29 => ?_)
      · skip
        have hs : sp b x (K k) (M k) = x := if_neg (fun q => i32_irr (Int32.lt_of_lt_of_le q.2.1 hc29))
        refine lv_iconst hx hb d_Model_above_36 (v := 0) rfl ?_
        refine lv_istore hx hb d_Model_above_37 hl (by decide) rfl (fun ls hl => ?_)
        have hl : lv_has ls 6 [(4, .int 0), (0, .ref ob), (1, .int b), (2, .int x), (3, .int (nI k))] := hl
        refine lv_iload hx hb d_Model_above_39 (lv_at hl 0 rfl) ?_
        refine lv_if_eq hx hb d_Model_above_41 (tgt := 68) rfl (fun hc => ?_) (fun hc => absurd hc (fun q => q rfl))
        refine lv_iload_n hx hb d_Model_above_68 rfl (lv_at hl 3 rfl) ?_
        refine lv_asI (y := sp b x (K k) (M k)) hs.symm ?_
        refine lv_istore_n hx hb d_Model_above_69 rfl hl (by decide) rfl (fun ls hl => ?_)
        have hl : lv_has ls 6 [(2, .int (sp b x (K k) (M k))), (4, .int 0), (0, .ref ob), (1, .int b), (3, .int (nI k))] := hl
        refine lv_aload_n hx hb d_Model_above_70 rfl (lv_at hl 2 rfl) ?_
        refine va_get (ci := 3) (C := R_Model) (T := F_Model) (N := 24) hx hb hts in_Model hown hK hP 0 rfl rfl 14 (by decide) (hts _ wk_250) (fun _ h => h) rfl d_Model_above_71 ?_
        refine lv_if_eq hx hb d_Model_above_74 (tgt := 101) rfl (fun hc74 => ?_) (fun hc74 => ?_)
        · skip
          have hs : sp b (sp b x (K k) (M k)) (OK k) (OM k) = (sp b x (K k) (M k)) := if_neg (fun q => cnt_zero C (hmv hc74) k hk q.1)
          refine lv_iconst hx hb d_Model_above_101 (v := 0) rfl ?_
          refine lv_istore hx hb d_Model_above_102 hl (by decide) rfl (fun ls hl => ?_)
          have hl : lv_has ls 6 [(5, .int 0), (2, .int (sp b x (K k) (M k))), (4, .int 0), (0, .ref ob), (1, .int b), (3, .int (nI k))] := hl
          refine lv_iload hx hb d_Model_above_104 (lv_at hl 0 rfl) ?_
          refine lv_if_eq hx hb d_Model_above_106 (tgt := 133) rfl (fun hc => ?_) (fun hc => absurd hc (fun q => q rfl))
          refine lv_iload_n hx hb d_Model_above_133 rfl (lv_at hl 1 rfl) ?_
          refine lv_asI (y := sp b (sp b x (K k) (M k)) (OK k) (OM k)) hs.symm ?_
          refine lv_istore_n hx hb d_Model_above_134 rfl hl (by decide) rfl (fun ls hl => ?_)
          have hl : lv_has ls 6 [(2, .int (sp b (sp b x (K k) (M k)) (OK k) (OM k))), (5, .int 0), (4, .int 0), (0, .ref ob), (1, .int b), (3, .int (nI k))] := hl
          refine W.eq (g2 := F0 m 135 ls []) rfl ?_
          refine lv_iinc hx hb d_Model_above_135 hl (k := 5) rfl (v := nI (C - f)) ((nI_1 _).trans (congrArg nI hk1)) (by decide) rfl (fun ls hl => ?_)
          have hl : lv_has ls 6 [(3, .int (nI (C - f))), (2, .int (sp b (sp b x (K k) (M k)) (OK k) (OM k))), (5, .int 0), (4, .int 0), (0, .ref ob), (1, .int b)] := hl
          refine lv_goto hx hb d_Model_above_138 (tgt := 4) rfl ?_
          exact ih4 f (sp b (sp b x (K k) (M k)) (OK k) (OM k)) ls _ ⟨by omega, hZ, lv_sub hl [4, 5, 1, 0] rfl, hS⟩ (by omega)
        · skip
          refine lv_aload_n hx hb d_Model_above_77 rfl (lv_at hl 2 rfl) ?_
          refine va_get (ci := 3) (C := R_Model) (T := F_Model) (N := 24) hx hb hts in_Model hown hK hP 0 rfl rfl 15 (by decide) (hts _ wk_251) (fun _ h => h) rfl d_Model_above_78 ?_
          refine lv_iload_n hx hb d_Model_above_81 rfl (lv_at hl 4 rfl) ?_
          refine ia_ld (i := k) hx hb hK hP 5 rfl rfl (by omega) (by omega) d_Model_above_82 ?_
          refine lv_iconst hx hb d_Model_above_83 (v := 1) rfl ?_
          refine lv_icmp_ne hx hb d_Model_above_84 (tgt := 101) rfl (fun hc84 => ?_) (fun hc84 => ?_)
          · skip
            have hs : sp b (sp b x (K k) (M k)) (OK k) (OM k) = (sp b x (K k) (M k)) := if_neg (fun q => hc84 q.1)
            refine W.eq (g2 := F0 m 101 ls []) rfl ?_
            refine lv_iconst hx hb d_Model_above_101 (v := 0) rfl ?_
            refine lv_istore hx hb d_Model_above_102 hl (by decide) rfl (fun ls hl => ?_)
            have hl : lv_has ls 6 [(5, .int 0), (2, .int (sp b x (K k) (M k))), (4, .int 0), (0, .ref ob), (1, .int b), (3, .int (nI k))] := hl
            refine lv_iload hx hb d_Model_above_104 (lv_at hl 0 rfl) ?_
            refine lv_if_eq hx hb d_Model_above_106 (tgt := 133) rfl (fun hc => ?_) (fun hc => absurd hc (fun q => q rfl))
            refine lv_iload_n hx hb d_Model_above_133 rfl (lv_at hl 1 rfl) ?_
            refine lv_asI (y := sp b (sp b x (K k) (M k)) (OK k) (OM k)) hs.symm ?_
            refine lv_istore_n hx hb d_Model_above_134 rfl hl (by decide) rfl (fun ls hl => ?_)
            have hl : lv_has ls 6 [(2, .int (sp b (sp b x (K k) (M k)) (OK k) (OM k))), (5, .int 0), (4, .int 0), (0, .ref ob), (1, .int b), (3, .int (nI k))] := hl
            refine lv_iinc hx hb d_Model_above_135 hl (k := 5) rfl (v := nI (C - f)) ((nI_1 _).trans (congrArg nI hk1)) (by decide) rfl (fun ls hl => ?_)
            have hl : lv_has ls 6 [(3, .int (nI (C - f))), (2, .int (sp b (sp b x (K k) (M k)) (OK k) (OM k))), (5, .int 0), (4, .int 0), (0, .ref ob), (1, .int b)] := hl
            refine lv_goto hx hb d_Model_above_138 (tgt := 4) rfl ?_
            exact ih4 f (sp b (sp b x (K k) (M k)) (OK k) (OM k)) ls _ ⟨by omega, hZ, lv_sub hl [4, 5, 1, 0] rfl, hS⟩ (by omega)
          · skip
            refine W.eq (g2 := F0 m 87 ls []) rfl ?_
            refine lv_aload_n hx hb d_Model_above_87 rfl (lv_at hl 2 rfl) ?_
            refine va_get (ci := 3) (C := R_Model) (T := F_Model) (N := 24) hx hb hts in_Model hown hK hP 0 rfl rfl 16 (by decide) (hts _ wk_252) (fun _ h => h) rfl d_Model_above_88 ?_
            refine lv_iload_n hx hb d_Model_above_91 rfl (lv_at hl 4 rfl) ?_
            refine ia_ld (i := k) hx hb hK hP 6 rfl rfl (by omega) (by omega) d_Model_above_92 ?_
            refine lv_iload_n hx hb d_Model_above_93 rfl (lv_at hl 3 rfl) ?_
            refine lv_icmp_le hx hb d_Model_above_94 (tgt := 101) rfl (fun hc94 => ?_) (fun hc94 => ?_)
            · skip
              have hs : sp b (sp b x (K k) (M k)) (OK k) (OM k) = (sp b x (K k) (M k)) := if_neg (fun q => i32_irr (Int32.lt_of_lt_of_le q.2.1 hc94))
              refine lv_iconst hx hb d_Model_above_101 (v := 0) rfl ?_
              refine lv_istore hx hb d_Model_above_102 hl (by decide) rfl (fun ls hl => ?_)
              have hl : lv_has ls 6 [(5, .int 0), (2, .int (sp b x (K k) (M k))), (4, .int 0), (0, .ref ob), (1, .int b), (3, .int (nI k))] := hl
              refine lv_iload hx hb d_Model_above_104 (lv_at hl 0 rfl) ?_
              refine lv_if_eq hx hb d_Model_above_106 (tgt := 133) rfl (fun hc => ?_) (fun hc => absurd hc (fun q => q rfl))
              refine lv_iload_n hx hb d_Model_above_133 rfl (lv_at hl 1 rfl) ?_
              refine lv_asI (y := sp b (sp b x (K k) (M k)) (OK k) (OM k)) hs.symm ?_
              refine lv_istore_n hx hb d_Model_above_134 rfl hl (by decide) rfl (fun ls hl => ?_)
              have hl : lv_has ls 6 [(2, .int (sp b (sp b x (K k) (M k)) (OK k) (OM k))), (5, .int 0), (4, .int 0), (0, .ref ob), (1, .int b), (3, .int (nI k))] := hl
              refine lv_iinc hx hb d_Model_above_135 hl (k := 5) rfl (v := nI (C - f)) ((nI_1 _).trans (congrArg nI hk1)) (by decide) rfl (fun ls hl => ?_)
              have hl : lv_has ls 6 [(3, .int (nI (C - f))), (2, .int (sp b (sp b x (K k) (M k)) (OK k) (OM k))), (5, .int 0), (4, .int 0), (0, .ref ob), (1, .int b)] := hl
              refine lv_goto hx hb d_Model_above_138 (tgt := 4) rfl ?_
              exact ih4 f (sp b (sp b x (K k) (M k)) (OK k) (OM k)) ls _ ⟨by omega, hZ, lv_sub hl [4, 5, 1, 0] rfl, hS⟩ (by omega)
            · skip
              have hgt94 := i32_gt hc94
              refine lv_iconst hx hb d_Model_above_97 (v := 1) rfl ?_
              refine lv_goto hx hb d_Model_above_98 (tgt := 102) rfl ?_
              refine lv_istore hx hb d_Model_above_102 hl (by decide) rfl (fun ls hl => ?_)
              have hl : lv_has ls 6 [(5, .int 1), (2, .int (sp b x (K k) (M k))), (4, .int 0), (0, .ref ob), (1, .int b), (3, .int (nI k))] := hl
              refine lv_iload hx hb d_Model_above_104 (lv_at hl 0 rfl) ?_
              refine lv_if_eq hx hb d_Model_above_106 (tgt := 133) rfl (fun hc => absurd hc (by decide)) (fun hc => ?_)
              refine lv_iload_n hx hb d_Model_above_109 rfl (lv_at hl 1 rfl) ?_
              refine lv_iload_n hx hb d_Model_above_110 rfl (lv_at hl 4 rfl) ?_
              refine lv_icmp_eq hx hb d_Model_above_111 (tgt := 124) rfl (fun hc111 => ?_) (fun hc111 => ?_)
              · skip
                have hs : sp b (sp b x (K k) (M k)) (OK k) (OM k) = OK k := if_pos ⟨hc84, hgt94, Or.inl hc111⟩
                refine lv_aload_n hx hb d_Model_above_124 rfl (lv_at hl 3 rfl) ?_
                refine va_get (ci := 3) (C := R_Model) (T := F_Model) (N := 24) hx hb hts in_Model hown hK hP 0 rfl rfl 16 (by decide) (hts _ wk_252) (fun _ h => h) rfl d_Model_above_125 ?_
                refine W.eq (g2 := F0 m 128 ls [.ref ck]) rfl ?_
                refine lv_iload_n hx hb d_Model_above_128 rfl (lv_at hl 5 rfl) ?_
                refine ia_ld (i := k) hx hb hK hP 6 rfl rfl (by omega) (by omega) d_Model_above_129 ?_
                refine lv_asI (y := sp b (sp b x (K k) (M k)) (OK k) (OM k)) hs.symm ?_
                refine lv_goto hx hb d_Model_above_130 (tgt := 134) rfl ?_
                refine lv_istore_n hx hb d_Model_above_134 rfl hl (by decide) rfl (fun ls hl => ?_)
                have hl : lv_has ls 6 [(2, .int (sp b (sp b x (K k) (M k)) (OK k) (OM k))), (5, .int 1), (4, .int 0), (0, .ref ob), (1, .int b), (3, .int (nI k))] := hl
                refine lv_iinc hx hb d_Model_above_135 hl (k := 5) rfl (v := nI (C - f)) ((nI_1 _).trans (congrArg nI hk1)) (by decide) rfl (fun ls hl => ?_)
                have hl : lv_has ls 6 [(3, .int (nI (C - f))), (2, .int (sp b (sp b x (K k) (M k)) (OK k) (OM k))), (5, .int 1), (4, .int 0), (0, .ref ob), (1, .int b)] := hl
                refine lv_goto hx hb d_Model_above_138 (tgt := 4) rfl ?_
                exact ih4 f (sp b (sp b x (K k) (M k)) (OK k) (OM k)) ls _ ⟨by omega, hZ, lv_sub hl [4, 5, 1, 0] rfl, hS⟩ (by omega)
              · skip
                refine lv_aload_n hx hb d_Model_above_114 rfl (lv_at hl 3 rfl) ?_
                refine va_get (ci := 3) (C := R_Model) (T := F_Model) (N := 24) hx hb hts in_Model hown hK hP 0 rfl rfl 16 (by decide) (hts _ wk_252) (fun _ h => h) rfl d_Model_above_115 ?_
                refine W.eq (g2 := F0 m 118 ls [.ref ck]) rfl ?_
                refine lv_iload_n hx hb d_Model_above_118 rfl (lv_at hl 5 rfl) ?_
                refine ia_ld (i := k) hx hb hK hP 6 rfl rfl (by omega) (by omega) d_Model_above_119 ?_
                refine lv_iload_n hx hb d_Model_above_120 rfl (lv_at hl 1 rfl) ?_
                refine lv_icmp_ge hx hb d_Model_above_121 (tgt := 133) rfl (fun hc121 => ?_) (fun hc121 => ?_)
                · skip
                  have hs : sp b (sp b x (K k) (M k)) (OK k) (OM k) = (sp b x (K k) (M k)) := if_neg (fun q => q.2.2.elim hc111 (fun y => i32_irr (Int32.lt_of_lt_of_le y hc121)))
                  refine lv_iload_n hx hb d_Model_above_133 rfl (lv_at hl 1 rfl) ?_
                  refine lv_asI (y := sp b (sp b x (K k) (M k)) (OK k) (OM k)) hs.symm ?_
                  refine lv_istore_n hx hb d_Model_above_134 rfl hl (by decide) rfl (fun ls hl => ?_)
                  have hl : lv_has ls 6 [(2, .int (sp b (sp b x (K k) (M k)) (OK k) (OM k))), (5, .int 1), (4, .int 0), (0, .ref ob), (1, .int b), (3, .int (nI k))] := hl
                  refine lv_iinc hx hb d_Model_above_135 hl (k := 5) rfl (v := nI (C - f)) ((nI_1 _).trans (congrArg nI hk1)) (by decide) rfl (fun ls hl => ?_)
                  have hl : lv_has ls 6 [(3, .int (nI (C - f))), (2, .int (sp b (sp b x (K k) (M k)) (OK k) (OM k))), (5, .int 1), (4, .int 0), (0, .ref ob), (1, .int b)] := hl
                  refine lv_goto hx hb d_Model_above_138 (tgt := 4) rfl ?_
                  exact ih4 f (sp b (sp b x (K k) (M k)) (OK k) (OM k)) ls _ ⟨by omega, hZ, lv_sub hl [4, 5, 1, 0] rfl, hS⟩ (by omega)
                · skip
                  have hs : sp b (sp b x (K k) (M k)) (OK k) (OM k) = OK k := if_pos ⟨hc84, hgt94, Or.inr (i32_gt hc121)⟩
                  refine lv_aload_n hx hb d_Model_above_124 rfl (lv_at hl 3 rfl) ?_
                  refine va_get (ci := 3) (C := R_Model) (T := F_Model) (N := 24) hx hb hts in_Model hown hK hP 0 rfl rfl 16 (by decide) (hts _ wk_252) (fun _ h => h) rfl d_Model_above_125 ?_
                  refine lv_iload_n hx hb d_Model_above_128 rfl (lv_at hl 5 rfl) ?_
                  refine ia_ld (i := k) hx hb hK hP 6 rfl rfl (by omega) (by omega) d_Model_above_129 ?_
                  refine lv_asI (y := sp b (sp b x (K k) (M k)) (OK k) (OM k)) hs.symm ?_
                  refine lv_goto hx hb d_Model_above_130 (tgt := 134) rfl ?_
                  refine lv_istore_n hx hb d_Model_above_134 rfl hl (by decide) rfl (fun ls hl => ?_)
                  have hl : lv_has ls 6 [(2, .int (sp b (sp b x (K k) (M k)) (OK k) (OM k))), (5, .int 1), (4, .int 0), (0, .ref ob), (1, .int b), (3, .int (nI k))] := hl
                  refine lv_iinc hx hb d_Model_above_135 hl (k := 5) rfl (v := nI (C - f)) ((nI_1 _).trans (congrArg nI hk1)) (by decide) rfl (fun ls hl => ?_)
                  have hl : lv_has ls 6 [(3, .int (nI (C - f))), (2, .int (sp b (sp b x (K k) (M k)) (OK k) (OM k))), (5, .int 1), (4, .int 0), (0, .ref ob), (1, .int b)] := hl
                  refine lv_goto hx hb d_Model_above_138 (tgt := 4) rfl ?_
                  exact ih4 f (sp b (sp b x (K k) (M k)) (OK k) (OM k)) ls _ ⟨by omega, hZ, lv_sub hl [4, 5, 1, 0] rfl, hS⟩ (by omega)
      · skip
        have hgt29 := i32_gt hc29
        refine lv_iconst hx hb d_Model_above_32 (v := 1) rfl ?_
        refine lv_goto hx hb d_Model_above_33 (tgt := 37) rfl ?_
        refine lv_istore hx hb d_Model_above_37 hl (by decide) rfl (fun ls hl => ?_)
        have hl : lv_has ls 6 [(4, .int 1), (0, .ref ob), (1, .int b), (2, .int x), (3, .int (nI k))] := hl
        refine lv_iload hx hb d_Model_above_39 (lv_at hl 0 rfl) ?_
        refine lv_if_eq hx hb d_Model_above_41 (tgt := 68) rfl (fun hc => absurd hc (by decide)) (fun hc => ?_)
        refine lv_iload_n hx hb d_Model_above_44 rfl (lv_at hl 3 rfl) ?_
        refine lv_iload_n hx hb d_Model_above_45 rfl (lv_at hl 2 rfl) ?_
        refine lv_icmp_eq hx hb d_Model_above_46 (tgt := 59) rfl (fun hc46 => ?_) (fun hc46 => ?_)
        · skip
          have hs : sp b x (K k) (M k) = K k := if_pos ⟨hc19, hgt29, Or.inl hc46⟩
          refine lv_aload_n hx hb d_Model_above_59 rfl (lv_at hl 1 rfl) ?_
          refine va_get (ci := 3) (C := R_Model) (T := F_Model) (N := 24) hx hb hts in_Model hown hK hP 0 rfl rfl 12 (by decide) (hts _ wk_248) (fun _ h => h) rfl d_Model_above_60 ?_
          refine lv_iload_n hx hb d_Model_above_63 rfl (lv_at hl 4 rfl) ?_
          refine ia_ld (i := k) hx hb hK hP 3 rfl rfl (by omega) (by omega) d_Model_above_64 ?_
          refine lv_asI (y := sp b x (K k) (M k)) hs.symm ?_
          refine lv_goto hx hb d_Model_above_65 (tgt := 69) rfl ?_
          refine lv_istore_n hx hb d_Model_above_69 rfl hl (by decide) rfl (fun ls hl => ?_)
          have hl : lv_has ls 6 [(2, .int (sp b x (K k) (M k))), (4, .int 1), (0, .ref ob), (1, .int b), (3, .int (nI k))] := hl
          refine lv_aload_n hx hb d_Model_above_70 rfl (lv_at hl 2 rfl) ?_
          refine W.eq (g2 := F0 m 71 ls [.ref ob]) rfl ?_
          refine va_get (ci := 3) (C := R_Model) (T := F_Model) (N := 24) hx hb hts in_Model hown hK hP 0 rfl rfl 14 (by decide) (hts _ wk_250) (fun _ h => h) rfl d_Model_above_71 ?_
          refine lv_if_eq hx hb d_Model_above_74 (tgt := 101) rfl (fun hc74 => ?_) (fun hc74 => ?_)
          · skip
            have hs : sp b (sp b x (K k) (M k)) (OK k) (OM k) = (sp b x (K k) (M k)) := if_neg (fun q => cnt_zero C (hmv hc74) k hk q.1)
            refine lv_iconst hx hb d_Model_above_101 (v := 0) rfl ?_
            refine lv_istore hx hb d_Model_above_102 hl (by decide) rfl (fun ls hl => ?_)
            have hl : lv_has ls 6 [(5, .int 0), (2, .int (sp b x (K k) (M k))), (4, .int 1), (0, .ref ob), (1, .int b), (3, .int (nI k))] := hl
            refine lv_iload hx hb d_Model_above_104 (lv_at hl 0 rfl) ?_
            refine lv_if_eq hx hb d_Model_above_106 (tgt := 133) rfl (fun hc => ?_) (fun hc => absurd hc (fun q => q rfl))
            refine lv_iload_n hx hb d_Model_above_133 rfl (lv_at hl 1 rfl) ?_
            refine lv_asI (y := sp b (sp b x (K k) (M k)) (OK k) (OM k)) hs.symm ?_
            refine lv_istore_n hx hb d_Model_above_134 rfl hl (by decide) rfl (fun ls hl => ?_)
            have hl : lv_has ls 6 [(2, .int (sp b (sp b x (K k) (M k)) (OK k) (OM k))), (5, .int 0), (4, .int 1), (0, .ref ob), (1, .int b), (3, .int (nI k))] := hl
            refine lv_iinc hx hb d_Model_above_135 hl (k := 5) rfl (v := nI (C - f)) ((nI_1 _).trans (congrArg nI hk1)) (by decide) rfl (fun ls hl => ?_)
            have hl : lv_has ls 6 [(3, .int (nI (C - f))), (2, .int (sp b (sp b x (K k) (M k)) (OK k) (OM k))), (5, .int 0), (4, .int 1), (0, .ref ob), (1, .int b)] := hl
            refine lv_goto hx hb d_Model_above_138 (tgt := 4) rfl ?_
            exact ih4 f (sp b (sp b x (K k) (M k)) (OK k) (OM k)) ls _ ⟨by omega, hZ, lv_sub hl [4, 5, 1, 0] rfl, hS⟩ (by omega)
          · skip
            refine lv_aload_n hx hb d_Model_above_77 rfl (lv_at hl 2 rfl) ?_
            refine va_get (ci := 3) (C := R_Model) (T := F_Model) (N := 24) hx hb hts in_Model hown hK hP 0 rfl rfl 15 (by decide) (hts _ wk_251) (fun _ h => h) rfl d_Model_above_78 ?_
            refine lv_iload_n hx hb d_Model_above_81 rfl (lv_at hl 4 rfl) ?_
            refine ia_ld (i := k) hx hb hK hP 5 rfl rfl (by omega) (by omega) d_Model_above_82 ?_
            refine lv_iconst hx hb d_Model_above_83 (v := 1) rfl ?_
            refine lv_icmp_ne hx hb d_Model_above_84 (tgt := 101) rfl (fun hc84 => ?_) (fun hc84 => ?_)
            · skip
              have hs : sp b (sp b x (K k) (M k)) (OK k) (OM k) = (sp b x (K k) (M k)) := if_neg (fun q => hc84 q.1)
              refine lv_iconst hx hb d_Model_above_101 (v := 0) rfl ?_
              refine lv_istore hx hb d_Model_above_102 hl (by decide) rfl (fun ls hl => ?_)
              have hl : lv_has ls 6 [(5, .int 0), (2, .int (sp b x (K k) (M k))), (4, .int 1), (0, .ref ob), (1, .int b), (3, .int (nI k))] := hl
              refine lv_iload hx hb d_Model_above_104 (lv_at hl 0 rfl) ?_
              refine lv_if_eq hx hb d_Model_above_106 (tgt := 133) rfl (fun hc => ?_) (fun hc => absurd hc (fun q => q rfl))
              refine lv_iload_n hx hb d_Model_above_133 rfl (lv_at hl 1 rfl) ?_
              refine lv_asI (y := sp b (sp b x (K k) (M k)) (OK k) (OM k)) hs.symm ?_
              refine lv_istore_n hx hb d_Model_above_134 rfl hl (by decide) rfl (fun ls hl => ?_)
              have hl : lv_has ls 6 [(2, .int (sp b (sp b x (K k) (M k)) (OK k) (OM k))), (5, .int 0), (4, .int 1), (0, .ref ob), (1, .int b), (3, .int (nI k))] := hl
              refine lv_iinc hx hb d_Model_above_135 hl (k := 5) rfl (v := nI (C - f)) ((nI_1 _).trans (congrArg nI hk1)) (by decide) rfl (fun ls hl => ?_)
              have hl : lv_has ls 6 [(3, .int (nI (C - f))), (2, .int (sp b (sp b x (K k) (M k)) (OK k) (OM k))), (5, .int 0), (4, .int 1), (0, .ref ob), (1, .int b)] := hl
              refine lv_goto hx hb d_Model_above_138 (tgt := 4) rfl ?_
              exact ih4 f (sp b (sp b x (K k) (M k)) (OK k) (OM k)) ls _ ⟨by omega, hZ, lv_sub hl [4, 5, 1, 0] rfl, hS⟩ (by omega)
            · skip
              refine lv_aload_n hx hb d_Model_above_87 rfl (lv_at hl 2 rfl) ?_
              refine va_get (ci := 3) (C := R_Model) (T := F_Model) (N := 24) hx hb hts in_Model hown hK hP 0 rfl rfl 16 (by decide) (hts _ wk_252) (fun _ h => h) rfl d_Model_above_88 ?_
              refine lv_iload_n hx hb d_Model_above_91 rfl (lv_at hl 4 rfl) ?_
              refine ia_ld (i := k) hx hb hK hP 6 rfl rfl (by omega) (by omega) d_Model_above_92 ?_
              refine lv_iload_n hx hb d_Model_above_93 rfl (lv_at hl 3 rfl) ?_
              refine lv_icmp_le hx hb d_Model_above_94 (tgt := 101) rfl (fun hc94 => ?_) (fun hc94 => ?_)
              · skip
                have hs : sp b (sp b x (K k) (M k)) (OK k) (OM k) = (sp b x (K k) (M k)) := if_neg (fun q => i32_irr (Int32.lt_of_lt_of_le q.2.1 hc94))
                refine lv_iconst hx hb d_Model_above_101 (v := 0) rfl ?_
                refine lv_istore hx hb d_Model_above_102 hl (by decide) rfl (fun ls hl => ?_)
                have hl : lv_has ls 6 [(5, .int 0), (2, .int (sp b x (K k) (M k))), (4, .int 1), (0, .ref ob), (1, .int b), (3, .int (nI k))] := hl
                refine W.eq (g2 := F0 m 104 ls []) rfl ?_
                refine lv_iload hx hb d_Model_above_104 (lv_at hl 0 rfl) ?_
                refine lv_if_eq hx hb d_Model_above_106 (tgt := 133) rfl (fun hc => ?_) (fun hc => absurd hc (fun q => q rfl))
                refine lv_iload_n hx hb d_Model_above_133 rfl (lv_at hl 1 rfl) ?_
                refine lv_asI (y := sp b (sp b x (K k) (M k)) (OK k) (OM k)) hs.symm ?_
                refine lv_istore_n hx hb d_Model_above_134 rfl hl (by decide) rfl (fun ls hl => ?_)
                have hl : lv_has ls 6 [(2, .int (sp b (sp b x (K k) (M k)) (OK k) (OM k))), (5, .int 0), (4, .int 1), (0, .ref ob), (1, .int b), (3, .int (nI k))] := hl
                refine lv_iinc hx hb d_Model_above_135 hl (k := 5) rfl (v := nI (C - f)) ((nI_1 _).trans (congrArg nI hk1)) (by decide) rfl (fun ls hl => ?_)
                have hl : lv_has ls 6 [(3, .int (nI (C - f))), (2, .int (sp b (sp b x (K k) (M k)) (OK k) (OM k))), (5, .int 0), (4, .int 1), (0, .ref ob), (1, .int b)] := hl
                refine lv_goto hx hb d_Model_above_138 (tgt := 4) rfl ?_
                exact ih4 f (sp b (sp b x (K k) (M k)) (OK k) (OM k)) ls _ ⟨by omega, hZ, lv_sub hl [4, 5, 1, 0] rfl, hS⟩ (by omega)
              · skip
                have hgt94 := i32_gt hc94
                refine lv_iconst hx hb d_Model_above_97 (v := 1) rfl ?_
                refine lv_goto hx hb d_Model_above_98 (tgt := 102) rfl ?_
                refine W.eq (g2 := F0 m 102 ls [.int 1]) rfl ?_
                refine lv_istore hx hb d_Model_above_102 hl (by decide) rfl (fun ls hl => ?_)
                have hl : lv_has ls 6 [(5, .int 1), (2, .int (sp b x (K k) (M k))), (4, .int 1), (0, .ref ob), (1, .int b), (3, .int (nI k))] := hl
                refine lv_iload hx hb d_Model_above_104 (lv_at hl 0 rfl) ?_
                refine lv_if_eq hx hb d_Model_above_106 (tgt := 133) rfl (fun hc => absurd hc (by decide)) (fun hc => ?_)
                refine lv_iload_n hx hb d_Model_above_109 rfl (lv_at hl 1 rfl) ?_
                refine lv_iload_n hx hb d_Model_above_110 rfl (lv_at hl 4 rfl) ?_
                refine lv_icmp_eq hx hb d_Model_above_111 (tgt := 124) rfl (fun hc111 => ?_) (fun hc111 => ?_)
                · skip
                  have hs : sp b (sp b x (K k) (M k)) (OK k) (OM k) = OK k := if_pos ⟨hc84, hgt94, Or.inl hc111⟩
                  refine lv_aload_n hx hb d_Model_above_124 rfl (lv_at hl 3 rfl) ?_
                  refine va_get (ci := 3) (C := R_Model) (T := F_Model) (N := 24) hx hb hts in_Model hown hK hP 0 rfl rfl 16 (by decide) (hts _ wk_252) (fun _ h => h) rfl d_Model_above_125 ?_
                  refine lv_iload_n hx hb d_Model_above_128 rfl (lv_at hl 5 rfl) ?_
                  refine ia_ld (i := k) hx hb hK hP 6 rfl rfl (by omega) (by omega) d_Model_above_129 ?_
                  refine lv_asI (y := sp b (sp b x (K k) (M k)) (OK k) (OM k)) hs.symm ?_
                  refine lv_goto hx hb d_Model_above_130 (tgt := 134) rfl ?_
                  refine lv_istore_n hx hb d_Model_above_134 rfl hl (by decide) rfl (fun ls hl => ?_)
                  have hl : lv_has ls 6 [(2, .int (sp b (sp b x (K k) (M k)) (OK k) (OM k))), (5, .int 1), (4, .int 1), (0, .ref ob), (1, .int b), (3, .int (nI k))] := hl
                  refine lv_iinc hx hb d_Model_above_135 hl (k := 5) rfl (v := nI (C - f)) ((nI_1 _).trans (congrArg nI hk1)) (by decide) rfl (fun ls hl => ?_)
                  have hl : lv_has ls 6 [(3, .int (nI (C - f))), (2, .int (sp b (sp b x (K k) (M k)) (OK k) (OM k))), (5, .int 1), (4, .int 1), (0, .ref ob), (1, .int b)] := hl
                  refine lv_goto hx hb d_Model_above_138 (tgt := 4) rfl ?_
                  exact ih4 f (sp b (sp b x (K k) (M k)) (OK k) (OM k)) ls _ ⟨by omega, hZ, lv_sub hl [4, 5, 1, 0] rfl, hS⟩ (by omega)
                · skip
                  refine lv_aload_n hx hb d_Model_above_114 rfl (lv_at hl 3 rfl) ?_
                  refine va_get (ci := 3) (C := R_Model) (T := F_Model) (N := 24) hx hb hts in_Model hown hK hP 0 rfl rfl 16 (by decide) (hts _ wk_252) (fun _ h => h) rfl d_Model_above_115 ?_
                  refine lv_iload_n hx hb d_Model_above_118 rfl (lv_at hl 5 rfl) ?_
                  refine ia_ld (i := k) hx hb hK hP 6 rfl rfl (by omega) (by omega) d_Model_above_119 ?_
                  refine lv_iload_n hx hb d_Model_above_120 rfl (lv_at hl 1 rfl) ?_
                  refine lv_icmp_ge hx hb d_Model_above_121 (tgt := 133) rfl (fun hc121 => ?_) (fun hc121 => ?_)
                  · skip
                    have hs : sp b (sp b x (K k) (M k)) (OK k) (OM k) = (sp b x (K k) (M k)) := if_neg (fun q => q.2.2.elim hc111 (fun y => i32_irr (Int32.lt_of_lt_of_le y hc121)))
                    refine lv_iload_n hx hb d_Model_above_133 rfl (lv_at hl 1 rfl) ?_
                    refine lv_asI (y := sp b (sp b x (K k) (M k)) (OK k) (OM k)) hs.symm ?_
                    refine lv_istore_n hx hb d_Model_above_134 rfl hl (by decide) rfl (fun ls hl => ?_)
                    have hl : lv_has ls 6 [(2, .int (sp b (sp b x (K k) (M k)) (OK k) (OM k))), (5, .int 1), (4, .int 1), (0, .ref ob), (1, .int b), (3, .int (nI k))] := hl
                    refine lv_iinc hx hb d_Model_above_135 hl (k := 5) rfl (v := nI (C - f)) ((nI_1 _).trans (congrArg nI hk1)) (by decide) rfl (fun ls hl => ?_)
                    have hl : lv_has ls 6 [(3, .int (nI (C - f))), (2, .int (sp b (sp b x (K k) (M k)) (OK k) (OM k))), (5, .int 1), (4, .int 1), (0, .ref ob), (1, .int b)] := hl
                    refine lv_goto hx hb d_Model_above_138 (tgt := 4) rfl ?_
                    exact ih4 f (sp b (sp b x (K k) (M k)) (OK k) (OM k)) ls _ ⟨by omega, hZ, lv_sub hl [4, 5, 1, 0] rfl, hS⟩ (by omega)
                  · skip
                    have hs : sp b (sp b x (K k) (M k)) (OK k) (OM k) = OK k := if_pos ⟨hc84, hgt94, Or.inr (i32_gt hc121)⟩
                    refine lv_aload_n hx hb d_Model_above_124 rfl (lv_at hl 3 rfl) ?_
                    refine va_get (ci := 3) (C := R_Model) (T := F_Model) (N := 24) hx hb hts in_Model hown hK hP 0 rfl rfl 16 (by decide) (hts _ wk_252) (fun _ h => h) rfl d_Model_above_125 ?_
                    refine lv_iload_n hx hb d_Model_above_128 rfl (lv_at hl 5 rfl) ?_
                    refine ia_ld (i := k) hx hb hK hP 6 rfl rfl (by omega) (by omega) d_Model_above_129 ?_
                    refine lv_asI (y := sp b (sp b x (K k) (M k)) (OK k) (OM k)) hs.symm ?_
                    refine W.eq (g2 := F0 m 130 ls [.int (sp b (sp b x (K k) (M k)) (OK k) (OM k))]) rfl ?_
                    refine lv_goto hx hb d_Model_above_130 (tgt := 134) rfl ?_
                    refine lv_istore_n hx hb d_Model_above_134 rfl hl (by decide) rfl (fun ls hl => ?_)
                    have hl : lv_has ls 6 [(2, .int (sp b (sp b x (K k) (M k)) (OK k) (OM k))), (5, .int 1), (4, .int 1), (0, .ref ob), (1, .int b), (3, .int (nI k))] := hl
                    refine lv_iinc hx hb d_Model_above_135 hl (k := 5) rfl (v := nI (C - f)) ((nI_1 _).trans (congrArg nI hk1)) (by decide) rfl (fun ls hl => ?_)
                    have hl : lv_has ls 6 [(3, .int (nI (C - f))), (2, .int (sp b (sp b x (K k) (M k)) (OK k) (OM k))), (5, .int 1), (4, .int 1), (0, .ref ob), (1, .int b)] := hl
                    refine lv_goto hx hb d_Model_above_138 (tgt := 4) rfl ?_
                    exact ih4 f (sp b (sp b x (K k) (M k)) (OK k) (OM k)) ls _ ⟨by omega, hZ, lv_sub hl [4, 5, 1, 0] rfl, hS⟩ (by omega)
        · skip
          refine lv_aload_n hx hb d_Model_above_49 rfl (lv_at hl 1 rfl) ?_
          refine va_get (ci := 3) (C := R_Model) (T := F_Model) (N := 24) hx hb hts in_Model hown hK hP 0 rfl rfl 12 (by decide) (hts _ wk_248) (fun _ h => h) rfl d_Model_above_50 ?_
          refine lv_iload_n hx hb d_Model_above_53 rfl (lv_at hl 4 rfl) ?_
          refine ia_ld (i := k) hx hb hK hP 3 rfl rfl (by omega) (by omega) d_Model_above_54 ?_
          refine lv_iload_n hx hb d_Model_above_55 rfl (lv_at hl 3 rfl) ?_
          refine lv_icmp_ge hx hb d_Model_above_56 (tgt := 68) rfl (fun hc56 => ?_) (fun hc56 => ?_)
          · skip
            have hs : sp b x (K k) (M k) = x := if_neg (fun q => q.2.2.elim hc46 (fun y => i32_irr (Int32.lt_of_lt_of_le y hc56)))
            refine lv_iload_n hx hb d_Model_above_68 rfl (lv_at hl 3 rfl) ?_
            refine lv_asI (y := sp b x (K k) (M k)) hs.symm ?_
            refine W.eq (g2 := F0 m 69 ls [.int (sp b x (K k) (M k))]) rfl ?_
            refine lv_istore_n hx hb d_Model_above_69 rfl hl (by decide) rfl (fun ls hl => ?_)
            have hl : lv_has ls 6 [(2, .int (sp b x (K k) (M k))), (4, .int 1), (0, .ref ob), (1, .int b), (3, .int (nI k))] := hl
            refine lv_aload_n hx hb d_Model_above_70 rfl (lv_at hl 2 rfl) ?_
            refine va_get (ci := 3) (C := R_Model) (T := F_Model) (N := 24) hx hb hts in_Model hown hK hP 0 rfl rfl 14 (by decide) (hts _ wk_250) (fun _ h => h) rfl d_Model_above_71 ?_
            refine lv_if_eq hx hb d_Model_above_74 (tgt := 101) rfl (fun hc74 => ?_) (fun hc74 => ?_)
            · skip
              have hs : sp b (sp b x (K k) (M k)) (OK k) (OM k) = (sp b x (K k) (M k)) := if_neg (fun q => cnt_zero C (hmv hc74) k hk q.1)
              refine lv_iconst hx hb d_Model_above_101 (v := 0) rfl ?_
              refine lv_istore hx hb d_Model_above_102 hl (by decide) rfl (fun ls hl => ?_)
              have hl : lv_has ls 6 [(5, .int 0), (2, .int (sp b x (K k) (M k))), (4, .int 1), (0, .ref ob), (1, .int b), (3, .int (nI k))] := hl
              refine lv_iload hx hb d_Model_above_104 (lv_at hl 0 rfl) ?_
              refine lv_if_eq hx hb d_Model_above_106 (tgt := 133) rfl (fun hc => ?_) (fun hc => absurd hc (fun q => q rfl))
              refine lv_iload_n hx hb d_Model_above_133 rfl (lv_at hl 1 rfl) ?_
              refine lv_asI (y := sp b (sp b x (K k) (M k)) (OK k) (OM k)) hs.symm ?_
              refine lv_istore_n hx hb d_Model_above_134 rfl hl (by decide) rfl (fun ls hl => ?_)
              have hl : lv_has ls 6 [(2, .int (sp b (sp b x (K k) (M k)) (OK k) (OM k))), (5, .int 0), (4, .int 1), (0, .ref ob), (1, .int b), (3, .int (nI k))] := hl
              refine lv_iinc hx hb d_Model_above_135 hl (k := 5) rfl (v := nI (C - f)) ((nI_1 _).trans (congrArg nI hk1)) (by decide) rfl (fun ls hl => ?_)
              have hl : lv_has ls 6 [(3, .int (nI (C - f))), (2, .int (sp b (sp b x (K k) (M k)) (OK k) (OM k))), (5, .int 0), (4, .int 1), (0, .ref ob), (1, .int b)] := hl
              refine lv_goto hx hb d_Model_above_138 (tgt := 4) rfl ?_
              exact ih4 f (sp b (sp b x (K k) (M k)) (OK k) (OM k)) ls _ ⟨by omega, hZ, lv_sub hl [4, 5, 1, 0] rfl, hS⟩ (by omega)
            · skip
              refine lv_aload_n hx hb d_Model_above_77 rfl (lv_at hl 2 rfl) ?_
              refine va_get (ci := 3) (C := R_Model) (T := F_Model) (N := 24) hx hb hts in_Model hown hK hP 0 rfl rfl 15 (by decide) (hts _ wk_251) (fun _ h => h) rfl d_Model_above_78 ?_
              refine lv_iload_n hx hb d_Model_above_81 rfl (lv_at hl 4 rfl) ?_
              refine ia_ld (i := k) hx hb hK hP 5 rfl rfl (by omega) (by omega) d_Model_above_82 ?_
              refine lv_iconst hx hb d_Model_above_83 (v := 1) rfl ?_
              refine lv_icmp_ne hx hb d_Model_above_84 (tgt := 101) rfl (fun hc84 => ?_) (fun hc84 => ?_)
              · skip
                have hs : sp b (sp b x (K k) (M k)) (OK k) (OM k) = (sp b x (K k) (M k)) := if_neg (fun q => hc84 q.1)
                refine lv_iconst hx hb d_Model_above_101 (v := 0) rfl ?_
                refine lv_istore hx hb d_Model_above_102 hl (by decide) rfl (fun ls hl => ?_)
                have hl : lv_has ls 6 [(5, .int 0), (2, .int (sp b x (K k) (M k))), (4, .int 1), (0, .ref ob), (1, .int b), (3, .int (nI k))] := hl
                refine lv_iload hx hb d_Model_above_104 (lv_at hl 0 rfl) ?_
                refine lv_if_eq hx hb d_Model_above_106 (tgt := 133) rfl (fun hc => ?_) (fun hc => absurd hc (fun q => q rfl))
                refine lv_iload_n hx hb d_Model_above_133 rfl (lv_at hl 1 rfl) ?_
                refine lv_asI (y := sp b (sp b x (K k) (M k)) (OK k) (OM k)) hs.symm ?_
                refine lv_istore_n hx hb d_Model_above_134 rfl hl (by decide) rfl (fun ls hl => ?_)
                have hl : lv_has ls 6 [(2, .int (sp b (sp b x (K k) (M k)) (OK k) (OM k))), (5, .int 0), (4, .int 1), (0, .ref ob), (1, .int b), (3, .int (nI k))] := hl
                refine W.eq (g2 := F0 m 135 ls []) rfl ?_
                refine lv_iinc hx hb d_Model_above_135 hl (k := 5) rfl (v := nI (C - f)) ((nI_1 _).trans (congrArg nI hk1)) (by decide) rfl (fun ls hl => ?_)
                have hl : lv_has ls 6 [(3, .int (nI (C - f))), (2, .int (sp b (sp b x (K k) (M k)) (OK k) (OM k))), (5, .int 0), (4, .int 1), (0, .ref ob), (1, .int b)] := hl
                refine lv_goto hx hb d_Model_above_138 (tgt := 4) rfl ?_
                exact ih4 f (sp b (sp b x (K k) (M k)) (OK k) (OM k)) ls _ ⟨by omega, hZ, lv_sub hl [4, 5, 1, 0] rfl, hS⟩ (by omega)
              · skip
                refine lv_aload_n hx hb d_Model_above_87 rfl (lv_at hl 2 rfl) ?_
                refine va_get (ci := 3) (C := R_Model) (T := F_Model) (N := 24) hx hb hts in_Model hown hK hP 0 rfl rfl 16 (by decide) (hts _ wk_252) (fun _ h => h) rfl d_Model_above_88 ?_
                refine lv_iload_n hx hb d_Model_above_91 rfl (lv_at hl 4 rfl) ?_
                refine ia_ld (i := k) hx hb hK hP 6 rfl rfl (by omega) (by omega) d_Model_above_92 ?_
                refine lv_iload_n hx hb d_Model_above_93 rfl (lv_at hl 3 rfl) ?_
                refine lv_icmp_le hx hb d_Model_above_94 (tgt := 101) rfl (fun hc94 => ?_) (fun hc94 => ?_)
                · skip
                  have hs : sp b (sp b x (K k) (M k)) (OK k) (OM k) = (sp b x (K k) (M k)) := if_neg (fun q => i32_irr (Int32.lt_of_lt_of_le q.2.1 hc94))
                  refine W.eq (g2 := F0 m 101 ls []) rfl ?_
                  refine lv_iconst hx hb d_Model_above_101 (v := 0) rfl ?_
                  refine lv_istore hx hb d_Model_above_102 hl (by decide) rfl (fun ls hl => ?_)
                  have hl : lv_has ls 6 [(5, .int 0), (2, .int (sp b x (K k) (M k))), (4, .int 1), (0, .ref ob), (1, .int b), (3, .int (nI k))] := hl
                  refine lv_iload hx hb d_Model_above_104 (lv_at hl 0 rfl) ?_
                  refine lv_if_eq hx hb d_Model_above_106 (tgt := 133) rfl (fun hc => ?_) (fun hc => absurd hc (fun q => q rfl))
                  refine lv_iload_n hx hb d_Model_above_133 rfl (lv_at hl 1 rfl) ?_
                  refine lv_asI (y := sp b (sp b x (K k) (M k)) (OK k) (OM k)) hs.symm ?_
                  refine lv_istore_n hx hb d_Model_above_134 rfl hl (by decide) rfl (fun ls hl => ?_)
                  have hl : lv_has ls 6 [(2, .int (sp b (sp b x (K k) (M k)) (OK k) (OM k))), (5, .int 0), (4, .int 1), (0, .ref ob), (1, .int b), (3, .int (nI k))] := hl
                  refine lv_iinc hx hb d_Model_above_135 hl (k := 5) rfl (v := nI (C - f)) ((nI_1 _).trans (congrArg nI hk1)) (by decide) rfl (fun ls hl => ?_)
                  have hl : lv_has ls 6 [(3, .int (nI (C - f))), (2, .int (sp b (sp b x (K k) (M k)) (OK k) (OM k))), (5, .int 0), (4, .int 1), (0, .ref ob), (1, .int b)] := hl
                  refine lv_goto hx hb d_Model_above_138 (tgt := 4) rfl ?_
                  exact ih4 f (sp b (sp b x (K k) (M k)) (OK k) (OM k)) ls _ ⟨by omega, hZ, lv_sub hl [4, 5, 1, 0] rfl, hS⟩ (by omega)
                · skip
                  have hgt94 := i32_gt hc94
                  refine W.eq (g2 := F0 m 97 ls []) rfl ?_
                  refine lv_iconst hx hb d_Model_above_97 (v := 1) rfl ?_
                  refine lv_goto hx hb d_Model_above_98 (tgt := 102) rfl ?_
                  refine lv_istore hx hb d_Model_above_102 hl (by decide) rfl (fun ls hl => ?_)
                  have hl : lv_has ls 6 [(5, .int 1), (2, .int (sp b x (K k) (M k))), (4, .int 1), (0, .ref ob), (1, .int b), (3, .int (nI k))] := hl
                  refine lv_iload hx hb d_Model_above_104 (lv_at hl 0 rfl) ?_
                  refine lv_if_eq hx hb d_Model_above_106 (tgt := 133) rfl (fun hc => absurd hc (by decide)) (fun hc => ?_)
                  refine lv_iload_n hx hb d_Model_above_109 rfl (lv_at hl 1 rfl) ?_
                  refine lv_iload_n hx hb d_Model_above_110 rfl (lv_at hl 4 rfl) ?_
                  refine lv_icmp_eq hx hb d_Model_above_111 (tgt := 124) rfl (fun hc111 => ?_) (fun hc111 => ?_)
                  · skip
                    have hs : sp b (sp b x (K k) (M k)) (OK k) (OM k) = OK k := if_pos ⟨hc84, hgt94, Or.inl hc111⟩
                    refine lv_aload_n hx hb d_Model_above_124 rfl (lv_at hl 3 rfl) ?_
                    refine va_get (ci := 3) (C := R_Model) (T := F_Model) (N := 24) hx hb hts in_Model hown hK hP 0 rfl rfl 16 (by decide) (hts _ wk_252) (fun _ h => h) rfl d_Model_above_125 ?_
                    refine lv_iload_n hx hb d_Model_above_128 rfl (lv_at hl 5 rfl) ?_
                    refine ia_ld (i := k) hx hb hK hP 6 rfl rfl (by omega) (by omega) d_Model_above_129 ?_
                    refine lv_asI (y := sp b (sp b x (K k) (M k)) (OK k) (OM k)) hs.symm ?_
                    refine lv_goto hx hb d_Model_above_130 (tgt := 134) rfl ?_
                    refine lv_istore_n hx hb d_Model_above_134 rfl hl (by decide) rfl (fun ls hl => ?_)
                    have hl : lv_has ls 6 [(2, .int (sp b (sp b x (K k) (M k)) (OK k) (OM k))), (5, .int 1), (4, .int 1), (0, .ref ob), (1, .int b), (3, .int (nI k))] := hl
                    refine lv_iinc hx hb d_Model_above_135 hl (k := 5) rfl (v := nI (C - f)) ((nI_1 _).trans (congrArg nI hk1)) (by decide) rfl (fun ls hl => ?_)
                    have hl : lv_has ls 6 [(3, .int (nI (C - f))), (2, .int (sp b (sp b x (K k) (M k)) (OK k) (OM k))), (5, .int 1), (4, .int 1), (0, .ref ob), (1, .int b)] := hl
                    refine lv_goto hx hb d_Model_above_138 (tgt := 4) rfl ?_
                    exact ih4 f (sp b (sp b x (K k) (M k)) (OK k) (OM k)) ls _ ⟨by omega, hZ, lv_sub hl [4, 5, 1, 0] rfl, hS⟩ (by omega)
                  · skip
                    refine lv_aload_n hx hb d_Model_above_114 rfl (lv_at hl 3 rfl) ?_
                    refine va_get (ci := 3) (C := R_Model) (T := F_Model) (N := 24) hx hb hts in_Model hown hK hP 0 rfl rfl 16 (by decide) (hts _ wk_252) (fun _ h => h) rfl d_Model_above_115 ?_
                    refine lv_iload_n hx hb d_Model_above_118 rfl (lv_at hl 5 rfl) ?_
                    refine ia_ld (i := k) hx hb hK hP 6 rfl rfl (by omega) (by omega) d_Model_above_119 ?_
                    refine lv_iload_n hx hb d_Model_above_120 rfl (lv_at hl 1 rfl) ?_
                    refine lv_icmp_ge hx hb d_Model_above_121 (tgt := 133) rfl (fun hc121 => ?_) (fun hc121 => ?_)
                    · skip
                      have hs : sp b (sp b x (K k) (M k)) (OK k) (OM k) = (sp b x (K k) (M k)) := if_neg (fun q => q.2.2.elim hc111 (fun y => i32_irr (Int32.lt_of_lt_of_le y hc121)))
                      refine lv_iload_n hx hb d_Model_above_133 rfl (lv_at hl 1 rfl) ?_
                      refine lv_asI (y := sp b (sp b x (K k) (M k)) (OK k) (OM k)) hs.symm ?_
                      refine lv_istore_n hx hb d_Model_above_134 rfl hl (by decide) rfl (fun ls hl => ?_)
                      have hl : lv_has ls 6 [(2, .int (sp b (sp b x (K k) (M k)) (OK k) (OM k))), (5, .int 1), (4, .int 1), (0, .ref ob), (1, .int b), (3, .int (nI k))] := hl
                      refine W.eq (g2 := F0 m 135 ls []) rfl ?_
                      refine lv_iinc hx hb d_Model_above_135 hl (k := 5) rfl (v := nI (C - f)) ((nI_1 _).trans (congrArg nI hk1)) (by decide) rfl (fun ls hl => ?_)
                      have hl : lv_has ls 6 [(3, .int (nI (C - f))), (2, .int (sp b (sp b x (K k) (M k)) (OK k) (OM k))), (5, .int 1), (4, .int 1), (0, .ref ob), (1, .int b)] := hl
                      refine lv_goto hx hb d_Model_above_138 (tgt := 4) rfl ?_
                      exact ih4 f (sp b (sp b x (K k) (M k)) (OK k) (OM k)) ls _ ⟨by omega, hZ, lv_sub hl [4, 5, 1, 0] rfl, hS⟩ (by omega)
                    · skip
                      have hs : sp b (sp b x (K k) (M k)) (OK k) (OM k) = OK k := if_pos ⟨hc84, hgt94, Or.inr (i32_gt hc121)⟩
                      refine lv_aload_n hx hb d_Model_above_124 rfl (lv_at hl 3 rfl) ?_
                      refine va_get (ci := 3) (C := R_Model) (T := F_Model) (N := 24) hx hb hts in_Model hown hK hP 0 rfl rfl 16 (by decide) (hts _ wk_252) (fun _ h => h) rfl d_Model_above_125 ?_
                      refine W.eq (g2 := F0 m 128 ls [.ref ck]) rfl ?_
                      refine lv_iload_n hx hb d_Model_above_128 rfl (lv_at hl 5 rfl) ?_
                      refine ia_ld (i := k) hx hb hK hP 6 rfl rfl (by omega) (by omega) d_Model_above_129 ?_
                      refine lv_asI (y := sp b (sp b x (K k) (M k)) (OK k) (OM k)) hs.symm ?_
                      refine lv_goto hx hb d_Model_above_130 (tgt := 134) rfl ?_
                      refine lv_istore_n hx hb d_Model_above_134 rfl hl (by decide) rfl (fun ls hl => ?_)
                      have hl : lv_has ls 6 [(2, .int (sp b (sp b x (K k) (M k)) (OK k) (OM k))), (5, .int 1), (4, .int 1), (0, .ref ob), (1, .int b), (3, .int (nI k))] := hl
                      refine lv_iinc hx hb d_Model_above_135 hl (k := 5) rfl (v := nI (C - f)) ((nI_1 _).trans (congrArg nI hk1)) (by decide) rfl (fun ls hl => ?_)
                      have hl : lv_has ls 6 [(3, .int (nI (C - f))), (2, .int (sp b (sp b x (K k) (M k)) (OK k) (OM k))), (5, .int 1), (4, .int 1), (0, .ref ob), (1, .int b)] := hl
                      refine lv_goto hx hb d_Model_above_138 (tgt := 4) rfl ?_
                      exact ih4 f (sp b (sp b x (K k) (M k)) (OK k) (OM k)) ls _ ⟨by omega, hZ, lv_sub hl [4, 5, 1, 0] rfl, hS⟩ (by omega)
          · skip
            have hs : sp b x (K k) (M k) = K k := if_pos ⟨hc19, hgt29, Or.inr (i32_gt hc56)⟩
            refine lv_aload_n hx hb d_Model_above_59 rfl (lv_at hl 1 rfl) ?_
            refine W.eq (g2 := F0 m 60 ls [.ref ob]) rfl ?_
            refine va_get (ci := 3) (C := R_Model) (T := F_Model) (N := 24) hx hb hts in_Model hown hK hP 0 rfl rfl 12 (by decide) (hts _ wk_248) (fun _ h => h) rfl d_Model_above_60 ?_
            refine lv_iload_n hx hb d_Model_above_63 rfl (lv_at hl 4 rfl) ?_
            refine ia_ld (i := k) hx hb hK hP 3 rfl rfl (by omega) (by omega) d_Model_above_64 ?_
            refine lv_asI (y := sp b x (K k) (M k)) hs.symm ?_
            refine lv_goto hx hb d_Model_above_65 (tgt := 69) rfl ?_
            refine lv_istore_n hx hb d_Model_above_69 rfl hl (by decide) rfl (fun ls hl => ?_)
            have hl : lv_has ls 6 [(2, .int (sp b x (K k) (M k))), (4, .int 1), (0, .ref ob), (1, .int b), (3, .int (nI k))] := hl
            refine lv_aload_n hx hb d_Model_above_70 rfl (lv_at hl 2 rfl) ?_
            refine va_get (ci := 3) (C := R_Model) (T := F_Model) (N := 24) hx hb hts in_Model hown hK hP 0 rfl rfl 14 (by decide) (hts _ wk_250) (fun _ h => h) rfl d_Model_above_71 ?_
            refine lv_if_eq hx hb d_Model_above_74 (tgt := 101) rfl (fun hc74 => ?_) (fun hc74 => ?_)
            · skip
              have hs : sp b (sp b x (K k) (M k)) (OK k) (OM k) = (sp b x (K k) (M k)) := if_neg (fun q => cnt_zero C (hmv hc74) k hk q.1)
              refine lv_iconst hx hb d_Model_above_101 (v := 0) rfl ?_
              refine lv_istore hx hb d_Model_above_102 hl (by decide) rfl (fun ls hl => ?_)
              have hl : lv_has ls 6 [(5, .int 0), (2, .int (sp b x (K k) (M k))), (4, .int 1), (0, .ref ob), (1, .int b), (3, .int (nI k))] := hl
              refine lv_iload hx hb d_Model_above_104 (lv_at hl 0 rfl) ?_
              refine lv_if_eq hx hb d_Model_above_106 (tgt := 133) rfl (fun hc => ?_) (fun hc => absurd hc (fun q => q rfl))
              refine lv_iload_n hx hb d_Model_above_133 rfl (lv_at hl 1 rfl) ?_
              refine lv_asI (y := sp b (sp b x (K k) (M k)) (OK k) (OM k)) hs.symm ?_
              refine lv_istore_n hx hb d_Model_above_134 rfl hl (by decide) rfl (fun ls hl => ?_)
              have hl : lv_has ls 6 [(2, .int (sp b (sp b x (K k) (M k)) (OK k) (OM k))), (5, .int 0), (4, .int 1), (0, .ref ob), (1, .int b), (3, .int (nI k))] := hl
              refine lv_iinc hx hb d_Model_above_135 hl (k := 5) rfl (v := nI (C - f)) ((nI_1 _).trans (congrArg nI hk1)) (by decide) rfl (fun ls hl => ?_)
              have hl : lv_has ls 6 [(3, .int (nI (C - f))), (2, .int (sp b (sp b x (K k) (M k)) (OK k) (OM k))), (5, .int 0), (4, .int 1), (0, .ref ob), (1, .int b)] := hl
              refine lv_goto hx hb d_Model_above_138 (tgt := 4) rfl ?_
              exact ih4 f (sp b (sp b x (K k) (M k)) (OK k) (OM k)) ls _ ⟨by omega, hZ, lv_sub hl [4, 5, 1, 0] rfl, hS⟩ (by omega)
            · skip
              refine lv_aload_n hx hb d_Model_above_77 rfl (lv_at hl 2 rfl) ?_
              refine va_get (ci := 3) (C := R_Model) (T := F_Model) (N := 24) hx hb hts in_Model hown hK hP 0 rfl rfl 15 (by decide) (hts _ wk_251) (fun _ h => h) rfl d_Model_above_78 ?_
              refine lv_iload_n hx hb d_Model_above_81 rfl (lv_at hl 4 rfl) ?_
              refine ia_ld (i := k) hx hb hK hP 5 rfl rfl (by omega) (by omega) d_Model_above_82 ?_
              refine lv_iconst hx hb d_Model_above_83 (v := 1) rfl ?_
              refine lv_icmp_ne hx hb d_Model_above_84 (tgt := 101) rfl (fun hc84 => ?_) (fun hc84 => ?_)
              · skip
                have hs : sp b (sp b x (K k) (M k)) (OK k) (OM k) = (sp b x (K k) (M k)) := if_neg (fun q => hc84 q.1)
                refine lv_iconst hx hb d_Model_above_101 (v := 0) rfl ?_
                refine lv_istore hx hb d_Model_above_102 hl (by decide) rfl (fun ls hl => ?_)
                have hl : lv_has ls 6 [(5, .int 0), (2, .int (sp b x (K k) (M k))), (4, .int 1), (0, .ref ob), (1, .int b), (3, .int (nI k))] := hl
                refine W.eq (g2 := F0 m 104 ls []) rfl ?_
                refine lv_iload hx hb d_Model_above_104 (lv_at hl 0 rfl) ?_
                refine lv_if_eq hx hb d_Model_above_106 (tgt := 133) rfl (fun hc => ?_) (fun hc => absurd hc (fun q => q rfl))
                refine lv_iload_n hx hb d_Model_above_133 rfl (lv_at hl 1 rfl) ?_
                refine lv_asI (y := sp b (sp b x (K k) (M k)) (OK k) (OM k)) hs.symm ?_
                refine lv_istore_n hx hb d_Model_above_134 rfl hl (by decide) rfl (fun ls hl => ?_)
                have hl : lv_has ls 6 [(2, .int (sp b (sp b x (K k) (M k)) (OK k) (OM k))), (5, .int 0), (4, .int 1), (0, .ref ob), (1, .int b), (3, .int (nI k))] := hl
                refine lv_iinc hx hb d_Model_above_135 hl (k := 5) rfl (v := nI (C - f)) ((nI_1 _).trans (congrArg nI hk1)) (by decide) rfl (fun ls hl => ?_)
                have hl : lv_has ls 6 [(3, .int (nI (C - f))), (2, .int (sp b (sp b x (K k) (M k)) (OK k) (OM k))), (5, .int 0), (4, .int 1), (0, .ref ob), (1, .int b)] := hl
                refine lv_goto hx hb d_Model_above_138 (tgt := 4) rfl ?_
                exact ih4 f (sp b (sp b x (K k) (M k)) (OK k) (OM k)) ls _ ⟨by omega, hZ, lv_sub hl [4, 5, 1, 0] rfl, hS⟩ (by omega)
              · skip
                refine lv_aload_n hx hb d_Model_above_87 rfl (lv_at hl 2 rfl) ?_
                refine va_get (ci := 3) (C := R_Model) (T := F_Model) (N := 24) hx hb hts in_Model hown hK hP 0 rfl rfl 16 (by decide) (hts _ wk_252) (fun _ h => h) rfl d_Model_above_88 ?_
                refine W.eq (g2 := F0 m 91 ls [.ref ck]) rfl ?_
                refine lv_iload_n hx hb d_Model_above_91 rfl (lv_at hl 4 rfl) ?_
                refine ia_ld (i := k) hx hb hK hP 6 rfl rfl (by omega) (by omega) d_Model_above_92 ?_
                refine lv_iload_n hx hb d_Model_above_93 rfl (lv_at hl 3 rfl) ?_
                refine lv_icmp_le hx hb d_Model_above_94 (tgt := 101) rfl (fun hc94 => ?_) (fun hc94 => ?_)
                · skip
                  have hs : sp b (sp b x (K k) (M k)) (OK k) (OM k) = (sp b x (K k) (M k)) := if_neg (fun q => i32_irr (Int32.lt_of_lt_of_le q.2.1 hc94))
                  refine lv_iconst hx hb d_Model_above_101 (v := 0) rfl ?_
                  refine lv_istore hx hb d_Model_above_102 hl (by decide) rfl (fun ls hl => ?_)
                  have hl : lv_has ls 6 [(5, .int 0), (2, .int (sp b x (K k) (M k))), (4, .int 1), (0, .ref ob), (1, .int b), (3, .int (nI k))] := hl
                  refine lv_iload hx hb d_Model_above_104 (lv_at hl 0 rfl) ?_
                  refine lv_if_eq hx hb d_Model_above_106 (tgt := 133) rfl (fun hc => ?_) (fun hc => absurd hc (fun q => q rfl))
                  refine lv_iload_n hx hb d_Model_above_133 rfl (lv_at hl 1 rfl) ?_
                  refine lv_asI (y := sp b (sp b x (K k) (M k)) (OK k) (OM k)) hs.symm ?_
                  refine lv_istore_n hx hb d_Model_above_134 rfl hl (by decide) rfl (fun ls hl => ?_)
                  have hl : lv_has ls 6 [(2, .int (sp b (sp b x (K k) (M k)) (OK k) (OM k))), (5, .int 0), (4, .int 1), (0, .ref ob), (1, .int b), (3, .int (nI k))] := hl
                  refine lv_iinc hx hb d_Model_above_135 hl (k := 5) rfl (v := nI (C - f)) ((nI_1 _).trans (congrArg nI hk1)) (by decide) rfl (fun ls hl => ?_)
                  have hl : lv_has ls 6 [(3, .int (nI (C - f))), (2, .int (sp b (sp b x (K k) (M k)) (OK k) (OM k))), (5, .int 0), (4, .int 1), (0, .ref ob), (1, .int b)] := hl
                  refine lv_goto hx hb d_Model_above_138 (tgt := 4) rfl ?_
                  exact ih4 f (sp b (sp b x (K k) (M k)) (OK k) (OM k)) ls _ ⟨by omega, hZ, lv_sub hl [4, 5, 1, 0] rfl, hS⟩ (by omega)
                · skip
                  have hgt94 := i32_gt hc94
                  refine lv_iconst hx hb d_Model_above_97 (v := 1) rfl ?_
                  refine lv_goto hx hb d_Model_above_98 (tgt := 102) rfl ?_
                  refine lv_istore hx hb d_Model_above_102 hl (by decide) rfl (fun ls hl => ?_)
                  have hl : lv_has ls 6 [(5, .int 1), (2, .int (sp b x (K k) (M k))), (4, .int 1), (0, .ref ob), (1, .int b), (3, .int (nI k))] := hl
                  refine lv_iload hx hb d_Model_above_104 (lv_at hl 0 rfl) ?_
                  refine lv_if_eq hx hb d_Model_above_106 (tgt := 133) rfl (fun hc => absurd hc (by decide)) (fun hc => ?_)
                  refine lv_iload_n hx hb d_Model_above_109 rfl (lv_at hl 1 rfl) ?_
                  refine lv_iload_n hx hb d_Model_above_110 rfl (lv_at hl 4 rfl) ?_
                  refine lv_icmp_eq hx hb d_Model_above_111 (tgt := 124) rfl (fun hc111 => ?_) (fun hc111 => ?_)
                  · skip
                    have hs : sp b (sp b x (K k) (M k)) (OK k) (OM k) = OK k := if_pos ⟨hc84, hgt94, Or.inl hc111⟩
                    refine lv_aload_n hx hb d_Model_above_124 rfl (lv_at hl 3 rfl) ?_
                    refine va_get (ci := 3) (C := R_Model) (T := F_Model) (N := 24) hx hb hts in_Model hown hK hP 0 rfl rfl 16 (by decide) (hts _ wk_252) (fun _ h => h) rfl d_Model_above_125 ?_
                    refine lv_iload_n hx hb d_Model_above_128 rfl (lv_at hl 5 rfl) ?_
                    refine ia_ld (i := k) hx hb hK hP 6 rfl rfl (by omega) (by omega) d_Model_above_129 ?_
                    refine lv_asI (y := sp b (sp b x (K k) (M k)) (OK k) (OM k)) hs.symm ?_
                    refine W.eq (g2 := F0 m 130 ls [.int (sp b (sp b x (K k) (M k)) (OK k) (OM k))]) rfl ?_
                    refine lv_goto hx hb d_Model_above_130 (tgt := 134) rfl ?_
                    refine lv_istore_n hx hb d_Model_above_134 rfl hl (by decide) rfl (fun ls hl => ?_)
                    have hl : lv_has ls 6 [(2, .int (sp b (sp b x (K k) (M k)) (OK k) (OM k))), (5, .int 1), (4, .int 1), (0, .ref ob), (1, .int b), (3, .int (nI k))] := hl
                    refine lv_iinc hx hb d_Model_above_135 hl (k := 5) rfl (v := nI (C - f)) ((nI_1 _).trans (congrArg nI hk1)) (by decide) rfl (fun ls hl => ?_)
                    have hl : lv_has ls 6 [(3, .int (nI (C - f))), (2, .int (sp b (sp b x (K k) (M k)) (OK k) (OM k))), (5, .int 1), (4, .int 1), (0, .ref ob), (1, .int b)] := hl
                    refine lv_goto hx hb d_Model_above_138 (tgt := 4) rfl ?_
                    exact ih4 f (sp b (sp b x (K k) (M k)) (OK k) (OM k)) ls _ ⟨by omega, hZ, lv_sub hl [4, 5, 1, 0] rfl, hS⟩ (by omega)
                  · skip
                    refine lv_aload_n hx hb d_Model_above_114 rfl (lv_at hl 3 rfl) ?_
                    refine va_get (ci := 3) (C := R_Model) (T := F_Model) (N := 24) hx hb hts in_Model hown hK hP 0 rfl rfl 16 (by decide) (hts _ wk_252) (fun _ h => h) rfl d_Model_above_115 ?_
                    refine lv_iload_n hx hb d_Model_above_118 rfl (lv_at hl 5 rfl) ?_
                    refine ia_ld (i := k) hx hb hK hP 6 rfl rfl (by omega) (by omega) d_Model_above_119 ?_
                    refine W.eq (g2 := F0 m 120 ls [.int (OK k)]) rfl ?_
                    refine lv_iload_n hx hb d_Model_above_120 rfl (lv_at hl 1 rfl) ?_
                    refine lv_icmp_ge hx hb d_Model_above_121 (tgt := 133) rfl (fun hc121 => ?_) (fun hc121 => ?_)
                    · skip
                      have hs : sp b (sp b x (K k) (M k)) (OK k) (OM k) = (sp b x (K k) (M k)) := if_neg (fun q => q.2.2.elim hc111 (fun y => i32_irr (Int32.lt_of_lt_of_le y hc121)))
                      refine lv_iload_n hx hb d_Model_above_133 rfl (lv_at hl 1 rfl) ?_
                      refine lv_asI (y := sp b (sp b x (K k) (M k)) (OK k) (OM k)) hs.symm ?_
                      refine lv_istore_n hx hb d_Model_above_134 rfl hl (by decide) rfl (fun ls hl => ?_)
                      have hl : lv_has ls 6 [(2, .int (sp b (sp b x (K k) (M k)) (OK k) (OM k))), (5, .int 1), (4, .int 1), (0, .ref ob), (1, .int b), (3, .int (nI k))] := hl
                      refine lv_iinc hx hb d_Model_above_135 hl (k := 5) rfl (v := nI (C - f)) ((nI_1 _).trans (congrArg nI hk1)) (by decide) rfl (fun ls hl => ?_)
                      have hl : lv_has ls 6 [(3, .int (nI (C - f))), (2, .int (sp b (sp b x (K k) (M k)) (OK k) (OM k))), (5, .int 1), (4, .int 1), (0, .ref ob), (1, .int b)] := hl
                      refine lv_goto hx hb d_Model_above_138 (tgt := 4) rfl ?_
                      exact ih4 f (sp b (sp b x (K k) (M k)) (OK k) (OM k)) ls _ ⟨by omega, hZ, lv_sub hl [4, 5, 1, 0] rfl, hS⟩ (by omega)
                    · skip
                      have hs : sp b (sp b x (K k) (M k)) (OK k) (OM k) = OK k := if_pos ⟨hc84, hgt94, Or.inr (i32_gt hc121)⟩
                      refine lv_aload_n hx hb d_Model_above_124 rfl (lv_at hl 3 rfl) ?_
                      refine va_get (ci := 3) (C := R_Model) (T := F_Model) (N := 24) hx hb hts in_Model hown hK hP 0 rfl rfl 16 (by decide) (hts _ wk_252) (fun _ h => h) rfl d_Model_above_125 ?_
                      refine lv_iload_n hx hb d_Model_above_128 rfl (lv_at hl 5 rfl) ?_
                      refine ia_ld (i := k) hx hb hK hP 6 rfl rfl (by omega) (by omega) d_Model_above_129 ?_
                      refine lv_asI (y := sp b (sp b x (K k) (M k)) (OK k) (OM k)) hs.symm ?_
                      refine lv_goto hx hb d_Model_above_130 (tgt := 134) rfl ?_
                      refine lv_istore_n hx hb d_Model_above_134 rfl hl (by decide) rfl (fun ls hl => ?_)
                      have hl : lv_has ls 6 [(2, .int (sp b (sp b x (K k) (M k)) (OK k) (OM k))), (5, .int 1), (4, .int 1), (0, .ref ob), (1, .int b), (3, .int (nI k))] := hl
                      refine lv_iinc hx hb d_Model_above_135 hl (k := 5) rfl (v := nI (C - f)) ((nI_1 _).trans (congrArg nI hk1)) (by decide) rfl (fun ls hl => ?_)
                      have hl : lv_has ls 6 [(3, .int (nI (C - f))), (2, .int (sp b (sp b x (K k) (M k)) (OK k) (OM k))), (5, .int 1), (4, .int 1), (0, .ref ob), (1, .int b)] := hl
                      refine lv_goto hx hb d_Model_above_138 (tgt := 4) rfl ?_
                      exact ih4 f (sp b (sp b x (K k) (M k)) (OK k) (OM k)) ls _ ⟨by omega, hZ, lv_sub hl [4, 5, 1, 0] rfl, hS⟩ (by omega)
