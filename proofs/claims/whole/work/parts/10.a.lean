set_option maxHeartbeats 4000000 in
set_option maxRecDepth 100000 in
theorem c_rotI (l : Launch)  {Hp : Heap} (x n : Int32) : Met l y_Int_rotateLeft (.code y_Int_rotateLeft b_Int_rotateLeft 2 (some .int) :: BG) ({ frames := 0, cells := 0, slots := 0, locals := 0 }) (pJ [.int x, .int n] Hp) (qRi (rl32 x n) Hp) 0 0 (fun _ => False) := by
  refine Met.ofW (cc := b_Int_rotateLeft) (maxL := 2) (ret := some .int) (by decide) rfl ?_
  intro p e s m args below meth c s₁ B hml hv
  obtain ⟨rfl, rfl⟩ := hv
  have hx := B.exec
  have hb := B.bytes
  have hr := B.returns
  have hts : ∀ w ∈ BG, w.before _ s = true := fun w h => atoms_spec (ws := .code y_Int_rotateLeft b_Int_rotateLeft 2 (some .int) :: BG) B.pre w (List.mem_cons_of_mem _ h)
  have hown : s.vm.findClass R_Int = some m.cls := findClass_of_methodNamed B.named
  have hlocks := B.notSynchronized
  have hS : va_S (fun _ => False) s.heap s.heap [] := va_S.rf
  have hl := lv_entry ([.int x, .int n]) (n := 2) (Nat.le_of_ble_eq_true rfl)
  rw [lg_entry_eq]
  generalize (lg_sl ([.int x, .int n]) ++ List.replicate (2 - (lg_sl ([.int x, .int n])).length) Slot.unset).toArray = ls at hl ⊢
  have hl : lv_has ls 2 [(0, .int x), (1, .int n)] := hl
  refine lv_iload_n hx hb d_Int_rotateLeft_0 rfl (lv_at hl 0 rfl) ?_
  refine lv_iload_n hx hb d_Int_rotateLeft_1 rfl (lv_at hl 1 rfl) ?_
  refine lv_ishl hx hb d_Int_rotateLeft_2 ?_
  refine lv_iload_n hx hb d_Int_rotateLeft_3 rfl (lv_at hl 0 rfl) ?_
  refine lv_iload_n hx hb d_Int_rotateLeft_4 rfl (lv_at hl 1 rfl) ?_
  refine lv_ineg hx hb d_Int_rotateLeft_5 ?_
  refine lv_iushr hx hb d_Int_rotateLeft_6 (v := ush x (-n)) rfl ?_
  refine lv_ior hx hb d_Int_rotateLeft_7 ?_
  exact rt_i hx hb hr hlocks rfl hS d_Int_rotateLeft_8
set_option maxHeartbeats 4000000 in
set_option maxRecDepth 100000 in
theorem c_rotL (l : Launch)  {Hp : Heap} (x : Int64) (n : Int32) : Met l y_Lng_rotateLeft (.code y_Lng_rotateLeft b_Lng_rotateLeft 3 (some .long) :: BG) ({ frames := 0, cells := 0, slots := 0, locals := 0 }) (pJ [.long x, .int n] Hp) (qRl (rl64 x n) Hp) 0 0 (fun _ => False) := by
  refine Met.ofW (cc := b_Lng_rotateLeft) (maxL := 3) (ret := some .long) (by decide) rfl ?_
  intro p e s m args below meth c s₁ B hml hv
  obtain ⟨rfl, rfl⟩ := hv
  have hx := B.exec
  have hb := B.bytes
  have hr := B.returns
  have hts : ∀ w ∈ BG, w.before _ s = true := fun w h => atoms_spec (ws := .code y_Lng_rotateLeft b_Lng_rotateLeft 3 (some .long) :: BG) B.pre w (List.mem_cons_of_mem _ h)
  have hown : s.vm.findClass R_Lng = some m.cls := findClass_of_methodNamed B.named
  have hlocks := B.notSynchronized
  have hS : va_S (fun _ => False) s.heap s.heap [] := va_S.rf
  have hl := lv_entry ([.long x, .int n]) (n := 3) (Nat.le_of_ble_eq_true rfl)
  rw [lg_entry_eq]
  generalize (lg_sl ([.long x, .int n]) ++ List.replicate (3 - (lg_sl ([.long x, .int n])).length) Slot.unset).toArray = ls at hl ⊢
  have hl : lv_has ls 3 [(0, .long x), (2, .int n)] := hl
  refine lv_lload_n hx hb d_Lng_rotateLeft_0 rfl (lv_at hl 0 rfl) ?_
  refine lv_iload_n hx hb d_Lng_rotateLeft_1 rfl (lv_at hl 1 rfl) ?_
  refine lv_lshl hx hb d_Lng_rotateLeft_2 (v := lsl x n) rfl ?_
  refine lv_lload_n hx hb d_Lng_rotateLeft_3 rfl (lv_at hl 0 rfl) ?_
  refine lv_iload_n hx hb d_Lng_rotateLeft_4 rfl (lv_at hl 1 rfl) ?_
  refine lv_ineg hx hb d_Lng_rotateLeft_5 ?_
  refine lv_lushr hx hb d_Lng_rotateLeft_6 (v := lus x (-n)) rfl ?_
  refine lv_lor hx hb d_Lng_rotateLeft_7 ?_
  exact rt_l hx hb hr hlocks rfl hS d_Lng_rotateLeft_8
set_option maxHeartbeats 4000000 in
set_option maxRecDepth 100000 in
theorem c_mixed (l : Launch)  {Hp : Heap} (z : Int32) : Met l y_Gen_mixed (.code y_Gen_mixed b_Gen_mixed 2 (some .int) :: BG) ({ frames := 0, cells := 0, slots := 0, locals := 0 }) (pJ [.int z] Hp) (qRi (mx z) Hp) 0 0 (fun _ => False) := by
  refine Met.ofW (cc := b_Gen_mixed) (maxL := 2) (ret := some .int) (by decide) rfl ?_
  intro p e s m args below meth c s₁ B hml hv
  obtain ⟨rfl, rfl⟩ := hv
  have hx := B.exec
  have hb := B.bytes
  have hr := B.returns
  have hts : ∀ w ∈ BG, w.before _ s = true := fun w h => atoms_spec (ws := .code y_Gen_mixed b_Gen_mixed 2 (some .int) :: BG) B.pre w (List.mem_cons_of_mem _ h)
  have hown : s.vm.findClass R_Gen = some m.cls := findClass_of_methodNamed B.named
  have hlocks := B.notSynchronized
  have hS : va_S (fun _ => False) s.heap s.heap [] := va_S.rf
  have hl := lv_entry ([.int z]) (n := 2) (Nat.le_of_ble_eq_true rfl)
  rw [lg_entry_eq]
  generalize (lg_sl ([.int z]) ++ List.replicate (2 - (lg_sl ([.int z])).length) Slot.unset).toArray = ls at hl ⊢
  have hl : lv_has ls 2 [(0, .int z)] := hl
  refine lv_iload_n hx hb d_Gen_mixed_0 rfl (lv_at hl 0 rfl) ?_
  refine lv_istore_n hx hb d_Gen_mixed_1 rfl hl (by decide) rfl (fun ls hl => ?_)
  have hl : lv_has ls 2 [(1, .int z), (0, .int z)] := hl
  refine lv_iload_n hx hb d_Gen_mixed_2 rfl (lv_at hl 0 rfl) ?_
  refine lv_iload_n hx hb d_Gen_mixed_3 rfl (lv_at hl 0 rfl) ?_
  refine lv_bipush hx hb d_Gen_mixed_4 (v := 16) rfl ?_
  refine lv_iushr hx hb d_Gen_mixed_6 (v := ush z 16) rfl ?_
  refine lv_ixor hx hb d_Gen_mixed_7 ?_
  refine lv_istore_n hx hb d_Gen_mixed_8 rfl hl (by decide) rfl (fun ls hl => ?_)
  have hl : lv_has ls 2 [(1, .int (z ^^^ (ush z 16))), (0, .int z)] := hl
  refine lv_iload_n hx hb d_Gen_mixed_9 rfl (lv_at hl 0 rfl) ?_
  refine lv_ldc hx hb hown (hts _ wk_31) d_Gen_mixed_10 ?_
  refine lv_imul hx hb d_Gen_mixed_12 ?_
  refine lv_istore_n hx hb d_Gen_mixed_13 rfl hl (by decide) rfl (fun ls hl => ?_)
  have hl : lv_has ls 2 [(1, .int ((z ^^^ (ush z 16)) * (-2048144789))), (0, .int z)] := hl
  refine lv_iload_n hx hb d_Gen_mixed_14 rfl (lv_at hl 0 rfl) ?_
  refine lv_iload_n hx hb d_Gen_mixed_15 rfl (lv_at hl 0 rfl) ?_
  refine lv_bipush hx hb d_Gen_mixed_16 (v := 13) rfl ?_
  refine W.eq (g2 := F0 m 18 ls [.int 13, .int ((z ^^^ (ush z 16)) * (-2048144789)), .int ((z ^^^ (ush z 16)) * (-2048144789))]) rfl ?_
  refine lv_iushr hx hb d_Gen_mixed_18 (v := ush ((z ^^^ (ush z 16)) * (-2048144789)) 13) rfl ?_
  refine lv_ixor hx hb d_Gen_mixed_19 ?_
  refine lv_istore_n hx hb d_Gen_mixed_20 rfl hl (by decide) rfl (fun ls hl => ?_)
  have hl : lv_has ls 2 [(1, .int (((z ^^^ (ush z 16)) * (-2048144789)) ^^^ (ush ((z ^^^ (ush z 16)) * (-2048144789)) 13))), (0, .int z)] := hl
  refine lv_iload_n hx hb d_Gen_mixed_21 rfl (lv_at hl 0 rfl) ?_
  refine lv_ldc hx hb hown (hts _ wk_32) d_Gen_mixed_22 ?_
  refine lv_imul hx hb d_Gen_mixed_24 ?_
  refine lv_istore_n hx hb d_Gen_mixed_25 rfl hl (by decide) rfl (fun ls hl => ?_)
  have hl : lv_has ls 2 [(1, .int ((((z ^^^ (ush z 16)) * (-2048144789)) ^^^ (ush ((z ^^^ (ush z 16)) * (-2048144789)) 13)) * (-1028477387))), (0, .int z)] := hl
  refine lv_iload_n hx hb d_Gen_mixed_26 rfl (lv_at hl 0 rfl) ?_
  refine lv_iload_n hx hb d_Gen_mixed_27 rfl (lv_at hl 0 rfl) ?_
  refine lv_bipush hx hb d_Gen_mixed_28 (v := 16) rfl ?_
  refine lv_iushr hx hb d_Gen_mixed_30 (v := ush ((((z ^^^ (ush z 16)) * (-2048144789)) ^^^ (ush ((z ^^^ (ush z 16)) * (-2048144789)) 13)) * (-1028477387)) 16) rfl ?_
  refine lv_ixor hx hb d_Gen_mixed_31 ?_
  refine lv_istore_n hx hb d_Gen_mixed_32 rfl hl (by decide) rfl (fun ls hl => ?_)
  have hl : lv_has ls 2 [(1, .int (((((z ^^^ (ush z 16)) * (-2048144789)) ^^^ (ush ((z ^^^ (ush z 16)) * (-2048144789)) 13)) * (-1028477387)) ^^^ (ush ((((z ^^^ (ush z 16)) * (-2048144789)) ^^^ (ush ((z ^^^ (ush z 16)) * (-2048144789)) 13)) * (-1028477387)) 16))), (0, .int z)] := hl
  refine lv_iload_n hx hb d_Gen_mixed_33 rfl (lv_at hl 0 rfl) ?_
  exact rt_i hx hb hr hlocks rfl hS d_Gen_mixed_34
set_option maxHeartbeats 4000000 in
set_option maxRecDepth 100000 in
theorem c_joined (l : Launch)  {Hp : Heap} (lo hi : Int32) : Met l y_Table_joined (.code y_Table_joined b_Table_joined 2 (some .long) :: BG) ({ frames := 0, cells := 0, slots := 0, locals := 0 }) (pJ [.int lo, .int hi] Hp) (qRl (jn lo hi) Hp) 0 0 (fun _ => False) := by
  refine Met.ofW (cc := b_Table_joined) (maxL := 2) (ret := some .long) (by decide) rfl ?_
  intro p e s m args below meth c s₁ B hml hv
  obtain ⟨rfl, rfl⟩ := hv
  have hx := B.exec
  have hb := B.bytes
  have hr := B.returns
  have hts : ∀ w ∈ BG, w.before _ s = true := fun w h => atoms_spec (ws := .code y_Table_joined b_Table_joined 2 (some .long) :: BG) B.pre w (List.mem_cons_of_mem _ h)
  have hown : s.vm.findClass R_Table = some m.cls := findClass_of_methodNamed B.named
  have hlocks := B.notSynchronized
  have hS : va_S (fun _ => False) s.heap s.heap [] := va_S.rf
  have hl := lv_entry ([.int lo, .int hi]) (n := 2) (Nat.le_of_ble_eq_true rfl)
  rw [lg_entry_eq]
  generalize (lg_sl ([.int lo, .int hi]) ++ List.replicate (2 - (lg_sl ([.int lo, .int hi])).length) Slot.unset).toArray = ls at hl ⊢
  have hl : lv_has ls 2 [(0, .int lo), (1, .int hi)] := hl
  refine lv_iload_n hx hb d_Table_joined_0 rfl (lv_at hl 1 rfl) ?_
  refine lv_i2l hx hb d_Table_joined_1 (v := hi.toInt64) rfl ?_
  refine lv_bipush hx hb d_Table_joined_2 (v := 32) rfl ?_
  refine lv_lshl hx hb d_Table_joined_4 (v := lsl hi.toInt64 32) rfl ?_
  refine lv_iload_n hx hb d_Table_joined_5 rfl (lv_at hl 0 rfl) ?_
  refine lv_i2l hx hb d_Table_joined_6 (v := lo.toInt64) rfl ?_
  refine lv_ldc2 hx hb hown (hts _ wk_106) d_Table_joined_7 ?_
  refine lv_land hx hb d_Table_joined_10 ?_
  refine lv_lor hx hb d_Table_joined_11 ?_
  exact rt_l hx hb hr hlocks rfl hS d_Table_joined_12
