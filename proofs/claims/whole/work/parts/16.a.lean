theorem tr_7 (x : Int32) : (x <<< ((7 : Int32) &&& 31)) ||| ush x (32 - 7) = rl32 x 7 := by
  unfold rl32 ush
  rw [show ((32 - 7 : Int32).toUInt32 &&& Int32.toUInt32 31) = ((-7 : Int32).toUInt32 &&& Int32.toUInt32 31) by decide]
theorem tr_11 (x : Int32) : (x <<< ((11 : Int32) &&& 31)) ||| ush x (32 - 11) = rl32 x 11 := by
  unfold rl32 ush
  rw [show ((32 - 11 : Int32).toUInt32 &&& Int32.toUInt32 31) = ((-11 : Int32).toUInt32 &&& Int32.toUInt32 31) by decide]
theorem ar_13 (x : Int64) : lsl x 13 ||| lus x (64 - 13) = rl64 x 13 := by
  unfold rl64 lus
  rw [show ((64 - 13 : Int32).toInt64.toUInt64 &&& Int64.toUInt64 63) = ((-13 : Int32).toInt64.toUInt64 &&& Int64.toUInt64 63) by decide]
theorem ar_16 (x : Int64) : lsl x 16 ||| lus x (64 - 16) = rl64 x 16 := by
  unfold rl64 lus
  rw [show ((64 - 16 : Int32).toInt64.toUInt64 &&& Int64.toUInt64 63) = ((-16 : Int32).toInt64.toUInt64 &&& Int64.toUInt64 63) by decide]
theorem ar_32 (x : Int64) : lsl x 32 ||| lus x (64 - 32) = rl64 x 32 := by
  unfold rl64 lus
  rw [show ((64 - 32 : Int32).toInt64.toUInt64 &&& Int64.toUInt64 63) = ((-32 : Int32).toInt64.toUInt64 &&& Int64.toUInt64 63) by decide]
theorem ar_21 (x : Int64) : lsl x 21 ||| lus x (64 - 21) = rl64 x 21 := by
  unfold rl64 lus
  rw [show ((64 - 21 : Int32).toInt64.toUInt64 &&& Int64.toUInt64 63) = ((-21 : Int32).toInt64.toUInt64 &&& Int64.toUInt64 63) by decide]
theorem ar_17 (x : Int64) : lsl x 17 ||| lus x (64 - 17) = rl64 x 17 := by
  unfold rl64 lus
  rw [show ((64 - 17 : Int32).toInt64.toUInt64 &&& Int64.toUInt64 63) = ((-17 : Int32).toInt64.toUInt64 &&& Int64.toUInt64 63) by decide]
/-- the home of an int, by the two halves of the key -/
def hmk (C : Nat) (k l : Int64) (n : Int32) : Nat := (hs k l n).toInt32.toBitVec.toNat % C
theorem hmk_lt {C : Nat} (h : szC C) (k l : Int64) (n : Int32) : hmk C k l n < C := md_lt h
theorem l2i_and (x : Int64) (y : Int32) : (x &&& y.toInt64).toInt32 = x.toInt32 &&& y := by
  rw [Int64.toInt32_and, Int32.toInt32_toInt64]
theorem hmk_eq {C : Nat} (hC : szC C) (k l : Int64) (n : Int32) : (hs k l n &&& (nI C - 1).toInt64).toInt32 = nI (hmk C k l n) := by
  rw [l2i_and, mk_pred hC]; exact mk_andX hC _
theorem nI_rem {a C : Nat} (hC : szC C) (ha : a < 2 ^ 31) : nI a - nI a / nI C * nI C = nI (a % C) := by
  have hlo := hC.lo
  have hhi := hC.hi
  exact pk_rem ha (by omega) (by omega)
theorem nI_C0 {C : Nat} (hC : szC C) : ¬ nI C = 0 := by
  have hlo := hC.lo
  have hhi := hC.hi
  exact nI_ne0 (by omega) (by omega)
set_option maxHeartbeats 4000000 in
set_option maxRecDepth 100000 in
theorem c_mmixed (l : Launch)  {Hp : Heap} (w : Int32) : Met l y_Model_mixed (.code y_Model_mixed b_Model_mixed 2 (some .int) :: BG) ({ frames := 0, cells := 0, slots := 0, locals := 0 }) (pJ [.int w] Hp) (qRi (mx w) Hp) 0 0 (fun _ => False) := by
  refine Met.ofW (cc := b_Model_mixed) (maxL := 2) (ret := some .int) (by decide) rfl ?_
  intro p e s m args below meth c s₁ B hml hv
  obtain ⟨rfl, rfl⟩ := hv
  have hx := B.exec
  have hb := B.bytes
  have hr := B.returns
  have hts : ∀ w ∈ BG, w.before _ s = true := fun w h => atoms_spec (ws := .code y_Model_mixed b_Model_mixed 2 (some .int) :: BG) B.pre w (List.mem_cons_of_mem _ h)
  have hown : s.vm.findClass R_Model = some m.cls := findClass_of_methodNamed B.named
  have hlocks := B.notSynchronized
  have hS : va_S (fun _ => False) s.heap s.heap [] := va_S.rf
  have hl := lv_entry ([.int w]) (n := 2) (Nat.le_of_ble_eq_true rfl)
  rw [lg_entry_eq]
  generalize (lg_sl ([.int w]) ++ List.replicate (2 - (lg_sl ([.int w])).length) Slot.unset).toArray = ls at hl ⊢
  have hl : lv_has ls 2 [(0, .int w)] := hl
  refine lv_iload_n hx hb d_Model_mixed_0 rfl (lv_at hl 0 rfl) ?_
  refine lv_iload_n hx hb d_Model_mixed_1 rfl (lv_at hl 0 rfl) ?_
  refine lv_bipush hx hb d_Model_mixed_2 (v := 16) rfl ?_
  refine lv_iushr hx hb d_Model_mixed_4 (v := ush w 16) rfl ?_
  refine lv_ixor hx hb d_Model_mixed_5 ?_
  refine lv_ldc hx hb hown (hts _ wk_218) d_Model_mixed_6 ?_
  refine lv_imul hx hb d_Model_mixed_8 ?_
  refine lv_istore_n hx hb d_Model_mixed_9 rfl hl (by decide) rfl (fun ls hl => ?_)
  have hl : lv_has ls 2 [(1, .int ((w ^^^ (ush w 16)) * (-2048144789))), (0, .int w)] := hl
  refine lv_iload_n hx hb d_Model_mixed_10 rfl (lv_at hl 0 rfl) ?_
  refine lv_iload_n hx hb d_Model_mixed_11 rfl (lv_at hl 0 rfl) ?_
  refine lv_bipush hx hb d_Model_mixed_12 (v := 13) rfl ?_
  refine lv_iushr hx hb d_Model_mixed_14 (v := ush ((w ^^^ (ush w 16)) * (-2048144789)) 13) rfl ?_
  refine lv_ixor hx hb d_Model_mixed_15 ?_
  refine lv_ldc hx hb hown (hts _ wk_219) d_Model_mixed_16 ?_
  refine lv_imul hx hb d_Model_mixed_18 ?_
  refine W.eq (g2 := F0 m 19 ls [.int ((((w ^^^ (ush w 16)) * (-2048144789)) ^^^ (ush ((w ^^^ (ush w 16)) * (-2048144789)) 13)) * (-1028477387))]) rfl ?_
  refine lv_istore_n hx hb d_Model_mixed_19 rfl hl (by decide) rfl (fun ls hl => ?_)
  have hl : lv_has ls 2 [(1, .int ((((w ^^^ (ush w 16)) * (-2048144789)) ^^^ (ush ((w ^^^ (ush w 16)) * (-2048144789)) 13)) * (-1028477387))), (0, .int w)] := hl
  refine lv_iload_n hx hb d_Model_mixed_20 rfl (lv_at hl 0 rfl) ?_
  refine lv_iload_n hx hb d_Model_mixed_21 rfl (lv_at hl 0 rfl) ?_
  refine lv_bipush hx hb d_Model_mixed_22 (v := 16) rfl ?_
  refine lv_iushr hx hb d_Model_mixed_24 (v := ush ((((w ^^^ (ush w 16)) * (-2048144789)) ^^^ (ush ((w ^^^ (ush w 16)) * (-2048144789)) 13)) * (-1028477387)) 16) rfl ?_
  refine lv_ixor hx hb d_Model_mixed_25 ?_
  exact rt_i hx hb hr hlocks rfl hS d_Model_mixed_26
set_option maxHeartbeats 4000000 in
set_option maxRecDepth 100000 in
theorem c_turned (l : Launch)  {Hp : Heap} (w n : Int32) : Met l y_Model_turned (.code y_Model_turned b_Model_turned 2 (some .int) :: BG) ({ frames := 0, cells := 0, slots := 0, locals := 0 }) (pJ [.int w, .int n] Hp) (qRi ((w <<< (n &&& 31)) ||| ush w (32 - n)) Hp) 0 0 (fun _ => False) := by
  refine Met.ofW (cc := b_Model_turned) (maxL := 2) (ret := some .int) (by decide) rfl ?_
  intro p e s m args below meth c s₁ B hml hv
  obtain ⟨rfl, rfl⟩ := hv
  have hx := B.exec
  have hb := B.bytes
  have hr := B.returns
  have hts : ∀ w ∈ BG, w.before _ s = true := fun w h => atoms_spec (ws := .code y_Model_turned b_Model_turned 2 (some .int) :: BG) B.pre w (List.mem_cons_of_mem _ h)
  have hown : s.vm.findClass R_Model = some m.cls := findClass_of_methodNamed B.named
  have hlocks := B.notSynchronized
  have hS : va_S (fun _ => False) s.heap s.heap [] := va_S.rf
  have hl := lv_entry ([.int w, .int n]) (n := 2) (Nat.le_of_ble_eq_true rfl)
  rw [lg_entry_eq]
  generalize (lg_sl ([.int w, .int n]) ++ List.replicate (2 - (lg_sl ([.int w, .int n])).length) Slot.unset).toArray = ls at hl ⊢
  have hl : lv_has ls 2 [(0, .int w), (1, .int n)] := hl
  refine lv_iload_n hx hb d_Model_turned_0 rfl (lv_at hl 0 rfl) ?_
  refine lv_iload_n hx hb d_Model_turned_1 rfl (lv_at hl 1 rfl) ?_
  refine lv_ishl hx hb d_Model_turned_2 ?_
  refine lv_iload_n hx hb d_Model_turned_3 rfl (lv_at hl 0 rfl) ?_
  refine lv_bipush hx hb d_Model_turned_4 (v := 32) rfl ?_
  refine lv_iload_n hx hb d_Model_turned_6 rfl (lv_at hl 1 rfl) ?_
  refine lv_isub hx hb d_Model_turned_7 ?_
  refine lv_iushr hx hb d_Model_turned_8 (v := ush w (32 - n)) rfl ?_
  refine lv_ior hx hb d_Model_turned_9 ?_
  exact rt_i hx hb hr hlocks rfl hS d_Model_turned_10
set_option maxHeartbeats 4000000 in
set_option maxRecDepth 100000 in
theorem c_around (l : Launch)  {Hp : Heap} (w : Int64) (n : Int32) : Met l y_Model_around (.code y_Model_around b_Model_around 3 (some .long) :: BG) ({ frames := 0, cells := 0, slots := 0, locals := 0 }) (pJ [.long w, .int n] Hp) (qRl (lsl w n ||| lus w (64 - n)) Hp) 0 0 (fun _ => False) := by
  refine Met.ofW (cc := b_Model_around) (maxL := 3) (ret := some .long) (by decide) rfl ?_
  intro p e s m args below meth c s₁ B hml hv
  obtain ⟨rfl, rfl⟩ := hv
  have hx := B.exec
  have hb := B.bytes
  have hr := B.returns
  have hts : ∀ w ∈ BG, w.before _ s = true := fun w h => atoms_spec (ws := .code y_Model_around b_Model_around 3 (some .long) :: BG) B.pre w (List.mem_cons_of_mem _ h)
  have hown : s.vm.findClass R_Model = some m.cls := findClass_of_methodNamed B.named
  have hlocks := B.notSynchronized
  have hS : va_S (fun _ => False) s.heap s.heap [] := va_S.rf
  have hl := lv_entry ([.long w, .int n]) (n := 3) (Nat.le_of_ble_eq_true rfl)
  rw [lg_entry_eq]
  generalize (lg_sl ([.long w, .int n]) ++ List.replicate (3 - (lg_sl ([.long w, .int n])).length) Slot.unset).toArray = ls at hl ⊢
  have hl : lv_has ls 3 [(0, .long w), (2, .int n)] := hl
  refine lv_lload_n hx hb d_Model_around_0 rfl (lv_at hl 0 rfl) ?_
  refine lv_iload_n hx hb d_Model_around_1 rfl (lv_at hl 1 rfl) ?_
  refine lv_lshl hx hb d_Model_around_2 (v := lsl w n) rfl ?_
  refine lv_lload_n hx hb d_Model_around_3 rfl (lv_at hl 0 rfl) ?_
  refine lv_bipush hx hb d_Model_around_4 (v := 64) rfl ?_
  refine lv_iload_n hx hb d_Model_around_6 rfl (lv_at hl 1 rfl) ?_
  refine lv_isub hx hb d_Model_around_7 ?_
  refine lv_lushr hx hb d_Model_around_8 (v := lus w (64 - n)) rfl ?_
  refine lv_lor hx hb d_Model_around_9 ?_
  exact rt_l hx hb hr hlocks rfl hS d_Model_around_10
set_option maxHeartbeats 4000000 in
set_option maxRecDepth 100000 in
theorem c_mjoined (l : Launch)  {Hp : Heap} (lo hi : Int32) : Met l y_Model_joined (.code y_Model_joined b_Model_joined 2 (some .long) :: BG) ({ frames := 0, cells := 0, slots := 0, locals := 0 }) (pJ [.int lo, .int hi] Hp) (qRl (jn lo hi) Hp) 0 0 (fun _ => False) := by
  refine Met.ofW (cc := b_Model_joined) (maxL := 2) (ret := some .long) (by decide) rfl ?_
  intro p e s m args below meth c s₁ B hml hv
  obtain ⟨rfl, rfl⟩ := hv
  have hx := B.exec
  have hb := B.bytes
  have hr := B.returns
  have hts : ∀ w ∈ BG, w.before _ s = true := fun w h => atoms_spec (ws := .code y_Model_joined b_Model_joined 2 (some .long) :: BG) B.pre w (List.mem_cons_of_mem _ h)
  have hown : s.vm.findClass R_Model = some m.cls := findClass_of_methodNamed B.named
  have hlocks := B.notSynchronized
  have hS : va_S (fun _ => False) s.heap s.heap [] := va_S.rf
  have hl := lv_entry ([.int lo, .int hi]) (n := 2) (Nat.le_of_ble_eq_true rfl)
  rw [lg_entry_eq]
  generalize (lg_sl ([.int lo, .int hi]) ++ List.replicate (2 - (lg_sl ([.int lo, .int hi])).length) Slot.unset).toArray = ls at hl ⊢
  have hl : lv_has ls 2 [(0, .int lo), (1, .int hi)] := hl
  refine lv_iload_n hx hb d_Model_joined_0 rfl (lv_at hl 1 rfl) ?_
  refine lv_i2l hx hb d_Model_joined_1 (v := hi.toInt64) rfl ?_
  refine lv_bipush hx hb d_Model_joined_2 (v := 32) rfl ?_
  refine lv_lshl hx hb d_Model_joined_4 (v := lsl hi.toInt64 32) rfl ?_
  refine lv_iload_n hx hb d_Model_joined_5 rfl (lv_at hl 0 rfl) ?_
  refine lv_i2l hx hb d_Model_joined_6 (v := lo.toInt64) rfl ?_
  refine lv_ldc2 hx hb hown (hts _ wk_235) d_Model_joined_7 ?_
  refine lv_land hx hb d_Model_joined_10 ?_
  refine lv_lor hx hb d_Model_joined_11 ?_
  exact rt_l hx hb hr hlocks rfl hS d_Model_joined_12
set_option maxHeartbeats 4000000 in
set_option maxRecDepth 100000 in
theorem c_mdraw (l : Launch) {dC : Nat → ClassId} {dI : Nat → Nat → Nat} {cA : ClassId} (sz : Nat) {ob bw bm bk bv cm ck cv C : Nat} {lim lo ti mv : Int32} (v : Int32 × Int32 × Int32 × Int32) {k1 l1 k2 l2 : Int64} {z : Int64 × Int64 × Int64 × Int64} : Met l y_Model_draw (.code y_Model_draw b_Model_draw 3 (some .int) :: BG) ({ frames := 1, cells := 0, slots := 0, locals := 21 }) (pRW dC dI cA [.ref ob] [(ob, .inr (3, [.int (nI C), .int lim, .int v.1, .int v.2.1, .int v.2.2.1, .int v.2.2.2, .ref bw, .long k1, .long l1, .long k2, .long l2, .ref bm, .ref bk, .ref bv, .int mv, .ref cm, .ref ck, .ref cv, .int lo, .int ti, .long z.1, .long z.2.1, .long z.2.2.1, .long z.2.2.2]))] sz) (va_Qi (fun r (_ : Unit) => r = gO v) (fun _ tS => wdB dC dI cA (va_A [(ob, .inr (3, [.int (nI C), .int lim, .int v.1, .int v.2.1, .int v.2.2.1, .int v.2.2.2, .ref bw, .long k1, .long l1, .long k2, .long l2, .ref bm, .ref bk, .ref bv, .int mv, .ref cm, .ref ck, .ref cv, .int lo, .int ti, .long z.1, .long z.2.1, .long z.2.2.1, .long z.2.2.2]))] sz) [(ob, .inr (3, [.int (nI C), .int lim, .int ((gS v).1), .int ((gS v).2.1), .int ((gS v).2.2.1), .int ((gS v).2.2.2), .ref bw, .long k1, .long l1, .long k2, .long l2, .ref bm, .ref bk, .ref bv, .int mv, .ref cm, .ref ck, .ref cv, .int lo, .int ti, .long z.1, .long z.2.1, .long z.2.2.1, .long z.2.2.2]))] tS) (va_A [(ob, .inr (3, [.int (nI C), .int lim, .int v.1, .int v.2.1, .int v.2.2.1, .int v.2.2.2, .ref bw, .long k1, .long l1, .long k2, .long l2, .ref bm, .ref bk, .ref bv, .int mv, .ref cm, .ref ck, .ref cv, .int lo, .int ti, .long z.1, .long z.2.1, .long z.2.2.1, .long z.2.2.2]))] sz)) 0 0 (va_A [(ob, .inr (3, [.int (nI C), .int lim, .int v.1, .int v.2.1, .int v.2.2.1, .int v.2.2.2, .ref bw, .long k1, .long l1, .long k2, .long l2, .ref bm, .ref bk, .ref bv, .int mv, .ref cm, .ref ck, .ref cv, .int lo, .int ti, .long z.1, .long z.2.1, .long z.2.2.1, .long z.2.2.2]))] sz) := by
  refine Met.ofW (cc := b_Model_draw) (maxL := 3) (ret := some .int) (by decide) rfl ?_
  intro p e s m args below meth c s₁ B hml hv
  obtain ⟨rfl, hsz, hP, hK, hD0⟩ := hv
  have hx := B.exec
  have hb := B.bytes
  have hr := B.returns
  have hts : ∀ w ∈ BG, w.before _ s = true := fun w h => atoms_spec (ws := .code y_Model_draw b_Model_draw 3 (some .int) :: BG) B.pre w (List.mem_cons_of_mem _ h)
  have hown : s.vm.findClass R_Model = some m.cls := findClass_of_methodNamed B.named
  have hlocks := B.notSynchronized
  subst hsz
  have hD := hD0.self (sz := s.heap.size)
  generalize hAe : va_A [(ob, .inr (3, [.int (nI C), .int lim, .int v.1, .int v.2.1, .int v.2.2.1, .int v.2.2.2, .ref bw, .long k1, .long l1, .long k2, .long l2, .ref bm, .ref bk, .ref bv, .int mv, .ref cm, .ref ck, .ref cv, .int lo, .int ti, .long z.1, .long z.2.1, .long z.2.2.1, .long z.2.2.2]))] s.heap.size = A at hD ⊢
  have hA : ∀ q : Nat, s.heap.size ≤ q → A q := fun q h => by rw [← hAe]; exact Or.inr h
  have hS : va_S A s.heap s.heap [] := va_S.rf
  have hP : va_P (dC, dI) cls [(ob, .inr (3, [.int (nI C), .int lim, .int v.1, .int v.2.1, .int v.2.2.1, .int v.2.2.2, .ref bw, .long k1, .long l1, .long k2, .long l2, .ref bm, .ref bk, .ref bv, .int mv, .ref cm, .ref ck, .ref cv, .int lo, .int ti, .long z.1, .long z.2.1, .long z.2.2.1, .long z.2.2.2]))] s.heap := hP
  have hl := lv_entry ([.ref ob]) (n := 3) (Nat.le_of_ble_eq_true rfl)
  rw [lg_entry_eq]
  generalize (lg_sl ([.ref ob]) ++ List.replicate (3 - (lg_sl ([.ref ob])).length) Slot.unset).toArray = ls at hl ⊢
  have hl : lv_has ls 3 [(0, .ref ob)] := hl
  refine lv_aload_n hx hb d_Model_draw_0 rfl (lv_at hl 0 rfl) ?_
  refine va_get (ci := 3) (C := R_Model) (T := F_Model) (N := 24) hx hb hts in_Model hown hK hP 0 rfl rfl 3 (by decide) (hts _ wk_239) (fun _ h => h) rfl d_Model_draw_1 ?_
  refine lv_iconst hx hb d_Model_draw_4 (v := 5) rfl ?_
  refine lv_imul hx hb d_Model_draw_5 ?_
  refine lv_bipush hx hb d_Model_draw_6 (v := 7) rfl ?_
  refine ro_i (va_runS (As := [.int (v.2.1 * 5), .int 7]) (rest := []) ⟨hx, hb, hml, hown, hts⟩ (c_turned l (v.2.1 * 5) 7) (cwS 2 hts g_Model_63 rfl rfl rfl (by decide +kernel) ⟨Nat.le_of_ble_eq_true rfl, Nat.le_of_ble_eq_true rfl⟩) ⟨bl_J, fun U hU hW => ⟨rfl, hU⟩⟩ rfl rfl hl.1 rfl (lv_room (Nat.le_of_ble_eq_true rfl)) d_Model_draw_8 ⟨Nat.zero_le _, Nat.zero_le _⟩) hS (fun locs hS => ?_)
  refine lv_asI (y := rl32 (v.2.1 * 5) 7) (tr_7 _) ?_
  refine lv_bipush hx hb d_Model_draw_11 (v := 9) rfl ?_
  refine lv_imul hx hb d_Model_draw_13 ?_
  refine lv_istore_n hx hb d_Model_draw_14 rfl hl (by decide) rfl (fun ls hl => ?_)
  have hl : lv_has ls 3 [(1, .int ((rl32 (v.2.1 * 5) 7) * 9)), (0, .ref ob)] := hl
  refine lv_aload_n hx hb d_Model_draw_15 rfl (lv_at hl 1 rfl) ?_
  refine va_get (ci := 3) (C := R_Model) (T := F_Model) (N := 24) hx hb hts in_Model hown hK hP 0 rfl rfl 3 (by decide) (hts _ wk_239) (fun _ h => h) rfl d_Model_draw_16 ?_
  refine lv_bipush hx hb d_Model_draw_19 (v := 9) rfl ?_
  refine lv_ishl hx hb d_Model_draw_21 ?_
  refine lv_istore_n hx hb d_Model_draw_22 rfl hl (by decide) rfl (fun ls hl => ?_)
  have hl : lv_has ls 3 [(2, .int (v.2.1 <<< (9 &&& 31))), (1, .int ((rl32 (v.2.1 * 5) 7) * 9)), (0, .ref ob)] := hl
  refine lv_aload_n hx hb d_Model_draw_23 rfl (lv_at hl 2 rfl) ?_
  refine W.eq (g2 := F0 m 24 ls [.ref ob]) rfl ?_
  refine lv_aload_n hx hb d_Model_draw_24 rfl (lv_at hl 2 rfl) ?_
  refine va_get (ci := 3) (C := R_Model) (T := F_Model) (N := 24) hx hb hts in_Model hown hK hP 0 rfl rfl 4 (by decide) (hts _ wk_240) (fun _ h => h) rfl d_Model_draw_25 ?_
  refine lv_aload_n hx hb d_Model_draw_28 rfl (lv_at hl 2 rfl) ?_
  refine va_get (ci := 3) (C := R_Model) (T := F_Model) (N := 24) hx hb hts in_Model hown hK hP 0 rfl rfl 2 (by decide) (hts _ wk_238) (fun _ h => h) rfl d_Model_draw_29 ?_
  refine lv_ixor hx hb d_Model_draw_32 ?_
  refine va_put (D := (dC, dI)) (ci := 3) (v := .int (v.2.2.1 ^^^ v.1)) (ty := .int) (C := R_Model) (T := F_Model) (N := 24) hx hb hts in_Model t_Model t_Model_ok n_Model hown hK hP hD hS 0 rfl rfl 4 (by decide) (hts _ wk_240) (fun _ h => h) rfl t_Model_4 rfl rfl (Nat.le_of_ble_eq_true rfl) d_Model_draw_33 (fun H locs hP hD hS => ?_)
  have hP : va_P (dC, dI) cls [(ob, .inr (3, [.int (nI C), .int lim, .int v.1, .int v.2.1, .int (v.2.2.1 ^^^ v.1), .int v.2.2.2, .ref bw, .long k1, .long l1, .long k2, .long l2, .ref bm, .ref bk, .ref bv, .int mv, .ref cm, .ref ck, .ref cv, .int lo, .int ti, .long z.1, .long z.2.1, .long z.2.2.1, .long z.2.2.2]))] H := hP
  have hD : va_D A [(ob, .inr (3, [.int (nI C), .int lim, .int v.1, .int v.2.1, .int (v.2.2.1 ^^^ v.1), .int v.2.2.2, .ref bw, .long k1, .long l1, .long k2, .long l2, .ref bm, .ref bk, .ref bv, .int mv, .ref cm, .ref ck, .ref cv, .int lo, .int ti, .long z.1, .long z.2.1, .long z.2.2.1, .long z.2.2.2]))] := hD
  refine lv_aload_n hx hb d_Model_draw_36 rfl (lv_at hl 2 rfl) ?_
  refine lv_aload_n hx hb d_Model_draw_37 rfl (lv_at hl 2 rfl) ?_
  refine va_get (ci := 3) (C := R_Model) (T := F_Model) (N := 24) hx hb hts in_Model hown hK hP 0 rfl rfl 5 (by decide) (hts _ wk_241) (fun _ h => h) rfl d_Model_draw_38 ?_
  refine lv_aload_n hx hb d_Model_draw_41 rfl (lv_at hl 2 rfl) ?_
  refine va_get (ci := 3) (C := R_Model) (T := F_Model) (N := 24) hx hb hts in_Model hown hK hP 0 rfl rfl 3 (by decide) (hts _ wk_239) (fun _ h => h) rfl d_Model_draw_42 ?_
  refine lv_ixor hx hb d_Model_draw_45 ?_
  refine va_put (D := (dC, dI)) (ci := 3) (v := .int (v.2.2.2 ^^^ v.2.1)) (ty := .int) (C := R_Model) (T := F_Model) (N := 24) hx hb hts in_Model t_Model t_Model_ok n_Model hown hK hP hD hS 0 rfl rfl 5 (by decide) (hts _ wk_241) (fun _ h => h) rfl t_Model_5 rfl rfl (Nat.le_of_ble_eq_true rfl) d_Model_draw_46 (fun H locs hP hD hS => ?_)
  have hP : va_P (dC, dI) cls [(ob, .inr (3, [.int (nI C), .int lim, .int v.1, .int v.2.1, .int (v.2.2.1 ^^^ v.1), .int (v.2.2.2 ^^^ v.2.1), .ref bw, .long k1, .long l1, .long k2, .long l2, .ref bm, .ref bk, .ref bv, .int mv, .ref cm, .ref ck, .ref cv, .int lo, .int ti, .long z.1, .long z.2.1, .long z.2.2.1, .long z.2.2.2]))] H := hP
  have hD : va_D A [(ob, .inr (3, [.int (nI C), .int lim, .int v.1, .int v.2.1, .int (v.2.2.1 ^^^ v.1), .int (v.2.2.2 ^^^ v.2.1), .ref bw, .long k1, .long l1, .long k2, .long l2, .ref bm, .ref bk, .ref bv, .int mv, .ref cm, .ref ck, .ref cv, .int lo, .int ti, .long z.1, .long z.2.1, .long z.2.2.1, .long z.2.2.2]))] := hD
  refine lv_aload_n hx hb d_Model_draw_49 rfl (lv_at hl 2 rfl) ?_
  refine lv_aload_n hx hb d_Model_draw_50 rfl (lv_at hl 2 rfl) ?_
  refine va_get (ci := 3) (C := R_Model) (T := F_Model) (N := 24) hx hb hts in_Model hown hK hP 0 rfl rfl 3 (by decide) (hts _ wk_239) (fun _ h => h) rfl d_Model_draw_51 ?_
  refine W.eq (g2 := F0 m 54 ls [.int v.2.1, .ref ob]) rfl ?_
  refine lv_aload_n hx hb d_Model_draw_54 rfl (lv_at hl 2 rfl) ?_
  refine va_get (ci := 3) (C := R_Model) (T := F_Model) (N := 24) hx hb hts in_Model hown hK hP 0 rfl rfl 4 (by decide) (hts _ wk_240) (fun _ h => h) rfl d_Model_draw_55 ?_
  refine lv_ixor hx hb d_Model_draw_58 ?_
  refine va_put (D := (dC, dI)) (ci := 3) (v := .int (v.2.1 ^^^ (v.2.2.1 ^^^ v.1))) (ty := .int) (C := R_Model) (T := F_Model) (N := 24) hx hb hts in_Model t_Model t_Model_ok n_Model hown hK hP hD hS 0 rfl rfl 3 (by decide) (hts _ wk_239) (fun _ h => h) rfl t_Model_3 rfl rfl (Nat.le_of_ble_eq_true rfl) d_Model_draw_59 (fun H locs hP hD hS => ?_)
  have hP : va_P (dC, dI) cls [(ob, .inr (3, [.int (nI C), .int lim, .int v.1, .int (v.2.1 ^^^ (v.2.2.1 ^^^ v.1)), .int (v.2.2.1 ^^^ v.1), .int (v.2.2.2 ^^^ v.2.1), .ref bw, .long k1, .long l1, .long k2, .long l2, .ref bm, .ref bk, .ref bv, .int mv, .ref cm, .ref ck, .ref cv, .int lo, .int ti, .long z.1, .long z.2.1, .long z.2.2.1, .long z.2.2.2]))] H := hP
  have hD : va_D A [(ob, .inr (3, [.int (nI C), .int lim, .int v.1, .int (v.2.1 ^^^ (v.2.2.1 ^^^ v.1)), .int (v.2.2.1 ^^^ v.1), .int (v.2.2.2 ^^^ v.2.1), .ref bw, .long k1, .long l1, .long k2, .long l2, .ref bm, .ref bk, .ref bv, .int mv, .ref cm, .ref ck, .ref cv, .int lo, .int ti, .long z.1, .long z.2.1, .long z.2.2.1, .long z.2.2.2]))] := hD
  refine lv_aload_n hx hb d_Model_draw_62 rfl (lv_at hl 2 rfl) ?_
  refine lv_aload_n hx hb d_Model_draw_63 rfl (lv_at hl 2 rfl) ?_
  refine va_get (ci := 3) (C := R_Model) (T := F_Model) (N := 24) hx hb hts in_Model hown hK hP 0 rfl rfl 2 (by decide) (hts _ wk_238) (fun _ h => h) rfl d_Model_draw_64 ?_
  refine lv_aload_n hx hb d_Model_draw_67 rfl (lv_at hl 2 rfl) ?_
  refine va_get (ci := 3) (C := R_Model) (T := F_Model) (N := 24) hx hb hts in_Model hown hK hP 0 rfl rfl 5 (by decide) (hts _ wk_241) (fun _ h => h) rfl d_Model_draw_68 ?_
  refine lv_ixor hx hb d_Model_draw_71 ?_
  refine va_put (D := (dC, dI)) (ci := 3) (v := .int (v.1 ^^^ (v.2.2.2 ^^^ v.2.1))) (ty := .int) (C := R_Model) (T := F_Model) (N := 24) hx hb hts in_Model t_Model t_Model_ok n_Model hown hK hP hD hS 0 rfl rfl 2 (by decide) (hts _ wk_238) (fun _ h => h) rfl t_Model_2 rfl rfl (Nat.le_of_ble_eq_true rfl) d_Model_draw_72 (fun H locs hP hD hS => ?_)
  have hP : va_P (dC, dI) cls [(ob, .inr (3, [.int (nI C), .int lim, .int (v.1 ^^^ (v.2.2.2 ^^^ v.2.1)), .int (v.2.1 ^^^ (v.2.2.1 ^^^ v.1)), .int (v.2.2.1 ^^^ v.1), .int (v.2.2.2 ^^^ v.2.1), .ref bw, .long k1, .long l1, .long k2, .long l2, .ref bm, .ref bk, .ref bv, .int mv, .ref cm, .ref ck, .ref cv, .int lo, .int ti, .long z.1, .long z.2.1, .long z.2.2.1, .long z.2.2.2]))] H := hP
  have hD : va_D A [(ob, .inr (3, [.int (nI C), .int lim, .int (v.1 ^^^ (v.2.2.2 ^^^ v.2.1)), .int (v.2.1 ^^^ (v.2.2.1 ^^^ v.1)), .int (v.2.2.1 ^^^ v.1), .int (v.2.2.2 ^^^ v.2.1), .ref bw, .long k1, .long l1, .long k2, .long l2, .ref bm, .ref bk, .ref bv, .int mv, .ref cm, .ref ck, .ref cv, .int lo, .int ti, .long z.1, .long z.2.1, .long z.2.2.1, .long z.2.2.2]))] := hD
  refine lv_aload_n hx hb d_Model_draw_75 rfl (lv_at hl 2 rfl) ?_
  refine lv_aload_n hx hb d_Model_draw_76 rfl (lv_at hl 2 rfl) ?_
  refine va_get (ci := 3) (C := R_Model) (T := F_Model) (N := 24) hx hb hts in_Model hown hK hP 0 rfl rfl 4 (by decide) (hts _ wk_240) (fun _ h => h) rfl d_Model_draw_77 ?_
  refine lv_iload_n hx hb d_Model_draw_80 rfl (lv_at hl 0 rfl) ?_
  refine lv_ixor hx hb d_Model_draw_81 ?_
  refine W.eq (g2 := F0 m 82 ls [.int ((v.2.2.1 ^^^ v.1) ^^^ (v.2.1 <<< (9 &&& 31))), .ref ob]) rfl ?_
  refine va_put (D := (dC, dI)) (ci := 3) (v := .int ((v.2.2.1 ^^^ v.1) ^^^ (v.2.1 <<< (9 &&& 31)))) (ty := .int) (C := R_Model) (T := F_Model) (N := 24) hx hb hts in_Model t_Model t_Model_ok n_Model hown hK hP hD hS 0 rfl rfl 4 (by decide) (hts _ wk_240) (fun _ h => h) rfl t_Model_4 rfl rfl (Nat.le_of_ble_eq_true rfl) d_Model_draw_82 (fun H locs hP hD hS => ?_)
  have hP : va_P (dC, dI) cls [(ob, .inr (3, [.int (nI C), .int lim, .int (v.1 ^^^ (v.2.2.2 ^^^ v.2.1)), .int (v.2.1 ^^^ (v.2.2.1 ^^^ v.1)), .int ((v.2.2.1 ^^^ v.1) ^^^ (v.2.1 <<< (9 &&& 31))), .int (v.2.2.2 ^^^ v.2.1), .ref bw, .long k1, .long l1, .long k2, .long l2, .ref bm, .ref bk, .ref bv, .int mv, .ref cm, .ref ck, .ref cv, .int lo, .int ti, .long z.1, .long z.2.1, .long z.2.2.1, .long z.2.2.2]))] H := hP
  have hD : va_D A [(ob, .inr (3, [.int (nI C), .int lim, .int (v.1 ^^^ (v.2.2.2 ^^^ v.2.1)), .int (v.2.1 ^^^ (v.2.2.1 ^^^ v.1)), .int ((v.2.2.1 ^^^ v.1) ^^^ (v.2.1 <<< (9 &&& 31))), .int (v.2.2.2 ^^^ v.2.1), .ref bw, .long k1, .long l1, .long k2, .long l2, .ref bm, .ref bk, .ref bv, .int mv, .ref cm, .ref ck, .ref cv, .int lo, .int ti, .long z.1, .long z.2.1, .long z.2.2.1, .long z.2.2.2]))] := hD
  refine lv_aload_n hx hb d_Model_draw_85 rfl (lv_at hl 2 rfl) ?_
  refine lv_aload_n hx hb d_Model_draw_86 rfl (lv_at hl 2 rfl) ?_
  refine va_get (ci := 3) (C := R_Model) (T := F_Model) (N := 24) hx hb hts in_Model hown hK hP 0 rfl rfl 5 (by decide) (hts _ wk_241) (fun _ h => h) rfl d_Model_draw_87 ?_
  refine lv_bipush hx hb d_Model_draw_90 (v := 11) rfl ?_
  refine ro_i (va_runS (As := [.int (v.2.2.2 ^^^ v.2.1), .int 11]) (rest := [.ref ob]) ⟨hx, hb, hml, hown, hts⟩ (c_turned l (v.2.2.2 ^^^ v.2.1) 11) (cwS 2 hts g_Model_63 rfl rfl rfl (by decide +kernel) ⟨Nat.le_of_ble_eq_true rfl, Nat.le_of_ble_eq_true rfl⟩) ⟨bl_J, fun U hU hW => ⟨rfl, hU⟩⟩ rfl rfl hl.1 rfl (lv_room (Nat.le_of_ble_eq_true rfl)) d_Model_draw_92 ⟨Nat.zero_le _, Nat.zero_le _⟩) hS (fun locs hS => ?_)
  refine lv_asI (y := rl32 (v.2.2.2 ^^^ v.2.1) 11) (tr_11 _) ?_
  refine va_put (D := (dC, dI)) (ci := 3) (v := .int (rl32 (v.2.2.2 ^^^ v.2.1) 11)) (ty := .int) (C := R_Model) (T := F_Model) (N := 24) hx hb hts in_Model t_Model t_Model_ok n_Model hown hK hP hD hS 0 rfl rfl 5 (by decide) (hts _ wk_241) (fun _ h => h) rfl t_Model_5 rfl rfl (Nat.le_of_ble_eq_true rfl) d_Model_draw_95 (fun H locs hP hD hS => ?_)
  have hP : va_P (dC, dI) cls [(ob, .inr (3, [.int (nI C), .int lim, .int (v.1 ^^^ (v.2.2.2 ^^^ v.2.1)), .int (v.2.1 ^^^ (v.2.2.1 ^^^ v.1)), .int ((v.2.2.1 ^^^ v.1) ^^^ (v.2.1 <<< (9 &&& 31))), .int (rl32 (v.2.2.2 ^^^ v.2.1) 11), .ref bw, .long k1, .long l1, .long k2, .long l2, .ref bm, .ref bk, .ref bv, .int mv, .ref cm, .ref ck, .ref cv, .int lo, .int ti, .long z.1, .long z.2.1, .long z.2.2.1, .long z.2.2.2]))] H := hP
  have hD : va_D A [(ob, .inr (3, [.int (nI C), .int lim, .int (v.1 ^^^ (v.2.2.2 ^^^ v.2.1)), .int (v.2.1 ^^^ (v.2.2.1 ^^^ v.1)), .int ((v.2.2.1 ^^^ v.1) ^^^ (v.2.1 <<< (9 &&& 31))), .int (rl32 (v.2.2.2 ^^^ v.2.1) 11), .ref bw, .long k1, .long l1, .long k2, .long l2, .ref bm, .ref bk, .ref bv, .int mv, .ref cm, .ref ck, .ref cv, .int lo, .int ti, .long z.1, .long z.2.1, .long z.2.2.1, .long z.2.2.2]))] := hD
  refine lv_iload_n hx hb d_Model_draw_98 rfl (lv_at hl 1 rfl) ?_
  exact W.iret hx hb hr (fun tS ht hW => ⟨⟨_, (), rfl, rfl, by rw [ht]; exact hP, va_K.moved hW.alike hK, hD⟩, hS.F ht⟩) hS.2.2 d_Model_draw_99 hlocks
