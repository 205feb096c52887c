theorem cA_eq {D : va_G} {cl : List vw_C} {cA cB : ClassId} {U : State} (h : va_K D cl ([(cA, .int)] ++ [(cB, .int)]) U) : cB = cA := by
  have h1 : U.vm.findClass ("[" ++ FieldType.int.toString) = some cA := (h.2 0 _ rfl).2
  have h2 : U.vm.findClass ("[" ++ FieldType.int.toString) = some cB := (h.2 1 _ rfl).2
  exact Option.some.inj (h2.symm.trans h1)
/-- the cells of a new object -/
def bC (b : Int32) : Nat := if b < 3 then 8 else if b = 3 then 8 else if b = 4 then 16 else if b = 5 then 32 else if b = 6 then 64 else 128
theorem bC_sz (b : Int32) : szC (bC b) := by
  unfold bC szC
  split
  · exact Or.inl rfl
  · split
    · exact Or.inl rfl
    · split
      · exact Or.inr (Or.inl rfl)
      · split
        · exact Or.inr (Or.inr (Or.inl rfl))
        · split
          · exact Or.inr (Or.inr (Or.inr (Or.inl rfl)))
          · exact Or.inr (Or.inr (Or.inr (Or.inr rfl)))
theorem i32_lts {a b : Int32} : a < b ↔ a.toInt < b.toInt := Int32.lt_iff_toInt_lt
theorem bC_cls (b : Int32) : (1 : Int32) <<< ((if 3 < (if b < 7 then b else 7) then (if b < 7 then b else 7) else 3) &&& 31) = nI (bC b) := by
  have e3 : (3 : Int32).toInt = 3 := by decide
  have e7 : (7 : Int32).toInt = 7 := by decide
  unfold bC
  by_cases h3 : b < 3
  · have h7 : b < 7 := by rw [i32_lts] at h3 ⊢; omega
    have h4 : ¬ 3 < b := by rw [i32_lts] at h3 ⊢; omega
    rw [if_pos h7, if_neg h4, if_pos h3]; decide
  · rw [if_neg h3]
    by_cases h7 : b < 7
    · rw [if_pos h7]
      obtain ⟨k, hk, rfl⟩ := nI_of2 (M := 7) (n := 7) (by decide) (fun h => h3 (by rw [i32_lts] at h ⊢; have : (0 : Int32).toInt = 0 := by decide
                                                                                   omega)) (i32_le h7)
      rcases (show k = 0 ∨ k = 1 ∨ k = 2 ∨ k = 3 ∨ k = 4 ∨ k = 5 ∨ k = 6 ∨ k = 7 by omega) with rfl | rfl | rfl | rfl | rfl | rfl | rfl | rfl <;> first | decide | exact absurd (by decide) h3
    · rw [if_neg h7, if_pos (by decide)]
      have n3 : ¬ b = 3 := fun h => h7 (by rw [h]; decide)
      have n4 : ¬ b = 4 := fun h => h7 (by rw [h]; decide)
      have n5 : ¬ b = 5 := fun h => h7 (by rw [h]; decide)
      have n6 : ¬ b = 6 := fun h => h7 (by rw [h]; decide)
      rw [if_neg n3, if_neg n4, if_neg n5, if_neg n6]; decide
def lmC (x : Int32) : Int32 := if 2 < (if x < 64 then x else 64) then (if x < 64 then x else 64) else 2
theorem mb_eq {C : Nat} (hC : szC C) : (3 : Int32) * nI C / 4 = nI (3 * C / 4) := by
  rcases hC with rfl | rfl | rfl | rfl | rfl <;> decide
theorem mk_pred {C : Nat} (hC : szC C) : nI C - 1 = nI (C - 1) := by
  have hlo := hC.lo
  have e : C = (C - 1) + 1 := by omega
  rw [e, nI_pred]; congr 1
set_option maxHeartbeats 4000000 in
set_option maxRecDepth 100000 in
theorem c_Table_init (l : Launch) {dC : Nat → ClassId} {dI : Nat → Nat → Nat} {cA : ClassId} (sz : Nat) {t C : Nat} (hC : szC C) : Met l y_Table_init (.code y_Table_init b_Table_init 2 none :: BG) ({ frames := 1, cells := 4, slots := 388, locals := 12 }) (pRW dC dI cA [.ref t, .int (nI C)] [(t, .inr (1, [.int 0, .null, .null, .null, .null, .int 0]))] sz) (va_Qv (fun (_ : Nat × Nat × Nat × Nat) => True) (fun u tS => wdB dC dI cA (va_A [(t, .inr (1, [.int 0, .null, .null, .null, .null, .int 0]))] sz) [(t, .inr (1, [.int (nI (C - 1)), .ref u.1, .ref u.2.1, .ref u.2.2.1, .ref u.2.2.2, .int 0])), (u.1, .inl (cA, C, .inl (fun _ => 0))), (u.2.1, .inl (cA, C, .inl (fun _ => 0))), (u.2.2.1, .inl (cA, C, .inl (fun _ => 0))), (u.2.2.2, .inl (cA, 4, .inl (fun _ => 0)))] tS) (va_A [(t, .inr (1, [.int 0, .null, .null, .null, .null, .int 0]))] sz)) 4 388 (va_A [(t, .inr (1, [.int 0, .null, .null, .null, .null, .int 0]))] sz) := by
  refine Met.ofW (cc := b_Table_init) (maxL := 2) (ret := none) (by decide) rfl ?_
  intro p e s m args below meth c s₁ B hml hv
  obtain ⟨rfl, hsz, hP, hK, hD0⟩ := hv
  have hx := B.exec
  have hb := B.bytes
  have hr := B.returns
  have hts : ∀ w ∈ BG, w.before _ s = true := fun w h => atoms_spec (ws := .code y_Table_init b_Table_init 2 none :: BG) B.pre w (List.mem_cons_of_mem _ h)
  have hown : s.vm.findClass R_Table = some m.cls := findClass_of_methodNamed B.named
  have hlocks := B.notSynchronized
  have hin : meth.name = "<init>" := (name_of_methodNamed B.named B.method).1
  subst hsz
  have hD := hD0.self (sz := s.heap.size)
  generalize hAe : va_A [(t, .inr (1, [.int 0, .null, .null, .null, .null, .int 0]))] s.heap.size = A at hD ⊢
  have hA : ∀ q : Nat, s.heap.size ≤ q → A q := fun q h => by rw [← hAe]; exact Or.inr h
  have hS : va_S A s.heap s.heap [] := va_S.rf
  have hP : va_P (dC, dI) cls [(t, .inr (1, [.int 0, .null, .null, .null, .null, .int 0]))] s.heap := hP
  have hl := lv_entry ([.ref t, .int (nI C)]) (n := 2) (Nat.le_of_ble_eq_true rfl)
  rw [lg_entry_eq]
  generalize (lg_sl ([.ref t, .int (nI C)]) ++ List.replicate (2 - (lg_sl ([.ref t, .int (nI C)])).length) Slot.unset).toArray = ls at hl ⊢
  have hl : lv_has ls 2 [(0, .ref t), (1, .int (nI C))] := hl
  have hlo := hC.lo
  have hhi := hC.hi
  refine lv_aload_n hx hb d_Table_init_0 rfl (lv_at hl 0 rfl) ?_
  refine W.objInit hx hb hown (hts _ wk_48) (hts _ wk_14) (hts _ wk_15) rfl (by rw [hml]; exact hl.1) rfl d_Table_init_1 (Nat.le_of_ble_eq_true rfl) (Nat.le_of_ble_eq_true rfl) ?_
  refine W.eq (g2 := F0 m 4 ls []) rfl ?_
  refine lv_aload_n hx hb d_Table_init_4 rfl (lv_at hl 0 rfl) ?_
  refine lv_iload_n hx hb d_Table_init_5 rfl (lv_at hl 1 rfl) ?_
  refine lv_iconst hx hb d_Table_init_6 (v := 1) rfl ?_
  refine lv_isub hx hb d_Table_init_7 ?_
  refine lv_asI (y := nI (C - 1)) (mk_pred hC) ?_
  refine va_putF (D := (dC, dI)) (ci := 1) (v := .int (nI (C - 1))) (ty := .int) (C := R_Table) (T := F_Table) (N := 6) hx hb hts in_Table t_Table t_Table_ok n_Table hown hK hP hD hS 0 rfl rfl 0 (by decide) (hts _ wk_49) (fun _ h => h) rfl hin rfl t_Table_0 rfl rfl (Nat.le_of_ble_eq_true rfl) d_Table_init_8 (fun H locs hP hD hS => ?_)
  have hP : va_P (dC, dI) cls [(t, .inr (1, [.int (nI (C - 1)), .null, .null, .null, .null, .int 0]))] H := hP
  have hD : va_D A [(t, .inr (1, [.int (nI (C - 1)), .null, .null, .null, .null, .int 0]))] := hD
  refine lv_aload_n hx hb d_Table_init_11 rfl (lv_at hl 0 rfl) ?_
  refine lv_iload_n hx hb d_Table_init_12 rfl (lv_at hl 1 rfl) ?_
  refine va_newa (atype := .int) (ty := .int) (N' := C) (a0 := (C, .inl (fun _ => 0))) hx hb (hts _ wk_61) rfl hK hP hD hS hA (fun _ => rfl) (nI_pos (by omega)) (nI_clamp (by omega)) (show C * 4 ≤ 536870912 by omega) (show 0 + 1 ≤ 4 by omega) (show 0 + C ≤ 388 by omega) d_Table_init_13 (fun q1 cB H hK2 hP hD hS => ?_)
  obtain rfl : cA = cB := (cA_eq hK2).symm
  have hP : va_P (dC, dI) cls [(t, .inr (1, [.int (nI (C - 1)), .null, .null, .null, .null, .int 0])), (q1, .inl (cA, C, .inl (fun _ => 0)))] H := hP
  have hD : va_D A [(t, .inr (1, [.int (nI (C - 1)), .null, .null, .null, .null, .int 0])), (q1, .inl (cA, C, .inl (fun _ => 0)))] := hD
  refine va_putF (D := (dC, dI)) (ci := 1) (v := .ref q1) (ty := .array .int) (C := R_Table) (T := F_Table) (N := 6) hx hb hts in_Table t_Table t_Table_ok n_Table hown hK hP hD hS 0 rfl rfl 1 (by decide) (hts _ wk_50) (fun _ h => h) rfl hin rfl t_Table_1 rfl rfl (Nat.le_of_ble_eq_true rfl) d_Table_init_15 (fun H locs hP hD hS => ?_)
  have hP : va_P (dC, dI) cls [(t, .inr (1, [.int (nI (C - 1)), .ref q1, .null, .null, .null, .int 0])), (q1, .inl (cA, C, .inl (fun _ => 0)))] H := hP
  have hD : va_D A [(t, .inr (1, [.int (nI (C - 1)), .ref q1, .null, .null, .null, .int 0])), (q1, .inl (cA, C, .inl (fun _ => 0)))] := hD
  refine lv_aload_n hx hb d_Table_init_18 rfl (lv_at hl 0 rfl) ?_
  refine lv_iload_n hx hb d_Table_init_19 rfl (lv_at hl 1 rfl) ?_
  refine va_newa (atype := .int) (ty := .int) (N' := C) (a0 := (C, .inl (fun _ => 0))) hx hb (hts _ wk_61) rfl hK hP hD hS hA (fun _ => rfl) (nI_pos (by omega)) (nI_clamp (by omega)) (show C * 4 ≤ 536870912 by omega) (show 1 + 1 ≤ 4 by omega) (show (0 + C) + C ≤ 388 by omega) d_Table_init_20 (fun q2 cB H hK2 hP hD hS => ?_)
  obtain rfl : cA = cB := (cA_eq hK2).symm
  have hP : va_P (dC, dI) cls [(t, .inr (1, [.int (nI (C - 1)), .ref q1, .null, .null, .null, .int 0])), (q1, .inl (cA, C, .inl (fun _ => 0))), (q2, .inl (cA, C, .inl (fun _ => 0)))] H := hP
  have hD : va_D A [(t, .inr (1, [.int (nI (C - 1)), .ref q1, .null, .null, .null, .int 0])), (q1, .inl (cA, C, .inl (fun _ => 0))), (q2, .inl (cA, C, .inl (fun _ => 0)))] := hD
  refine va_putF (D := (dC, dI)) (ci := 1) (v := .ref q2) (ty := .array .int) (C := R_Table) (T := F_Table) (N := 6) hx hb hts in_Table t_Table t_Table_ok n_Table hown hK hP hD hS 0 rfl rfl 2 (by decide) (hts _ wk_51) (fun _ h => h) rfl hin rfl t_Table_2 rfl rfl (Nat.le_of_ble_eq_true rfl) d_Table_init_22 (fun H locs hP hD hS => ?_)
  have hP : va_P (dC, dI) cls [(t, .inr (1, [.int (nI (C - 1)), .ref q1, .ref q2, .null, .null, .int 0])), (q1, .inl (cA, C, .inl (fun _ => 0))), (q2, .inl (cA, C, .inl (fun _ => 0)))] H := hP
  have hD : va_D A [(t, .inr (1, [.int (nI (C - 1)), .ref q1, .ref q2, .null, .null, .int 0])), (q1, .inl (cA, C, .inl (fun _ => 0))), (q2, .inl (cA, C, .inl (fun _ => 0)))] := hD
  refine W.eq (g2 := F0 m 25 ls []) rfl ?_
  refine lv_aload_n hx hb d_Table_init_25 rfl (lv_at hl 0 rfl) ?_
  refine lv_iload_n hx hb d_Table_init_26 rfl (lv_at hl 1 rfl) ?_
  refine va_newa (atype := .int) (ty := .int) (N' := C) (a0 := (C, .inl (fun _ => 0))) hx hb (hts _ wk_61) rfl hK hP hD hS hA (fun _ => rfl) (nI_pos (by omega)) (nI_clamp (by omega)) (show C * 4 ≤ 536870912 by omega) (show 2 + 1 ≤ 4 by omega) (show (0 + C + C) + C ≤ 388 by omega) d_Table_init_27 (fun q3 cB H hK2 hP hD hS => ?_)
  obtain rfl : cA = cB := (cA_eq hK2).symm
  have hP : va_P (dC, dI) cls [(t, .inr (1, [.int (nI (C - 1)), .ref q1, .ref q2, .null, .null, .int 0])), (q1, .inl (cA, C, .inl (fun _ => 0))), (q2, .inl (cA, C, .inl (fun _ => 0))), (q3, .inl (cA, C, .inl (fun _ => 0)))] H := hP
  have hD : va_D A [(t, .inr (1, [.int (nI (C - 1)), .ref q1, .ref q2, .null, .null, .int 0])), (q1, .inl (cA, C, .inl (fun _ => 0))), (q2, .inl (cA, C, .inl (fun _ => 0))), (q3, .inl (cA, C, .inl (fun _ => 0)))] := hD
  refine va_putF (D := (dC, dI)) (ci := 1) (v := .ref q3) (ty := .array .int) (C := R_Table) (T := F_Table) (N := 6) hx hb hts in_Table t_Table t_Table_ok n_Table hown hK hP hD hS 0 rfl rfl 3 (by decide) (hts _ wk_52) (fun _ h => h) rfl hin rfl t_Table_3 rfl rfl (Nat.le_of_ble_eq_true rfl) d_Table_init_29 (fun H locs hP hD hS => ?_)
  have hP : va_P (dC, dI) cls [(t, .inr (1, [.int (nI (C - 1)), .ref q1, .ref q2, .ref q3, .null, .int 0])), (q1, .inl (cA, C, .inl (fun _ => 0))), (q2, .inl (cA, C, .inl (fun _ => 0))), (q3, .inl (cA, C, .inl (fun _ => 0)))] H := hP
  have hD : va_D A [(t, .inr (1, [.int (nI (C - 1)), .ref q1, .ref q2, .ref q3, .null, .int 0])), (q1, .inl (cA, C, .inl (fun _ => 0))), (q2, .inl (cA, C, .inl (fun _ => 0))), (q3, .inl (cA, C, .inl (fun _ => 0)))] := hD
  refine lv_aload_n hx hb d_Table_init_32 rfl (lv_at hl 0 rfl) ?_
  refine lv_iconst hx hb d_Table_init_33 (v := 4) rfl ?_
  refine va_newa (atype := .int) (ty := .int) (N' := 4) (a0 := (4, .inl (fun _ => 0))) hx hb (hts _ wk_61) rfl hK hP hD hS hA (fun _ => rfl) (by decide) rfl (show 4 * 4 ≤ 536870912 by omega) (show 3 + 1 ≤ 4 by omega) (show 0 + C + C + C + 4 ≤ 388 by omega) d_Table_init_34 (fun q4 cB H hK2 hP hD hS => ?_)
  obtain rfl : cA = cB := (cA_eq hK2).symm
  have hP : va_P (dC, dI) cls [(t, .inr (1, [.int (nI (C - 1)), .ref q1, .ref q2, .ref q3, .null, .int 0])), (q1, .inl (cA, C, .inl (fun _ => 0))), (q2, .inl (cA, C, .inl (fun _ => 0))), (q3, .inl (cA, C, .inl (fun _ => 0))), (q4, .inl (cA, 4, .inl (fun _ => 0)))] H := hP
  have hD : va_D A [(t, .inr (1, [.int (nI (C - 1)), .ref q1, .ref q2, .ref q3, .null, .int 0])), (q1, .inl (cA, C, .inl (fun _ => 0))), (q2, .inl (cA, C, .inl (fun _ => 0))), (q3, .inl (cA, C, .inl (fun _ => 0))), (q4, .inl (cA, 4, .inl (fun _ => 0)))] := hD
  refine va_putF (D := (dC, dI)) (ci := 1) (v := .ref q4) (ty := .array .int) (C := R_Table) (T := F_Table) (N := 6) hx hb hts in_Table t_Table t_Table_ok n_Table hown hK hP hD hS 0 rfl rfl 4 (by decide) (hts _ wk_53) (fun _ h => h) rfl hin rfl t_Table_4 rfl rfl (Nat.le_of_ble_eq_true rfl) d_Table_init_36 (fun H locs hP hD hS => ?_)
  have hP : va_P (dC, dI) cls [(t, .inr (1, [.int (nI (C - 1)), .ref q1, .ref q2, .ref q3, .ref q4, .int 0])), (q1, .inl (cA, C, .inl (fun _ => 0))), (q2, .inl (cA, C, .inl (fun _ => 0))), (q3, .inl (cA, C, .inl (fun _ => 0))), (q4, .inl (cA, 4, .inl (fun _ => 0)))] H := hP
  have hD : va_D A [(t, .inr (1, [.int (nI (C - 1)), .ref q1, .ref q2, .ref q3, .ref q4, .int 0])), (q1, .inl (cA, C, .inl (fun _ => 0))), (q2, .inl (cA, C, .inl (fun _ => 0))), (q3, .inl (cA, C, .inl (fun _ => 0))), (q4, .inl (cA, 4, .inl (fun _ => 0)))] := hD
  refine lv_aload_n hx hb d_Table_init_39 rfl (lv_at hl 0 rfl) ?_
  refine lv_iconst hx hb d_Table_init_40 (v := 0) rfl ?_
  refine va_put (D := (dC, dI)) (ci := 1) (v := .int 0) (ty := .int) (C := R_Table) (T := F_Table) (N := 6) hx hb hts in_Table t_Table t_Table_ok n_Table hown hK hP hD hS 0 rfl rfl 5 (by decide) (hts _ wk_54) (fun _ h => h) rfl t_Table_5 rfl rfl (Nat.le_of_ble_eq_true rfl) d_Table_init_41 (fun H locs hP hD hS => ?_)
  have hP : va_P (dC, dI) cls [(t, .inr (1, [.int (nI (C - 1)), .ref q1, .ref q2, .ref q3, .ref q4, .int 0])), (q1, .inl (cA, C, .inl (fun _ => 0))), (q2, .inl (cA, C, .inl (fun _ => 0))), (q3, .inl (cA, C, .inl (fun _ => 0))), (q4, .inl (cA, 4, .inl (fun _ => 0)))] H := hP
  have hD : va_D A [(t, .inr (1, [.int (nI (C - 1)), .ref q1, .ref q2, .ref q3, .ref q4, .int 0])), (q1, .inl (cA, C, .inl (fun _ => 0))), (q2, .inl (cA, C, .inl (fun _ => 0))), (q3, .inl (cA, C, .inl (fun _ => 0))), (q4, .inl (cA, 4, .inl (fun _ => 0)))] := hD
  refine W.widen (k := 4) (n := 388) (by omega) (by omega) ?_
  exact W.vret hx hb hr (fun tS ht hW => ⟨⟨(q1, q2, q3, q4), rfl, trivial, by rw [ht]; exact hP, va_K.moved hW.alike hK, hD⟩, hS.F ht⟩) hS.2.2 d_Table_init_44 hlocks
