def LE (dC : Nat → ClassId) (dI : Nat → Nat → Nat) (cA : ClassId) (A : Nat → Prop) (Hs : Heap) (b o ob C : Nat) (lim : Int32) (i : Nat) (ls : Array Slot) (H : Heap) (locs : List Loc) : Prop :=
  ∃ (g tn nm nk nv nw to om ok ov ow bw bm bk bv cm ck cv : Nat) (lo rk : Int32) (v : Int32 × Int32 × Int32 × Int32) (M K V Wd OM OK OV Wo M' K' V' Wd' OM' OK' OV' : Nat → Int32) (k2 l2 : Int64) (z : Int64 × Int64 × Int64 × Int64), RC C M K V Wd OM OK OV Wo M' K' V' Wd' OM' OK' OV' k2 l2 ∧ lv_has ls 4 [(0, .ref b), (1, .ref o), (2, .ref ob), (3, .int (nI i))] ∧ va_P (dC, dI) cls [(o, .inr (2, [.int lim, .int (nI (3 * C / 4)), .ref g, .ref tn, .ref to, .int lo, .int rk])), (g, .inr (0, [.int v.1, .int v.2.1, .int v.2.2.1, .int v.2.2.2])), (tn, .inr (1, [.int (nI (C - 1)), .ref nm, .ref nk, .ref nv, .ref nw, .int (nI (cnt M C))])), (nm, .inl (cA, C, .inl M)), (nk, .inl (cA, C, .inl K)), (nv, .inl (cA, C, .inl V)), (nw, .inl (cA, 4, .inl Wd)), (to, .inr (1, [.int (nI (C - 1)), .ref om, .ref ok, .ref ov, .ref ow, .int (nI (cnt OM C))])), (om, .inl (cA, C, .inl OM)), (ok, .inl (cA, C, .inl OK)), (ov, .inl (cA, C, .inl OV)), (ow, .inl (cA, 4, .inl Wo)), (ob, .inr (3, [.int (nI C), .int lim, .int v.1, .int v.2.1, .int v.2.2.1, .int v.2.2.2, .ref bw, .long (jn (Wd 0) (Wd 1)), .long (jn (Wd 2) (Wd 3)), .long k2, .long l2, .ref bm, .ref bk, .ref bv, .int (mvf C OM'), .ref cm, .ref ck, .ref cv, .int lo, .int rk, .long z.1, .long z.2.1, .long z.2.2.1, .long z.2.2.2])), (bw, .inl (cA, 4, .inl Wd')), (bm, .inl (cA, 128, .inl M')), (bk, .inl (cA, 128, .inl K')), (bv, .inl (cA, 128, .inl V')), (cm, .inl (cA, 128, .inl OM')), (ck, .inl (cA, 128, .inl OK')), (cv, .inl (cA, 128, .inl OV'))] H ∧ va_D A [(o, .inr (2, [.int lim, .int (nI (3 * C / 4)), .ref g, .ref tn, .ref to, .int lo, .int rk])), (g, .inr (0, [.int v.1, .int v.2.1, .int v.2.2.1, .int v.2.2.2])), (tn, .inr (1, [.int (nI (C - 1)), .ref nm, .ref nk, .ref nv, .ref nw, .int (nI (cnt M C))])), (nm, .inl (cA, C, .inl M)), (nk, .inl (cA, C, .inl K)), (nv, .inl (cA, C, .inl V)), (nw, .inl (cA, 4, .inl Wd)), (to, .inr (1, [.int (nI (C - 1)), .ref om, .ref ok, .ref ov, .ref ow, .int (nI (cnt OM C))])), (om, .inl (cA, C, .inl OM)), (ok, .inl (cA, C, .inl OK)), (ov, .inl (cA, C, .inl OV)), (ow, .inl (cA, 4, .inl Wo)), (ob, .inr (3, [.int (nI C), .int lim, .int v.1, .int v.2.1, .int v.2.2.1, .int v.2.2.2, .ref bw, .long (jn (Wd 0) (Wd 1)), .long (jn (Wd 2) (Wd 3)), .long k2, .long l2, .ref bm, .ref bk, .ref bv, .int (mvf C OM'), .ref cm, .ref ck, .ref cv, .int lo, .int rk, .long z.1, .long z.2.1, .long z.2.2.1, .long z.2.2.2])), (bw, .inl (cA, 4, .inl Wd')), (bm, .inl (cA, 128, .inl M')), (bk, .inl (cA, 128, .inl K')), (bv, .inl (cA, 128, .inl V')), (cm, .inl (cA, 128, .inl OM')), (ck, .inl (cA, 128, .inl OK')), (cv, .inl (cA, 128, .inl OV'))] ∧ va_S A Hs H locs
theorem in_ps {big ws : List Cond} (ps : List Nat) (hp : ws = ps.filterMap (fun i => big[i]?)) : ∀ w ∈ ws, w ∈ big := fun w hw => by
  rw [hp] at hw
  obtain ⟨i, -, hi⟩ := List.mem_filterMap.mp hw
  first | exact List.mem_of_getElem? hi | exact List.getElem?_mem hi
theorem BG_0_in : ∀ w ∈ BG_0, w ∈ lw_tbl := in_ps [34, 35, 36, 37, 38, 39, 40, 41, 42, 43, 44, 45, 46, 47, 48, 49, 50, 51, 52, 53, 54, 55, 56, 57, 59, 60, 61, 62, 63, 64, 65, 66, 67, 68, 69, 70, 71, 72, 73, 74, 75, 77, 79, 81, 84, 85, 87, 88, 89, 90, 92, 94, 96, 98, 100, 102, 104, 106, 108, 110] (by decide +kernel)
theorem BG_1_in : ∀ w ∈ BG_1, w ∈ lw_tbl := in_ps [112, 115, 116, 118, 119, 122, 123, 126, 127, 128, 129, 130, 131, 132, 133, 134, 135, 136, 137, 138, 140, 142, 144, 146, 148, 150, 153, 154, 155, 156, 157, 159, 160, 163, 164, 167, 168, 169, 171, 172, 173, 175, 176, 177, 178, 179, 180, 181, 182, 183, 184, 185, 186, 187, 188, 189, 190, 192, 193, 194] (by decide +kernel)
theorem BG_2_in : ∀ w ∈ BG_2, w ∈ lw_tbl := in_ps [196, 197, 200, 201, 204, 205, 206, 207, 209, 210, 211, 213, 214, 215, 216, 217, 218, 221, 222, 223, 224, 225, 226, 227, 228, 229, 230, 233, 234, 235, 236, 237, 238, 239, 240, 241, 242, 243, 244, 245, 246, 247, 248, 249, 250, 251, 252, 253, 254, 256, 257, 258, 259, 260, 261, 262, 263, 264, 265, 266] (by decide +kernel)
theorem BG_3_in : ∀ w ∈ BG_3, w ∈ lw_tbl := in_ps [267, 270, 271, 272, 273, 274, 275, 276, 277, 278, 279, 282, 283, 284, 285, 286, 287, 288, 290, 291, 292, 293, 294, 295, 296, 297, 298, 299, 300, 301, 302, 303, 304, 305, 306, 307, 308, 309, 310, 311, 312, 313, 314, 315, 317, 318, 319, 321, 322, 323, 324, 325, 326, 327, 328, 329, 330, 331, 332, 333] (by decide +kernel)
theorem BG_4_in : ∀ w ∈ BG_4, w ∈ lw_tbl := in_ps [334, 335, 336, 337, 338, 339, 340, 341, 342, 343, 344, 345, 346, 347, 348, 349, 350, 351, 352, 353, 354, 356, 358, 360, 362, 364, 366, 368, 370, 372, 374, 376, 378, 380, 382, 384, 386, 388, 390, 392, 394, 396, 398, 400, 403, 404, 405, 406, 407, 409, 410, 411, 413, 414, 415, 417, 418, 419, 421, 422] (by decide +kernel)
theorem BG_5_in : ∀ w ∈ BG_5, w ∈ lw_tbl := in_ps [423, 425, 426, 427, 428, 429, 430, 431, 432, 434, 435, 436, 437, 438, 439, 440, 442, 443, 444, 446, 447, 448, 450, 451, 452, 454, 455, 456, 458, 459, 460, 461, 462, 463, 464, 465, 466, 467, 468, 469, 470, 471, 472, 474, 475, 476, 478, 479, 480, 481, 482, 483, 484, 485, 486, 487, 488, 489, 490, 491] (by decide +kernel)
theorem BG_6_in : ∀ w ∈ BG_6, w ∈ lw_tbl := in_ps [492, 493, 494, 495, 496, 497, 498, 499, 500, 501, 502, 503, 504, 505, 506, 507, 508, 509, 510, 511, 512, 513, 514, 515, 516, 517, 518, 519, 520, 521, 522, 523, 524, 525, 526, 527, 528, 0, 1, 2, 3, 4, 5, 6, 7, 8, 9, 10, 11, 12, 13, 14, 15, 16, 17, 18, 19, 20, 21, 22] (by decide +kernel)
theorem BG_7_in : ∀ w ∈ BG_7, w ∈ lw_tbl := in_ps [23, 24, 25, 26, 27, 28, 29, 30, 31, 32, 33] (by decide +kernel)
theorem BG_in : ∀ w ∈ BG, w ∈ lw_tbl := by
  unfold BG
  exact List.forall_mem_append.mpr ⟨BG_0_in, List.forall_mem_append.mpr ⟨BG_1_in, List.forall_mem_append.mpr ⟨BG_2_in, List.forall_mem_append.mpr ⟨BG_3_in, List.forall_mem_append.mpr ⟨BG_4_in, List.forall_mem_append.mpr ⟨BG_5_in, List.forall_mem_append.mpr ⟨BG_6_in, BG_7_in⟩⟩⟩⟩⟩⟩⟩
theorem NL_in : ∀ w ∈ NL, w ∈ lw_tbl := in_ps [58, 86, 91, 93, 95, 97, 99, 101, 120, 124, 161, 165, 198, 202, 219, 231, 255, 268, 280] (by decide +kernel)
theorem NL_on : NL.all (fun w => w.onTables) = true := by decide +kernel
section KL
variable {p : Program} {l : Launch} {e : Env} {R : Room} {s : State} {m : MethodId} {args : Array Value} {below : List Frame} {meth : Method} {c : Code} {H : Heap} {locs : List Loc} {cells slots : Nat} {Q : State → Prop}
variable {cc : ByteArray} {pc : Nat} {ls : Array Slot} {rest : List Value} {A : Nat → Prop} {H0 : Heap}
theorem s_ld (hexec : p.tables.exec = Jvm.exec) (hb : c.code = cc) {b L : Nat} {xs : Nat → Int32} (hX : va_X b L xs s H0) (hbl : b < H0.size) (hbA : ¬ A b) (hS : va_S A H0 H locs) {i : Nat} (hi : i < L) (hL : L < 2 ^ 31) (hdg : decode cc pc = .ok (.iaload, 1))
    (kk : W p l e R s m args below meth c H locs cells slots Q (F0 m (pc + 1) ls (.int (xs i) :: rest))) : W p l e R s m args below meth c H locs cells slots Q (F0 m pc ls (.int (nI i) :: .ref b :: rest)) :=
  va_sld hexec hb hX hbl hbA hS (vp_in_nI hi hL) hdg (by rw [nI_clamp (Nat.lt_trans hi hL)]; exact kk)
end KL
/-- what a read of the script asks for -/
abbrev pX (av : List Value) (Hp : Heap) (b L : Nat) (xs : Nat → Int32) : Array Value → State → Prop := va_Pc av (fun U => U.heap = Hp ∧ va_X b L xs U Hp)
theorem bl_X {av : List Value} {Hp : Heap} {b L : Nat} {xs : Nat → Int32} : FrameBlind (pX av Hp b L xs) := fun a U g mk q => ⟨q.1, q.2.1, va_X.moved (u := U) (U := U.calling g mk a) (Vm.Alike.refl U.vm) q.2.2⟩
def xsd (L : Nat) (xs : Nat → Int32) (k : Nat) : Int32 := if k < L then xs k else 0
set_option maxHeartbeats 4000000 in
set_option maxRecDepth 100000 in
theorem c_cell (l : Launch) {Hp : Heap} {b L : Nat} {xs : Nat → Int32} (hL : L ≤ 1539) (hbl : b < Hp.size) (k : Nat) (hk : k < 3) : Met l y_Law_cell (.code y_Law_cell b_Law_cell 2 (some .int) :: BG) ({ frames := 0, cells := 0, slots := 0, locals := 0 }) (pX [.ref b, .int (nI k)] Hp b L xs) (qRi (xsd L xs k) Hp) 0 0 (fun _ => False) := by
  refine Met.ofW (cc := b_Law_cell) (maxL := 2) (ret := some .int) (by decide) rfl ?_
  intro p e s m args below meth c s₁ B hml hv
  obtain ⟨rfl, rfl, hX⟩ := hv
  have hx := B.exec
  have hb := B.bytes
  have hr := B.returns
  have hlocks := B.notSynchronized
  have hS : va_S (fun _ => False) s.heap s.heap [] := va_S.rf
  have hl := lv_entry ([.ref b, .int (nI k)]) (n := 2) (Nat.le_of_ble_eq_true rfl)
  rw [lg_entry_eq]
  generalize (lg_sl ([.ref b, .int (nI k)]) ++ List.replicate (2 - (lg_sl ([.ref b, .int (nI k)])).length) Slot.unset).toArray = ls at hl ⊢
  have hl : lv_has ls 2 [(0, .ref b), (1, .int (nI k))] := hl
  refine lv_iload_n hx hb d_Law_cell_0 rfl (lv_at hl 1 rfl) ?_
  refine lv_aload_n hx hb d_Law_cell_1 rfl (lv_at hl 0 rfl) ?_
  refine va_slen hx hb hX hbl (fun h => h) hS d_Law_cell_2 ?_
  refine lv_icmp_ge hx hb d_Law_cell_3 (tgt := 12) rfl (fun hc => ?_) (fun hc => ?_)
  · have hq : ¬ k < L := fun h => nI_ge h (by omega) hc
    refine lv_iconst hx hb d_Law_cell_12 (v := 0) rfl ?_
    exact rt_i hx hb hr hlocks (if_neg hq).symm hS d_Law_cell_13
  · have hq : k < L := by
      by_cases e : k < L
      · exact e
      · exact absurd (nI_le (by omega) (by omega)) hc
    refine lv_aload_n hx hb d_Law_cell_6 rfl (lv_at hl 0 rfl) ?_
    refine lv_iload_n hx hb d_Law_cell_7 rfl (lv_at hl 1 rfl) ?_
    refine s_ld hx hb hX hbl (fun h => h) hS hq (by omega) d_Law_cell_8 ?_
    refine lv_goto hx hb d_Law_cell_9 (tgt := 13) rfl ?_
    exact rt_i hx hb hr hlocks (if_pos hq).symm hS d_Law_cell_13
