/-- moving, as an int -/
def mvf (C : Nat) (M : Nat → Int32) : Int32 := if cnt M C = 0 then 0 else 1
/-- the answer of a look for the next keyed cell -/
def nxv (C : Nat) (M : Nat → Int32) : Int32 := if lst C M = C then -1 else nI (lst C M)
theorem nxv_lt {C : Nat} (hC : szC C) {M : Nat → Int32} : nxv C M < 0 ↔ lst C M = C := by
  have hhi := hC.hi
  unfold nxv
  rcases lst_spec C M with ⟨a, -⟩ | ⟨a, -, -⟩
  · rw [if_pos a]; exact ⟨fun _ => a, fun _ => by decide⟩
  · rw [if_neg (by omega)]; exact ⟨fun h => absurd h (nI_pos (by omega)), fun h => absurd h (by omega)⟩
theorem lst_cnt {C : Nat} {M : Nat → Int32} : lst C M = C ↔ cnt M C = 0 := by
  rcases lst_spec C M with ⟨a, b⟩ | ⟨a, b, c⟩
  · exact ⟨fun _ => cnt_none C b, fun _ => a⟩
  · exact ⟨fun h => absurd h (by omega), fun h => absurd b (cnt_zero C h _ a)⟩
theorem lk_lt {C : Nat} (hC : szC C) {M K : Nat → Int32} {x : Int32} {c : Nat} (hc : c < C) : lk C M K x C c < 0 ↔ lk C M K x C c = -1 := by
  have hhi := hC.hi
  rcases lk_cases hC M K x C c hc with h | ⟨j, h1, h2, -⟩
  · rw [h]; exact ⟨fun _ => rfl, fun _ => by decide⟩
  · rw [h2]; exact ⟨fun h => absurd h (nI_pos (by omega)), fun h => absurd h (nI_m1 (by omega))⟩
set_option maxHeartbeats 4000000 in
set_option maxRecDepth 100000 in
theorem c_find (l : Launch) {dC : Nat → ClassId} {dI : Nat → Nat → Nat} {cA : ClassId} (sz : Nat) {ob bw bm bk bv cm ck cv C : Nat} {lim lo ti mv : Int32} {v : Int32 × Int32 × Int32 × Int32} {k1 l1 k2 l2 : Int64} {z : Int64 × Int64 × Int64 × Int64} {M K V Wd OM OK OV : Nat → Int32} (hC : szC C) (h01 : ∀ a, a < C → M a = 0 ∨ M a = 1) (x : Int32) : Met l y_Model_find (.code y_Model_find b_Model_find 5 (some .int) :: BG) ({ frames := 4, cells := 0, slots := 0, locals := 91 }) (pRW dC dI cA [.ref ob, .int x] [(ob, .inr (3, [.int (nI C), .int lim, .int v.1, .int v.2.1, .int v.2.2.1, .int v.2.2.2, .ref bw, .long k1, .long l1, .long k2, .long l2, .ref bm, .ref bk, .ref bv, .int mv, .ref cm, .ref ck, .ref cv, .int lo, .int ti, .long z.1, .long z.2.1, .long z.2.2.1, .long z.2.2.2])), (bw, .inl (cA, 4, .inl Wd)), (bm, .inl (cA, 128, .inl M)), (bk, .inl (cA, 128, .inl K)), (bv, .inl (cA, 128, .inl V)), (cm, .inl (cA, 128, .inl OM)), (ck, .inl (cA, 128, .inl OK)), (cv, .inl (cA, 128, .inl OV))] sz) (va_Qi (fun r (u : Int64 × Int64 × Int64 × Int64) => r = lk C M K x C (hmk C k1 l1 x)) (fun (u : Int64 × Int64 × Int64 × Int64) tS => wdB dC dI cA (va_A [(ob, .inr (3, [.int (nI C), .int lim, .int v.1, .int v.2.1, .int v.2.2.1, .int v.2.2.2, .ref bw, .long k1, .long l1, .long k2, .long l2, .ref bm, .ref bk, .ref bv, .int mv, .ref cm, .ref ck, .ref cv, .int lo, .int ti, .long z.1, .long z.2.1, .long z.2.2.1, .long z.2.2.2])), (bw, .inl (cA, 4, .inl Wd)), (bm, .inl (cA, 128, .inl M)), (bk, .inl (cA, 128, .inl K)), (bv, .inl (cA, 128, .inl V)), (cm, .inl (cA, 128, .inl OM)), (ck, .inl (cA, 128, .inl OK)), (cv, .inl (cA, 128, .inl OV))] sz) [(ob, .inr (3, [.int (nI C), .int lim, .int v.1, .int v.2.1, .int v.2.2.1, .int v.2.2.2, .ref bw, .long k1, .long l1, .long k2, .long l2, .ref bm, .ref bk, .ref bv, .int mv, .ref cm, .ref ck, .ref cv, .int lo, .int ti, .long u.1, .long u.2.1, .long u.2.2.1, .long u.2.2.2])), (bw, .inl (cA, 4, .inl Wd)), (bm, .inl (cA, 128, .inl M)), (bk, .inl (cA, 128, .inl K)), (bv, .inl (cA, 128, .inl V)), (cm, .inl (cA, 128, .inl OM)), (ck, .inl (cA, 128, .inl OK)), (cv, .inl (cA, 128, .inl OV))] tS) (va_A [(ob, .inr (3, [.int (nI C), .int lim, .int v.1, .int v.2.1, .int v.2.2.1, .int v.2.2.2, .ref bw, .long k1, .long l1, .long k2, .long l2, .ref bm, .ref bk, .ref bv, .int mv, .ref cm, .ref ck, .ref cv, .int lo, .int ti, .long z.1, .long z.2.1, .long z.2.2.1, .long z.2.2.2])), (bw, .inl (cA, 4, .inl Wd)), (bm, .inl (cA, 128, .inl M)), (bk, .inl (cA, 128, .inl K)), (bv, .inl (cA, 128, .inl V)), (cm, .inl (cA, 128, .inl OM)), (ck, .inl (cA, 128, .inl OK)), (cv, .inl (cA, 128, .inl OV))] sz)) 0 0 (va_A [(ob, .inr (3, [.int (nI C), .int lim, .int v.1, .int v.2.1, .int v.2.2.1, .int v.2.2.2, .ref bw, .long k1, .long l1, .long k2, .long l2, .ref bm, .ref bk, .ref bv, .int mv, .ref cm, .ref ck, .ref cv, .int lo, .int ti, .long z.1, .long z.2.1, .long z.2.2.1, .long z.2.2.2])), (bw, .inl (cA, 4, .inl Wd)), (bm, .inl (cA, 128, .inl M)), (bk, .inl (cA, 128, .inl K)), (bv, .inl (cA, 128, .inl V)), (cm, .inl (cA, 128, .inl OM)), (ck, .inl (cA, 128, .inl OK)), (cv, .inl (cA, 128, .inl OV))] sz) := by
  refine Met.ofW (cc := b_Model_find) (maxL := 5) (ret := some .int) (by decide) rfl ?_
  intro p e s m args below meth c s₁ B hml hv
  obtain ⟨rfl, hsz, hP, hK, hD0⟩ := hv
  have hx := B.exec
  have hb := B.bytes
  have hr := B.returns
  have hts : ∀ w ∈ BG, w.before _ s = true := fun w h => atoms_spec (ws := .code y_Model_find b_Model_find 5 (some .int) :: BG) B.pre w (List.mem_cons_of_mem _ h)
  have hown : s.vm.findClass R_Model = some m.cls := findClass_of_methodNamed B.named
  have hlocks := B.notSynchronized
  subst hsz
  have hD := hD0.self (sz := s.heap.size)
  generalize hAe : va_A [(ob, .inr (3, [.int (nI C), .int lim, .int v.1, .int v.2.1, .int v.2.2.1, .int v.2.2.2, .ref bw, .long k1, .long l1, .long k2, .long l2, .ref bm, .ref bk, .ref bv, .int mv, .ref cm, .ref ck, .ref cv, .int lo, .int ti, .long z.1, .long z.2.1, .long z.2.2.1, .long z.2.2.2])), (bw, .inl (cA, 4, .inl Wd)), (bm, .inl (cA, 128, .inl M)), (bk, .inl (cA, 128, .inl K)), (bv, .inl (cA, 128, .inl V)), (cm, .inl (cA, 128, .inl OM)), (ck, .inl (cA, 128, .inl OK)), (cv, .inl (cA, 128, .inl OV))] s.heap.size = A at hD ⊢
  have hA : ∀ q : Nat, s.heap.size ≤ q → A q := fun q h => by rw [← hAe]; exact Or.inr h
  have hS : va_S A s.heap s.heap [] := va_S.rf
  have hP : va_P (dC, dI) cls [(ob, .inr (3, [.int (nI C), .int lim, .int v.1, .int v.2.1, .int v.2.2.1, .int v.2.2.2, .ref bw, .long k1, .long l1, .long k2, .long l2, .ref bm, .ref bk, .ref bv, .int mv, .ref cm, .ref ck, .ref cv, .int lo, .int ti, .long z.1, .long z.2.1, .long z.2.2.1, .long z.2.2.2])), (bw, .inl (cA, 4, .inl Wd)), (bm, .inl (cA, 128, .inl M)), (bk, .inl (cA, 128, .inl K)), (bv, .inl (cA, 128, .inl V)), (cm, .inl (cA, 128, .inl OM)), (ck, .inl (cA, 128, .inl OK)), (cv, .inl (cA, 128, .inl OV))] s.heap := hP
  have hl := lv_entry ([.ref ob, .int x]) (n := 5) (Nat.le_of_ble_eq_true rfl)
  rw [lg_entry_eq]
  generalize (lg_sl ([.ref ob, .int x]) ++ List.replicate (5 - (lg_sl ([.ref ob, .int x])).length) Slot.unset).toArray = ls at hl ⊢
  have hl : lv_has ls 5 [(0, .ref ob), (1, .int x)] := hl
  have hlo := hC.lo
  have hhi := hC.hi
  have hh := hmk_lt hC k1 l1 x
  refine lv_aload_n hx hb d_Model_find_0 rfl (lv_at hl 0 rfl) ?_
  refine lv_iload_n hx hb d_Model_find_1 rfl (lv_at hl 1 rfl) ?_
  refine rw_i (wc := [(ob, .inr (3, [.int (nI C), .int lim, .int v.1, .int v.2.1, .int v.2.2.1, .int v.2.2.2, .ref bw, .long k1, .long l1, .long k2, .long l2, .ref bm, .ref bk, .ref bv, .int mv, .ref cm, .ref ck, .ref cv, .int lo, .int ti, .long z.1, .long z.2.1, .long z.2.2.1, .long z.2.2.2]))]) (wr := [(bw, .inl (cA, 4, .inl Wd)), (bm, .inl (cA, 128, .inl M)), (bk, .inl (cA, 128, .inl K)), (bv, .inl (cA, 128, .inl V)), (cm, .inl (cA, 128, .inl OM)), (ck, .inl (cA, 128, .inl OK)), (cv, .inl (cA, 128, .inl OV))]) hP hD hS hA (va_runV (As := [.int x]) (rest := []) ⟨hx, hb, hml, hown, hts⟩ (c_home l _ hC x) (cwV 1 hts g_Model_118 rfl rfl rfl (by decide +kernel) ⟨Nat.le_of_ble_eq_true rfl, Nat.le_of_ble_eq_true rfl⟩) ⟨bl_RW, va_recv (q0 := 0) hK hP rfl rfl, pr_RW hK hP hD [0] rfl (by decide) rfl⟩ rfl rfl hl.1 rfl (lv_room (Nat.le_of_ble_eq_true rfl)) d_Model_find_2 ⟨Nat.zero_le _, Nat.zero_le _⟩) [0] [1, 2, 3, 4, 5, 6, 7] rfl rfl (by decide) (by decide) (fun rh y1 H locs hq hP hD hS => ?_)
  have hP : va_P (dC, dI) cls [(bw, .inl (cA, 4, .inl Wd)), (bm, .inl (cA, 128, .inl M)), (bk, .inl (cA, 128, .inl K)), (bv, .inl (cA, 128, .inl V)), (cm, .inl (cA, 128, .inl OM)), (ck, .inl (cA, 128, .inl OK)), (cv, .inl (cA, 128, .inl OV)), (ob, .inr (3, [.int (nI C), .int lim, .int v.1, .int v.2.1, .int v.2.2.1, .int v.2.2.2, .ref bw, .long k1, .long l1, .long k2, .long l2, .ref bm, .ref bk, .ref bv, .int mv, .ref cm, .ref ck, .ref cv, .int lo, .int ti, .long y1.1, .long y1.2.1, .long y1.2.2.1, .long y1.2.2.2]))] H := hP
  have hD : va_D A [(bw, .inl (cA, 4, .inl Wd)), (bm, .inl (cA, 128, .inl M)), (bk, .inl (cA, 128, .inl K)), (bv, .inl (cA, 128, .inl V)), (cm, .inl (cA, 128, .inl OM)), (ck, .inl (cA, 128, .inl OK)), (cv, .inl (cA, 128, .inl OV)), (ob, .inr (3, [.int (nI C), .int lim, .int v.1, .int v.2.1, .int v.2.2.1, .int v.2.2.2, .ref bw, .long k1, .long l1, .long k2, .long l2, .ref bm, .ref bk, .ref bv, .int mv, .ref cm, .ref ck, .ref cv, .int lo, .int ti, .long y1.1, .long y1.2.1, .long y1.2.2.1, .long y1.2.2.2]))] := hD
  have hP := hP.sub (ws' := [(ob, .inr (3, [.int (nI C), .int lim, .int v.1, .int v.2.1, .int v.2.2.1, .int v.2.2.2, .ref bw, .long k1, .long l1, .long k2, .long l2, .ref bm, .ref bk, .ref bv, .int mv, .ref cm, .ref ck, .ref cv, .int lo, .int ti, .long y1.1, .long y1.2.1, .long y1.2.2.1, .long y1.2.2.2])), (bw, .inl (cA, 4, .inl Wd)), (bm, .inl (cA, 128, .inl M)), (bk, .inl (cA, 128, .inl K)), (bv, .inl (cA, 128, .inl V)), (cm, .inl (cA, 128, .inl OM)), (ck, .inl (cA, 128, .inl OK)), (cv, .inl (cA, 128, .inl OV))]) [7, 0, 1, 2, 3, 4, 5, 6] rfl
  have hD := hD.sub (ws' := [(ob, .inr (3, [.int (nI C), .int lim, .int v.1, .int v.2.1, .int v.2.2.1, .int v.2.2.2, .ref bw, .long k1, .long l1, .long k2, .long l2, .ref bm, .ref bk, .ref bv, .int mv, .ref cm, .ref ck, .ref cv, .int lo, .int ti, .long y1.1, .long y1.2.1, .long y1.2.2.1, .long y1.2.2.2])), (bw, .inl (cA, 4, .inl Wd)), (bm, .inl (cA, 128, .inl M)), (bk, .inl (cA, 128, .inl K)), (bv, .inl (cA, 128, .inl V)), (cm, .inl (cA, 128, .inl OM)), (ck, .inl (cA, 128, .inl OK)), (cv, .inl (cA, 128, .inl OV))]) [7, 0, 1, 2, 3, 4, 5, 6] (by decide) rfl
  subst hq
  refine lv_istore_n hx hb d_Model_find_5 rfl hl (by decide) rfl (fun ls hl => ?_)
  have hl : lv_has ls 5 [(2, .int (nI (hmk C k1 l1 x))), (0, .ref ob), (1, .int x)] := hl
  refine lv_iconst hx hb d_Model_find_6 (v := (nI 0)) rfl ?_
  refine lv_istore_n hx hb d_Model_find_7 rfl hl (by decide) rfl (fun ls hl => ?_)
  have hl : lv_has ls 5 [(3, .int (nI 0)), (2, .int (nI (hmk C k1 l1 x))), (0, .ref ob), (1, .int x)] := hl
  rw [show (nI 0 : Int32) = nI (C - C) by rw [Nat.sub_self]] at hl
  refine W.eq (g2 := F0 m 8 ls []) rfl ?_
  refine lq1 (fun (f : Nat) => f) (fun (f : Nat) ls H locs => (f ≤ C) ∧ (lk C M K x f ((hmk C k1 l1 x + (C - f)) % C) = lk C M K x C (hmk C k1 l1 x)) ∧ lv_has ls 5 [(0, .ref ob), (1, .int x), (2, .int (nI (hmk C k1 l1 x))), (3, .int (nI (C - f)))] ∧ va_P (dC, dI) cls [(ob, .inr (3, [.int (nI C), .int lim, .int v.1, .int v.2.1, .int v.2.2.1, .int v.2.2.2, .ref bw, .long k1, .long l1, .long k2, .long l2, .ref bm, .ref bk, .ref bv, .int mv, .ref cm, .ref ck, .ref cv, .int lo, .int ti, .long y1.1, .long y1.2.1, .long y1.2.2.1, .long y1.2.2.2])), (bw, .inl (cA, 4, .inl Wd)), (bm, .inl (cA, 128, .inl M)), (bk, .inl (cA, 128, .inl K)), (bv, .inl (cA, 128, .inl V)), (cm, .inl (cA, 128, .inl OM)), (ck, .inl (cA, 128, .inl OK)), (cv, .inl (cA, 128, .inl OV))] H ∧ va_D A [(ob, .inr (3, [.int (nI C), .int lim, .int v.1, .int v.2.1, .int v.2.2.1, .int v.2.2.2, .ref bw, .long k1, .long l1, .long k2, .long l2, .ref bm, .ref bk, .ref bv, .int mv, .ref cm, .ref ck, .ref cv, .int lo, .int ti, .long y1.1, .long y1.2.1, .long y1.2.2.1, .long y1.2.2.2])), (bw, .inl (cA, 4, .inl Wd)), (bm, .inl (cA, 128, .inl M)), (bk, .inl (cA, 128, .inl K)), (bv, .inl (cA, 128, .inl V)), (cm, .inl (cA, 128, .inl OM)), (ck, .inl (cA, 128, .inl OK)), (cv, .inl (cA, 128, .inl OV))] ∧ va_S A s.heap H locs) (fun f ls H locs hE ih8 => ?_) C ls _ _ ⟨Nat.le_refl _, by rw [Nat.sub_self, Nat.add_zero, Nat.mod_eq_of_lt hh], lv_sub hl [2, 3, 1, 0] rfl, hP, hD, hS⟩
  obtain ⟨hf, hZ, hl, hP, hD, hS⟩ := hE
  refine lv_iload_n hx hb d_Model_find_8 rfl (lv_at hl 3 rfl) ?_
  refine lv_aload_n hx hb d_Model_find_9 rfl (lv_at hl 0 rfl) ?_
  refine va_get (ci := 3) (C := R_Model) (T := F_Model) (N := 24) hx hb hts in_Model hown hK hP 0 rfl rfl 0 (by decide) (hts _ wk_236) (fun _ h => h) rfl d_Model_find_10 ?_
  refine lv_icmp_ge hx hb d_Model_find_13 (tgt := 58) rfl (fun hc13 => ?_) (fun hc13 => ?_)
  · skip
    have hq : f = 0 := by
        have := (nI_leI (by omega) (by omega)).mp hc13
        omega
    subst hq
    refine lv_iconst hx hb d_Model_find_58 (v := (-1)) rfl ?_
    exact W.iret hx hb hr (fun tS ht hW => ⟨⟨_, y1, rfl, hZ, by rw [ht]; exact hP, va_K.moved hW.alike hK, hD⟩, hS.F ht⟩) hS.2.2 d_Model_find_59 hlocks
  · skip
    obtain ⟨f, rfl⟩ : ∃ y, f = y + 1 := ⟨f - 1, by
        have : ¬ C ≤ C - f := fun h => hc13 ((nI_leI (by omega) (by omega)).mpr h)
        omega⟩
    rw [lk] at hZ
    obtain ⟨k, hk⟩ : ∃ k, k = (hmk C k1 l1 x + (C - (f + 1))) % C := ⟨_, rfl⟩
    have hkC : k < C := by rw [hk]; exact md_lt hC
    rw [← hk] at hZ
    have hnx : (k + 1) % C = (hmk C k1 l1 x + (C - f)) % C := by
        rw [hk, md_next hC, show C - (f + 1) + 1 = C - f by omega]
    rw [hnx] at hZ
    refine lv_iload_n hx hb d_Model_find_16 rfl (lv_at hl 2 rfl) ?_
    refine lv_iload_n hx hb d_Model_find_17 rfl (lv_at hl 3 rfl) ?_
    refine lv_iadd hx hb d_Model_find_18 ?_
    refine lv_asI (y := nI (hmk C k1 l1 x + (C - (f + 1)))) (nI_add _ _) ?_
    refine lv_aload_n hx hb d_Model_find_19 rfl (lv_at hl 0 rfl) ?_
    refine va_get (ci := 3) (C := R_Model) (T := F_Model) (N := 24) hx hb hts in_Model hown hK hP 0 rfl rfl 0 (by decide) (hts _ wk_236) (fun _ h => h) rfl d_Model_find_20 ?_
    refine lv_irem hx hb d_Model_find_23 (nI_C0 hC) ?_
    refine lv_asI (y := nI k) ((nI_rem hC (by omega)).trans (by rw [← hk])) ?_
    refine lv_istore hx hb d_Model_find_24 hl (by decide) rfl (fun ls hl => ?_)
    have hl : lv_has ls 5 [(4, .int (nI k)), (0, .ref ob), (1, .int x), (2, .int (nI (hmk C k1 l1 x))), (3, .int (nI (C - (f + 1))))] := hl
    refine lv_aload_n hx hb d_Model_find_26 rfl (lv_at hl 1 rfl) ?_
    refine va_get (ci := 3) (C := R_Model) (T := F_Model) (N := 24) hx hb hts in_Model hown hK hP 0 rfl rfl 11 (by decide) (hts _ wk_247) (fun _ h => h) rfl d_Model_find_27 ?_
    refine lv_iload hx hb d_Model_find_30 (lv_at hl 0 rfl) ?_
    refine ia_ld (i := k) hx hb hK hP 2 rfl rfl (by omega) (by omega) d_Model_find_32 ?_
    refine W.eq (g2 := F0 m 33 ls [.int (M k)]) rfl ?_
    refine lv_if_ne hx hb d_Model_find_33 (tgt := 38) rfl (fun hc33 => ?_) (fun hc33 => ?_)
    · skip
      rw [if_neg hc33] at hZ
      refine lv_aload_n hx hb d_Model_find_38 rfl (lv_at hl 1 rfl) ?_
      refine va_get (ci := 3) (C := R_Model) (T := F_Model) (N := 24) hx hb hts in_Model hown hK hP 0 rfl rfl 12 (by decide) (hts _ wk_248) (fun _ h => h) rfl d_Model_find_39 ?_
      refine lv_iload hx hb d_Model_find_42 (lv_at hl 0 rfl) ?_
      refine ia_ld (i := k) hx hb hK hP 3 rfl rfl (by omega) (by omega) d_Model_find_44 ?_
      refine lv_iload_n hx hb d_Model_find_45 rfl (lv_at hl 2 rfl) ?_
      refine lv_icmp_ne hx hb d_Model_find_46 (tgt := 52) rfl (fun hc46 => ?_) (fun hc46 => ?_)
      · skip
        rw [if_neg (fun q => hc46 q.2)] at hZ
        refine lv_iinc hx hb d_Model_find_52 hl (k := 4) rfl (v := nI (C - f)) ((nI_1 _).trans (congrArg nI (by omega))) (by decide) rfl (fun ls hl => ?_)
        have hl : lv_has ls 5 [(3, .int (nI (C - f))), (4, .int (nI k)), (0, .ref ob), (1, .int x), (2, .int (nI (hmk C k1 l1 x)))] := hl
        refine lv_goto hx hb d_Model_find_55 (tgt := 8) rfl ?_
        exact ih8 f ls _ _ ⟨by omega, hZ, lv_sub hl [2, 3, 4, 0] rfl, hP, hD, hS⟩ (by omega)
      · skip
        rw [if_pos ⟨((h01 k hkC).resolve_left hc33), hc46⟩] at hZ
        refine lv_iload hx hb d_Model_find_49 (lv_at hl 0 rfl) ?_
        exact W.iret hx hb hr (fun tS ht hW => ⟨⟨_, y1, rfl, hZ, by rw [ht]; exact hP, va_K.moved hW.alike hK, hD⟩, hS.F ht⟩) hS.2.2 d_Model_find_51 hlocks
    · skip
      rw [if_pos hc33] at hZ
      refine lv_iconst hx hb d_Model_find_36 (v := (-1)) rfl ?_
      exact W.iret hx hb hr (fun tS ht hW => ⟨⟨_, y1, rfl, hZ, by rw [ht]; exact hP, va_K.moved hW.alike hK, hD⟩, hS.F ht⟩) hS.2.2 d_Model_find_37 hlocks
set_option maxHeartbeats 4000000 in
set_option maxRecDepth 100000 in
theorem c_findOld (l : Launch) {dC : Nat → ClassId} {dI : Nat → Nat → Nat} {cA : ClassId} (sz : Nat) {ob bw bm bk bv cm ck cv C : Nat} {lim lo ti mv : Int32} {v : Int32 × Int32 × Int32 × Int32} {k1 l1 k2 l2 : Int64} {z : Int64 × Int64 × Int64 × Int64} {M K V Wd OM OK OV : Nat → Int32} (hC : szC C) (hmv : mv = 0 → cnt OM C = 0) (x : Int32) : Met l y_Model_findOld (.code y_Model_findOld b_Model_findOld 5 (some .int) :: BG) ({ frames := 3, cells := 0, slots := 0, locals := 70 }) (pRW dC dI cA [.ref ob, .int x] [(ob, .inr (3, [.int (nI C), .int lim, .int v.1, .int v.2.1, .int v.2.2.1, .int v.2.2.2, .ref bw, .long k1, .long l1, .long k2, .long l2, .ref bm, .ref bk, .ref bv, .int mv, .ref cm, .ref ck, .ref cv, .int lo, .int ti, .long z.1, .long z.2.1, .long z.2.2.1, .long z.2.2.2])), (bw, .inl (cA, 4, .inl Wd)), (bm, .inl (cA, 128, .inl M)), (bk, .inl (cA, 128, .inl K)), (bv, .inl (cA, 128, .inl V)), (cm, .inl (cA, 128, .inl OM)), (ck, .inl (cA, 128, .inl OK)), (cv, .inl (cA, 128, .inl OV))] sz) (va_Qi (fun r (u : Int64 × Int64 × Int64 × Int64) => r = lk C OM OK x C (hmk C k2 l2 x)) (fun (u : Int64 × Int64 × Int64 × Int64) tS => wdB dC dI cA (va_A [(ob, .inr (3, [.int (nI C), .int lim, .int v.1, .int v.2.1, .int v.2.2.1, .int v.2.2.2, .ref bw, .long k1, .long l1, .long k2, .long l2, .ref bm, .ref bk, .ref bv, .int mv, .ref cm, .ref ck, .ref cv, .int lo, .int ti, .long z.1, .long z.2.1, .long z.2.2.1, .long z.2.2.2])), (bw, .inl (cA, 4, .inl Wd)), (bm, .inl (cA, 128, .inl M)), (bk, .inl (cA, 128, .inl K)), (bv, .inl (cA, 128, .inl V)), (cm, .inl (cA, 128, .inl OM)), (ck, .inl (cA, 128, .inl OK)), (cv, .inl (cA, 128, .inl OV))] sz) [(ob, .inr (3, [.int (nI C), .int lim, .int v.1, .int v.2.1, .int v.2.2.1, .int v.2.2.2, .ref bw, .long k1, .long l1, .long k2, .long l2, .ref bm, .ref bk, .ref bv, .int mv, .ref cm, .ref ck, .ref cv, .int lo, .int ti, .long u.1, .long u.2.1, .long u.2.2.1, .long u.2.2.2])), (bw, .inl (cA, 4, .inl Wd)), (bm, .inl (cA, 128, .inl M)), (bk, .inl (cA, 128, .inl K)), (bv, .inl (cA, 128, .inl V)), (cm, .inl (cA, 128, .inl OM)), (ck, .inl (cA, 128, .inl OK)), (cv, .inl (cA, 128, .inl OV))] tS) (va_A [(ob, .inr (3, [.int (nI C), .int lim, .int v.1, .int v.2.1, .int v.2.2.1, .int v.2.2.2, .ref bw, .long k1, .long l1, .long k2, .long l2, .ref bm, .ref bk, .ref bv, .int mv, .ref cm, .ref ck, .ref cv, .int lo, .int ti, .long z.1, .long z.2.1, .long z.2.2.1, .long z.2.2.2])), (bw, .inl (cA, 4, .inl Wd)), (bm, .inl (cA, 128, .inl M)), (bk, .inl (cA, 128, .inl K)), (bv, .inl (cA, 128, .inl V)), (cm, .inl (cA, 128, .inl OM)), (ck, .inl (cA, 128, .inl OK)), (cv, .inl (cA, 128, .inl OV))] sz)) 0 0 (va_A [(ob, .inr (3, [.int (nI C), .int lim, .int v.1, .int v.2.1, .int v.2.2.1, .int v.2.2.2, .ref bw, .long k1, .long l1, .long k2, .long l2, .ref bm, .ref bk, .ref bv, .int mv, .ref cm, .ref ck, .ref cv, .int lo, .int ti, .long z.1, .long z.2.1, .long z.2.2.1, .long z.2.2.2])), (bw, .inl (cA, 4, .inl Wd)), (bm, .inl (cA, 128, .inl M)), (bk, .inl (cA, 128, .inl K)), (bv, .inl (cA, 128, .inl V)), (cm, .inl (cA, 128, .inl OM)), (ck, .inl (cA, 128, .inl OK)), (cv, .inl (cA, 128, .inl OV))] sz) := by
  refine Met.ofW (cc := b_Model_findOld) (maxL := 5) (ret := some .int) (by decide) rfl ?_
  intro p e s m args below meth c s₁ B hml hv
  obtain ⟨rfl, hsz, hP, hK, hD0⟩ := hv
  have hx := B.exec
  have hb := B.bytes
  have hr := B.returns
  have hts : ∀ w ∈ BG, w.before _ s = true := fun w h => atoms_spec (ws := .code y_Model_findOld b_Model_findOld 5 (some .int) :: BG) B.pre w (List.mem_cons_of_mem _ h)
  have hown : s.vm.findClass R_Model = some m.cls := findClass_of_methodNamed B.named
  have hlocks := B.notSynchronized
  subst hsz
  have hD := hD0.self (sz := s.heap.size)
  generalize hAe : va_A [(ob, .inr (3, [.int (nI C), .int lim, .int v.1, .int v.2.1, .int v.2.2.1, .int v.2.2.2, .ref bw, .long k1, .long l1, .long k2, .long l2, .ref bm, .ref bk, .ref bv, .int mv, .ref cm, .ref ck, .ref cv, .int lo, .int ti, .long z.1, .long z.2.1, .long z.2.2.1, .long z.2.2.2])), (bw, .inl (cA, 4, .inl Wd)), (bm, .inl (cA, 128, .inl M)), (bk, .inl (cA, 128, .inl K)), (bv, .inl (cA, 128, .inl V)), (cm, .inl (cA, 128, .inl OM)), (ck, .inl (cA, 128, .inl OK)), (cv, .inl (cA, 128, .inl OV))] s.heap.size = A at hD ⊢
  have hA : ∀ q : Nat, s.heap.size ≤ q → A q := fun q h => by rw [← hAe]; exact Or.inr h
  have hS : va_S A s.heap s.heap [] := va_S.rf
  have hP : va_P (dC, dI) cls [(ob, .inr (3, [.int (nI C), .int lim, .int v.1, .int v.2.1, .int v.2.2.1, .int v.2.2.2, .ref bw, .long k1, .long l1, .long k2, .long l2, .ref bm, .ref bk, .ref bv, .int mv, .ref cm, .ref ck, .ref cv, .int lo, .int ti, .long z.1, .long z.2.1, .long z.2.2.1, .long z.2.2.2])), (bw, .inl (cA, 4, .inl Wd)), (bm, .inl (cA, 128, .inl M)), (bk, .inl (cA, 128, .inl K)), (bv, .inl (cA, 128, .inl V)), (cm, .inl (cA, 128, .inl OM)), (ck, .inl (cA, 128, .inl OK)), (cv, .inl (cA, 128, .inl OV))] s.heap := hP
  have hl := lv_entry ([.ref ob, .int x]) (n := 5) (Nat.le_of_ble_eq_true rfl)
  rw [lg_entry_eq]
  generalize (lg_sl ([.ref ob, .int x]) ++ List.replicate (5 - (lg_sl ([.ref ob, .int x])).length) Slot.unset).toArray = ls at hl ⊢
  have hl : lv_has ls 5 [(0, .ref ob), (1, .int x)] := hl
  have hlo := hC.lo
  have hhi := hC.hi
  have hh := hmk_lt hC k2 l2 x
  refine lv_aload_n hx hb d_Model_findOld_0 rfl (lv_at hl 0 rfl) ?_
  refine va_get (ci := 3) (C := R_Model) (T := F_Model) (N := 24) hx hb hts in_Model hown hK hP 0 rfl rfl 14 (by decide) (hts _ wk_250) (fun _ h => h) rfl d_Model_findOld_1 ?_
  refine lv_if_ne hx hb d_Model_findOld_4 (tgt := 9) rfl (fun hc4 => ?_) (fun hc4 => ?_)
  · skip
    refine lv_aload_n hx hb d_Model_findOld_9 rfl (lv_at hl 0 rfl) ?_
    refine lv_aload_n hx hb d_Model_findOld_10 rfl (lv_at hl 0 rfl) ?_
    refine va_get (ci := 3) (C := R_Model) (T := F_Model) (N := 24) hx hb hts in_Model hown hK hP 0 rfl rfl 9 (by decide) (hts _ wk_245) (fun _ h => h) rfl d_Model_findOld_11 ?_
    refine lv_aload_n hx hb d_Model_findOld_14 rfl (lv_at hl 0 rfl) ?_
    refine va_get (ci := 3) (C := R_Model) (T := F_Model) (N := 24) hx hb hts in_Model hown hK hP 0 rfl rfl 10 (by decide) (hts _ wk_246) (fun _ h => h) rfl d_Model_findOld_15 ?_
    refine lv_iload_n hx hb d_Model_findOld_18 rfl (lv_at hl 1 rfl) ?_
    refine rw_l (wc := [(ob, .inr (3, [.int (nI C), .int lim, .int v.1, .int v.2.1, .int v.2.2.1, .int v.2.2.2, .ref bw, .long k1, .long l1, .long k2, .long l2, .ref bm, .ref bk, .ref bv, .int mv, .ref cm, .ref ck, .ref cv, .int lo, .int ti, .long z.1, .long z.2.1, .long z.2.2.1, .long z.2.2.2]))]) (wr := [(bw, .inl (cA, 4, .inl Wd)), (bm, .inl (cA, 128, .inl M)), (bk, .inl (cA, 128, .inl K)), (bv, .inl (cA, 128, .inl V)), (cm, .inl (cA, 128, .inl OM)), (ck, .inl (cA, 128, .inl OK)), (cv, .inl (cA, 128, .inl OV))]) hP hD hS hA (va_runV (As := [.long k2, .long l2, .int x]) (rest := []) ⟨hx, hb, hml, hown, hts⟩ (c_hash l _ k2 l2 x) (cwV 3 hts g_Model_114 rfl rfl rfl (by decide +kernel) ⟨Nat.le_of_ble_eq_true rfl, Nat.le_of_ble_eq_true rfl⟩) ⟨bl_RW, va_recv (q0 := 0) hK hP rfl rfl, pr_RW hK hP hD [0] rfl (by decide) rfl⟩ rfl rfl hl.1 rfl (lv_room (Nat.le_of_ble_eq_true rfl)) d_Model_findOld_19 ⟨Nat.zero_le _, Nat.zero_le _⟩) [0] [1, 2, 3, 4, 5, 6, 7] rfl rfl (by decide) (by decide) (fun rh y1 H locs hq hP hD hS => ?_)
    have hP : va_P (dC, dI) cls [(bw, .inl (cA, 4, .inl Wd)), (bm, .inl (cA, 128, .inl M)), (bk, .inl (cA, 128, .inl K)), (bv, .inl (cA, 128, .inl V)), (cm, .inl (cA, 128, .inl OM)), (ck, .inl (cA, 128, .inl OK)), (cv, .inl (cA, 128, .inl OV)), (ob, .inr (3, [.int (nI C), .int lim, .int v.1, .int v.2.1, .int v.2.2.1, .int v.2.2.2, .ref bw, .long k1, .long l1, .long k2, .long l2, .ref bm, .ref bk, .ref bv, .int mv, .ref cm, .ref ck, .ref cv, .int lo, .int ti, .long y1.1, .long y1.2.1, .long y1.2.2.1, .long y1.2.2.2]))] H := hP
    have hD : va_D A [(bw, .inl (cA, 4, .inl Wd)), (bm, .inl (cA, 128, .inl M)), (bk, .inl (cA, 128, .inl K)), (bv, .inl (cA, 128, .inl V)), (cm, .inl (cA, 128, .inl OM)), (ck, .inl (cA, 128, .inl OK)), (cv, .inl (cA, 128, .inl OV)), (ob, .inr (3, [.int (nI C), .int lim, .int v.1, .int v.2.1, .int v.2.2.1, .int v.2.2.2, .ref bw, .long k1, .long l1, .long k2, .long l2, .ref bm, .ref bk, .ref bv, .int mv, .ref cm, .ref ck, .ref cv, .int lo, .int ti, .long y1.1, .long y1.2.1, .long y1.2.2.1, .long y1.2.2.2]))] := hD
    have hP := hP.sub (ws' := [(ob, .inr (3, [.int (nI C), .int lim, .int v.1, .int v.2.1, .int v.2.2.1, .int v.2.2.2, .ref bw, .long k1, .long l1, .long k2, .long l2, .ref bm, .ref bk, .ref bv, .int mv, .ref cm, .ref ck, .ref cv, .int lo, .int ti, .long y1.1, .long y1.2.1, .long y1.2.2.1, .long y1.2.2.2])), (bw, .inl (cA, 4, .inl Wd)), (bm, .inl (cA, 128, .inl M)), (bk, .inl (cA, 128, .inl K)), (bv, .inl (cA, 128, .inl V)), (cm, .inl (cA, 128, .inl OM)), (ck, .inl (cA, 128, .inl OK)), (cv, .inl (cA, 128, .inl OV))]) [7, 0, 1, 2, 3, 4, 5, 6] rfl
    have hD := hD.sub (ws' := [(ob, .inr (3, [.int (nI C), .int lim, .int v.1, .int v.2.1, .int v.2.2.1, .int v.2.2.2, .ref bw, .long k1, .long l1, .long k2, .long l2, .ref bm, .ref bk, .ref bv, .int mv, .ref cm, .ref ck, .ref cv, .int lo, .int ti, .long y1.1, .long y1.2.1, .long y1.2.2.1, .long y1.2.2.2])), (bw, .inl (cA, 4, .inl Wd)), (bm, .inl (cA, 128, .inl M)), (bk, .inl (cA, 128, .inl K)), (bv, .inl (cA, 128, .inl V)), (cm, .inl (cA, 128, .inl OM)), (ck, .inl (cA, 128, .inl OK)), (cv, .inl (cA, 128, .inl OV))]) [7, 0, 1, 2, 3, 4, 5, 6] (by decide) rfl
    subst hq
    refine lv_aload_n hx hb d_Model_findOld_22 rfl (lv_at hl 0 rfl) ?_
    refine va_get (ci := 3) (C := R_Model) (T := F_Model) (N := 24) hx hb hts in_Model hown hK hP 0 rfl rfl 0 (by decide) (hts _ wk_236) (fun _ h => h) rfl d_Model_findOld_23 ?_
    refine lv_iconst hx hb d_Model_findOld_26 (v := 1) rfl ?_
    refine lv_isub hx hb d_Model_findOld_27 ?_
    refine lv_i2l hx hb d_Model_findOld_28 (v := ((nI C) - 1).toInt64) rfl ?_
    refine W.eq (g2 := F0 m 29 ls [.long (((nI C) - 1).toInt64), .long (hs k2 l2 x)]) rfl ?_
    refine lv_land hx hb d_Model_findOld_29 ?_
    refine lv_l2i hx hb d_Model_findOld_30 (v := ((hs k2 l2 x) &&& (((nI C) - 1).toInt64)).toInt32) rfl ?_
    refine lv_asI (y := nI (hmk C k2 l2 x)) (hmk_eq hC _ _ _) ?_
    refine lv_istore_n hx hb d_Model_findOld_31 rfl hl (by decide) rfl (fun ls hl => ?_)
    have hl : lv_has ls 5 [(2, .int (nI (hmk C k2 l2 x))), (0, .ref ob), (1, .int x)] := hl
    refine lv_iconst hx hb d_Model_findOld_32 (v := (nI 0)) rfl ?_
    refine lv_istore_n hx hb d_Model_findOld_33 rfl hl (by decide) rfl (fun ls hl => ?_)
    have hl : lv_has ls 5 [(3, .int (nI 0)), (2, .int (nI (hmk C k2 l2 x))), (0, .ref ob), (1, .int x)] := hl
    rw [show (nI 0 : Int32) = nI (C - C) by rw [Nat.sub_self]] at hl
    refine W.eq (g2 := F0 m 34 ls []) rfl ?_
    refine lq1 (fun (f : Nat) => f) (fun (f : Nat) ls H locs => (f ≤ C) ∧ (lk C OM OK x f ((hmk C k2 l2 x + (C - f)) % C) = lk C OM OK x C (hmk C k2 l2 x)) ∧ lv_has ls 5 [(0, .ref ob), (1, .int x), (2, .int (nI (hmk C k2 l2 x))), (3, .int (nI (C - f)))] ∧ va_P (dC, dI) cls [(ob, .inr (3, [.int (nI C), .int lim, .int v.1, .int v.2.1, .int v.2.2.1, .int v.2.2.2, .ref bw, .long k1, .long l1, .long k2, .long l2, .ref bm, .ref bk, .ref bv, .int mv, .ref cm, .ref ck, .ref cv, .int lo, .int ti, .long y1.1, .long y1.2.1, .long y1.2.2.1, .long y1.2.2.2])), (bw, .inl (cA, 4, .inl Wd)), (bm, .inl (cA, 128, .inl M)), (bk, .inl (cA, 128, .inl K)), (bv, .inl (cA, 128, .inl V)), (cm, .inl (cA, 128, .inl OM)), (ck, .inl (cA, 128, .inl OK)), (cv, .inl (cA, 128, .inl OV))] H ∧ va_D A [(ob, .inr (3, [.int (nI C), .int lim, .int v.1, .int v.2.1, .int v.2.2.1, .int v.2.2.2, .ref bw, .long k1, .long l1, .long k2, .long l2, .ref bm, .ref bk, .ref bv, .int mv, .ref cm, .ref ck, .ref cv, .int lo, .int ti, .long y1.1, .long y1.2.1, .long y1.2.2.1, .long y1.2.2.2])), (bw, .inl (cA, 4, .inl Wd)), (bm, .inl (cA, 128, .inl M)), (bk, .inl (cA, 128, .inl K)), (bv, .inl (cA, 128, .inl V)), (cm, .inl (cA, 128, .inl OM)), (ck, .inl (cA, 128, .inl OK)), (cv, .inl (cA, 128, .inl OV))] ∧ va_S A s.heap H locs) (fun f ls H locs hE ih34 => ?_) C ls _ _ ⟨Nat.le_refl _, by rw [Nat.sub_self, Nat.add_zero, Nat.mod_eq_of_lt hh], lv_sub hl [2, 3, 1, 0] rfl, hP, hD, hS⟩
    obtain ⟨hf, hZ, hl, hP, hD, hS⟩ := hE
    refine lv_iload_n hx hb d_Model_findOld_34 rfl (lv_at hl 3 rfl) ?_
    refine lv_aload_n hx hb d_Model_findOld_35 rfl (lv_at hl 0 rfl) ?_
    refine va_get (ci := 3) (C := R_Model) (T := F_Model) (N := 24) hx hb hts in_Model hown hK hP 0 rfl rfl 0 (by decide) (hts _ wk_236) (fun _ h => h) rfl d_Model_findOld_36 ?_
    refine lv_icmp_ge hx hb d_Model_findOld_39 (tgt := 95) rfl (fun hc39 => ?_) (fun hc39 => ?_)
    · skip
      have hq : f = 0 := by
          have := (nI_leI (by omega) (by omega)).mp hc39
          omega
      subst hq
      refine lv_iconst hx hb d_Model_findOld_95 (v := (-1)) rfl ?_
      exact W.iret hx hb hr (fun tS ht hW => ⟨⟨_, y1, rfl, hZ, by rw [ht]; exact hP, va_K.moved hW.alike hK, hD⟩, hS.F ht⟩) hS.2.2 d_Model_findOld_96 hlocks
    · skip
      obtain ⟨f, rfl⟩ : ∃ y, f = y + 1 := ⟨f - 1, by
          have : ¬ C ≤ C - f := fun h => hc39 ((nI_leI (by omega) (by omega)).mpr h)
          omega⟩
      rw [lk] at hZ
      obtain ⟨k, hk⟩ : ∃ k, k = (hmk C k2 l2 x + (C - (f + 1))) % C := ⟨_, rfl⟩
      have hkC : k < C := by rw [hk]; exact md_lt hC
      rw [← hk] at hZ
      have hnx : (k + 1) % C = (hmk C k2 l2 x + (C - f)) % C := by
          rw [hk, md_next hC, show C - (f + 1) + 1 = C - f by omega]
      rw [hnx] at hZ
      refine lv_iload_n hx hb d_Model_findOld_42 rfl (lv_at hl 2 rfl) ?_
      refine lv_iload_n hx hb d_Model_findOld_43 rfl (lv_at hl 3 rfl) ?_
      refine lv_iadd hx hb d_Model_findOld_44 ?_
      refine lv_asI (y := nI (hmk C k2 l2 x + (C - (f + 1)))) (nI_add _ _) ?_
      refine lv_aload_n hx hb d_Model_findOld_45 rfl (lv_at hl 0 rfl) ?_
      refine va_get (ci := 3) (C := R_Model) (T := F_Model) (N := 24) hx hb hts in_Model hown hK hP 0 rfl rfl 0 (by decide) (hts _ wk_236) (fun _ h => h) rfl d_Model_findOld_46 ?_
      refine lv_irem hx hb d_Model_findOld_49 (nI_C0 hC) ?_
      refine lv_asI (y := nI k) ((nI_rem hC (by omega)).trans (by rw [← hk])) ?_
      refine lv_istore hx hb d_Model_findOld_50 hl (by decide) rfl (fun ls hl => ?_)
      have hl : lv_has ls 5 [(4, .int (nI k)), (0, .ref ob), (1, .int x), (2, .int (nI (hmk C k2 l2 x))), (3, .int (nI (C - (f + 1))))] := hl
      refine lv_aload_n hx hb d_Model_findOld_52 rfl (lv_at hl 1 rfl) ?_
      refine va_get (ci := 3) (C := R_Model) (T := F_Model) (N := 24) hx hb hts in_Model hown hK hP 0 rfl rfl 15 (by decide) (hts _ wk_251) (fun _ h => h) rfl d_Model_findOld_53 ?_
      refine lv_iload hx hb d_Model_findOld_56 (lv_at hl 0 rfl) ?_
      refine ia_ld (i := k) hx hb hK hP 5 rfl rfl (by omega) (by omega) d_Model_findOld_58 ?_
      refine W.eq (g2 := F0 m 59 ls [.int (OM k)]) rfl ?_
      refine lv_if_ne hx hb d_Model_findOld_59 (tgt := 64) rfl (fun hc59 => ?_) (fun hc59 => ?_)
      · skip
        rw [if_neg hc59] at hZ
        refine lv_aload_n hx hb d_Model_findOld_64 rfl (lv_at hl 1 rfl) ?_
        refine va_get (ci := 3) (C := R_Model) (T := F_Model) (N := 24) hx hb hts in_Model hown hK hP 0 rfl rfl 15 (by decide) (hts _ wk_251) (fun _ h => h) rfl d_Model_findOld_65 ?_
        refine lv_iload hx hb d_Model_findOld_68 (lv_at hl 0 rfl) ?_
        refine ia_ld (i := k) hx hb hK hP 5 rfl rfl (by omega) (by omega) d_Model_findOld_70 ?_
        refine lv_iconst hx hb d_Model_findOld_71 (v := 1) rfl ?_
        refine lv_icmp_ne hx hb d_Model_findOld_72 (tgt := 89) rfl (fun hc72 => ?_) (fun hc72 => ?_)
        · skip
          rw [if_neg (fun q => hc72 q.1)] at hZ
          refine lv_iinc hx hb d_Model_findOld_89 hl (k := 4) rfl (v := nI (C - f)) ((nI_1 _).trans (congrArg nI (by omega))) (by decide) rfl (fun ls hl => ?_)
          have hl : lv_has ls 5 [(3, .int (nI (C - f))), (4, .int (nI k)), (0, .ref ob), (1, .int x), (2, .int (nI (hmk C k2 l2 x)))] := hl
          refine lv_goto hx hb d_Model_findOld_92 (tgt := 34) rfl ?_
          exact ih34 f ls _ _ ⟨by omega, hZ, lv_sub hl [2, 3, 4, 0] rfl, hP, hD, hS⟩ (by omega)
        · skip
          refine lv_aload_n hx hb d_Model_findOld_75 rfl (lv_at hl 1 rfl) ?_
          refine va_get (ci := 3) (C := R_Model) (T := F_Model) (N := 24) hx hb hts in_Model hown hK hP 0 rfl rfl 16 (by decide) (hts _ wk_252) (fun _ h => h) rfl d_Model_findOld_76 ?_
          refine lv_iload hx hb d_Model_findOld_79 (lv_at hl 0 rfl) ?_
          refine ia_ld (i := k) hx hb hK hP 6 rfl rfl (by omega) (by omega) d_Model_findOld_81 ?_
          refine lv_iload_n hx hb d_Model_findOld_82 rfl (lv_at hl 2 rfl) ?_
          refine lv_icmp_ne hx hb d_Model_findOld_83 (tgt := 89) rfl (fun hc83 => ?_) (fun hc83 => ?_)
          · skip
            rw [if_neg (fun q => hc83 q.2)] at hZ
            refine lv_iinc hx hb d_Model_findOld_89 hl (k := 4) rfl (v := nI (C - f)) ((nI_1 _).trans (congrArg nI (by omega))) (by decide) rfl (fun ls hl => ?_)
            have hl : lv_has ls 5 [(3, .int (nI (C - f))), (4, .int (nI k)), (0, .ref ob), (1, .int x), (2, .int (nI (hmk C k2 l2 x)))] := hl
            refine lv_goto hx hb d_Model_findOld_92 (tgt := 34) rfl ?_
            exact ih34 f ls _ _ ⟨by omega, hZ, lv_sub hl [2, 3, 4, 0] rfl, hP, hD, hS⟩ (by omega)
          · skip
            rw [if_pos ⟨hc72, hc83⟩] at hZ
            refine lv_iload hx hb d_Model_findOld_86 (lv_at hl 0 rfl) ?_
            exact W.iret hx hb hr (fun tS ht hW => ⟨⟨_, y1, rfl, hZ, by rw [ht]; exact hP, va_K.moved hW.alike hK, hD⟩, hS.F ht⟩) hS.2.2 d_Model_findOld_88 hlocks
      · skip
        rw [if_pos hc59] at hZ
        refine lv_iconst hx hb d_Model_findOld_62 (v := (-1)) rfl ?_
        exact W.iret hx hb hr (fun tS ht hW => ⟨⟨_, y1, rfl, hZ, by rw [ht]; exact hP, va_K.moved hW.alike hK, hD⟩, hS.F ht⟩) hS.2.2 d_Model_findOld_63 hlocks
  · skip
    have h0 := lk_none OM OK x hC (cnt_zero C (hmv hc4)) C _ hh
    refine lv_iconst hx hb d_Model_findOld_7 (v := (-1)) rfl ?_
    exact W.iret hx hb hr (fun tS ht hW => ⟨⟨_, z, rfl, h0.symm, by rw [ht]; exact hP, va_K.moved hW.alike hK, hD⟩, hS.F ht⟩) hS.2.2 d_Model_findOld_8 hlocks
set_option maxHeartbeats 4000000 in
set_option maxRecDepth 100000 in
theorem c_inNew (l : Launch) {dC : Nat → ClassId} {dI : Nat → Nat → Nat} {cA : ClassId} {Hp : Heap} {ob bw bm bk bv cm ck cv C : Nat} {lim lo ti mv : Int32} {v : Int32 × Int32 × Int32 × Int32} {k1 l1 k2 l2 : Int64} {z : Int64 × Int64 × Int64 × Int64} {M K V Wd OM OK OV : Nat → Int32} (hC : szC C) (hP : va_P (dC, dI) cls [(ob, .inr (3, [.int (nI C), .int lim, .int v.1, .int v.2.1, .int v.2.2.1, .int v.2.2.2, .ref bw, .long k1, .long l1, .long k2, .long l2, .ref bm, .ref bk, .ref bv, .int mv, .ref cm, .ref ck, .ref cv, .int lo, .int ti, .long z.1, .long z.2.1, .long z.2.2.1, .long z.2.2.2])), (bw, .inl (cA, 4, .inl Wd)), (bm, .inl (cA, 128, .inl M)), (bk, .inl (cA, 128, .inl K)), (bv, .inl (cA, 128, .inl V)), (cm, .inl (cA, 128, .inl OM)), (ck, .inl (cA, 128, .inl OK)), (cv, .inl (cA, 128, .inl OV))] Hp) : Met l y_Model_inNew (.code y_Model_inNew b_Model_inNew 3 (some .int) :: BG) ({ frames := 0, cells := 0, slots := 0, locals := 0 }) (pRO dC dI cA [.ref ob] Hp) (qRi (nI (cnt M C)) Hp) 0 0 (fun _ => False) := by
  refine Met.ofW (cc := b_Model_inNew) (maxL := 3) (ret := some .int) (by decide) rfl ?_
  intro p e s m args below meth c s₁ B hml hv
  obtain ⟨rfl, rfl, hK⟩ := hv
  have hx := B.exec
  have hb := B.bytes
  have hr := B.returns
  have hts : ∀ w ∈ BG, w.before _ s = true := fun w h => atoms_spec (ws := .code y_Model_inNew b_Model_inNew 3 (some .int) :: BG) B.pre w (List.mem_cons_of_mem _ h)
  have hown : s.vm.findClass R_Model = some m.cls := findClass_of_methodNamed B.named
  have hlocks := B.notSynchronized
  have hS : va_S (fun _ => False) s.heap s.heap [] := va_S.rf
  have hl := lv_entry ([.ref ob]) (n := 3) (Nat.le_of_ble_eq_true rfl)
  rw [lg_entry_eq]
  generalize (lg_sl ([.ref ob]) ++ List.replicate (3 - (lg_sl ([.ref ob])).length) Slot.unset).toArray = ls at hl ⊢
  have hl : lv_has ls 3 [(0, .ref ob)] := hl
  have hlo := hC.lo
  have hhi := hC.hi
  refine lv_iconst hx hb d_Model_inNew_0 (v := (nI 0)) rfl ?_
  refine lv_istore_n hx hb d_Model_inNew_1 rfl hl (by decide) rfl (fun ls hl => ?_)
  have hl : lv_has ls 3 [(1, .int (nI 0)), (0, .ref ob)] := hl
  refine lv_iconst hx hb d_Model_inNew_2 (v := (nI 0)) rfl ?_
  refine lv_istore_n hx hb d_Model_inNew_3 rfl hl (by decide) rfl (fun ls hl => ?_)
  have hl : lv_has ls 3 [(2, .int (nI 0)), (1, .int (nI 0)), (0, .ref ob)] := hl
  refine W.eq (g2 := F0 m 4 ls []) rfl ?_
  refine lr1 (fun (j : Nat) => C - j) (fun (j : Nat) ls locs => (j ≤ C) ∧ lv_has ls 3 [(0, .ref ob), (1, .int (nI (cnt M j))), (2, .int (nI j))] ∧ va_S (fun _ => False) s.heap s.heap locs) (fun j ls locs hE ih4 => ?_) 0 ls _ ⟨Nat.zero_le _, lv_sub hl [2, 1, 0] rfl, hS⟩
  obtain ⟨hj, hl, hS⟩ := hE
  refine lv_iload_n hx hb d_Model_inNew_4 rfl (lv_at hl 2 rfl) ?_
  refine lv_aload_n hx hb d_Model_inNew_5 rfl (lv_at hl 0 rfl) ?_
  refine va_get (ci := 3) (C := R_Model) (T := F_Model) (N := 24) hx hb hts in_Model hown hK hP 0 rfl rfl 0 (by decide) (hts _ wk_236) (fun _ h => h) rfl d_Model_inNew_6 ?_
  refine lv_icmp_ge hx hb d_Model_inNew_9 (tgt := 36) rfl (fun hc9 => ?_) (fun hc9 => ?_)
  · skip
    have hq : C = j := by
        have := (nI_leI (by omega) (by omega)).mp hc9
        omega
    subst hq
    refine lv_iload_n hx hb d_Model_inNew_36 rfl (lv_at hl 1 rfl) ?_
    exact rt_i hx hb hr hlocks rfl hS d_Model_inNew_37
  · skip
    have hq : ¬ C ≤ j := fun h => hc9 ((nI_leI (by omega) (by omega)).mpr h)
    refine lv_aload_n hx hb d_Model_inNew_12 rfl (lv_at hl 0 rfl) ?_
    refine va_get (ci := 3) (C := R_Model) (T := F_Model) (N := 24) hx hb hts in_Model hown hK hP 0 rfl rfl 11 (by decide) (hts _ wk_247) (fun _ h => h) rfl d_Model_inNew_13 ?_
    refine lv_iload_n hx hb d_Model_inNew_16 rfl (lv_at hl 2 rfl) ?_
    refine ia_ld (i := j) hx hb hK hP 2 rfl rfl (by omega) (by omega) d_Model_inNew_17 ?_
    refine lv_iconst hx hb d_Model_inNew_18 (v := 1) rfl ?_
    refine lv_icmp_ne hx hb d_Model_inNew_19 (tgt := 28) rfl (fun hc19 => ?_) (fun hc19 => ?_)
    · skip
      rw [show cnt M j = cnt M (j + 1) by rw [cnt, if_neg hc19, Nat.add_zero]] at hl
      refine lv_iload_n hx hb d_Model_inNew_28 rfl (lv_at hl 1 rfl) ?_
      refine lv_istore_n hx hb d_Model_inNew_29 rfl hl (by decide) rfl (fun ls hl => ?_)
      have hl : lv_has ls 3 [(1, .int (nI (cnt M (j + 1)))), (0, .ref ob), (2, .int (nI j))] := hl
      refine lv_iinc hx hb d_Model_inNew_30 hl (k := 2) rfl (v := nI (j + 1)) (nI_1 _) (by decide) rfl (fun ls hl => ?_)
      have hl : lv_has ls 3 [(2, .int (nI (j + 1))), (1, .int (nI (cnt M (j + 1)))), (0, .ref ob)] := hl
      refine lv_goto hx hb d_Model_inNew_33 (tgt := 4) rfl ?_
      exact ih4 (j + 1) ls _ ⟨by omega, lv_sub hl [2, 1, 0] rfl, hS⟩ (by omega)
    · skip
      refine lv_iload_n hx hb d_Model_inNew_22 rfl (lv_at hl 1 rfl) ?_
      refine lv_iconst hx hb d_Model_inNew_23 (v := 1) rfl ?_
      refine lv_iadd hx hb d_Model_inNew_24 ?_
      refine lv_asI (y := nI (cnt M (j + 1))) ((nI_1 _).trans (by rw [cnt, if_pos hc19])) ?_
      refine lv_goto hx hb d_Model_inNew_25 (tgt := 29) rfl ?_
      refine lv_istore_n hx hb d_Model_inNew_29 rfl hl (by decide) rfl (fun ls hl => ?_)
      have hl : lv_has ls 3 [(1, .int (nI (cnt M (j + 1)))), (0, .ref ob), (2, .int (nI j))] := hl
      refine W.eq (g2 := F0 m 30 ls []) rfl ?_
      refine lv_iinc hx hb d_Model_inNew_30 hl (k := 2) rfl (v := nI (j + 1)) (nI_1 _) (by decide) rfl (fun ls hl => ?_)
      have hl : lv_has ls 3 [(2, .int (nI (j + 1))), (1, .int (nI (cnt M (j + 1)))), (0, .ref ob)] := hl
      refine lv_goto hx hb d_Model_inNew_33 (tgt := 4) rfl ?_
      exact ih4 (j + 1) ls _ ⟨by omega, lv_sub hl [2, 1, 0] rfl, hS⟩ (by omega)
set_option maxHeartbeats 4000000 in
set_option maxRecDepth 100000 in
theorem c_inOld (l : Launch) {dC : Nat → ClassId} {dI : Nat → Nat → Nat} {cA : ClassId} {Hp : Heap} {ob bw bm bk bv cm ck cv C : Nat} {lim lo ti mv : Int32} {v : Int32 × Int32 × Int32 × Int32} {k1 l1 k2 l2 : Int64} {z : Int64 × Int64 × Int64 × Int64} {M K V Wd OM OK OV : Nat → Int32} (hC : szC C) (hmv : mv = 0 → cnt OM C = 0) (hP : va_P (dC, dI) cls [(ob, .inr (3, [.int (nI C), .int lim, .int v.1, .int v.2.1, .int v.2.2.1, .int v.2.2.2, .ref bw, .long k1, .long l1, .long k2, .long l2, .ref bm, .ref bk, .ref bv, .int mv, .ref cm, .ref ck, .ref cv, .int lo, .int ti, .long z.1, .long z.2.1, .long z.2.2.1, .long z.2.2.2])), (bw, .inl (cA, 4, .inl Wd)), (bm, .inl (cA, 128, .inl M)), (bk, .inl (cA, 128, .inl K)), (bv, .inl (cA, 128, .inl V)), (cm, .inl (cA, 128, .inl OM)), (ck, .inl (cA, 128, .inl OK)), (cv, .inl (cA, 128, .inl OV))] Hp) : Met l y_Model_inOld (.code y_Model_inOld b_Model_inOld 3 (some .int) :: BG) ({ frames := 0, cells := 0, slots := 0, locals := 0 }) (pRO dC dI cA [.ref ob] Hp) (qRi (nI (cnt OM C)) Hp) 0 0 (fun _ => False) := by
  refine Met.ofW (cc := b_Model_inOld) (maxL := 3) (ret := some .int) (by decide) rfl ?_
  intro p e s m args below meth c s₁ B hml hv
  obtain ⟨rfl, rfl, hK⟩ := hv
  have hx := B.exec
  have hb := B.bytes
  have hr := B.returns
  have hts : ∀ w ∈ BG, w.before _ s = true := fun w h => atoms_spec (ws := .code y_Model_inOld b_Model_inOld 3 (some .int) :: BG) B.pre w (List.mem_cons_of_mem _ h)
  have hown : s.vm.findClass R_Model = some m.cls := findClass_of_methodNamed B.named
  have hlocks := B.notSynchronized
  have hS : va_S (fun _ => False) s.heap s.heap [] := va_S.rf
  have hl := lv_entry ([.ref ob]) (n := 3) (Nat.le_of_ble_eq_true rfl)
  rw [lg_entry_eq]
  generalize (lg_sl ([.ref ob]) ++ List.replicate (3 - (lg_sl ([.ref ob])).length) Slot.unset).toArray = ls at hl ⊢
  have hl : lv_has ls 3 [(0, .ref ob)] := hl
  have hlo := hC.lo
  have hhi := hC.hi
  refine lv_iconst hx hb d_Model_inOld_0 (v := (nI 0)) rfl ?_
  refine lv_istore_n hx hb d_Model_inOld_1 rfl hl (by decide) rfl (fun ls hl => ?_)
  have hl : lv_has ls 3 [(1, .int (nI 0)), (0, .ref ob)] := hl
  refine lv_iconst hx hb d_Model_inOld_2 (v := (nI 0)) rfl ?_
  refine lv_istore_n hx hb d_Model_inOld_3 rfl hl (by decide) rfl (fun ls hl => ?_)
  have hl : lv_has ls 3 [(2, .int (nI 0)), (1, .int (nI 0)), (0, .ref ob)] := hl
  refine W.eq (g2 := F0 m 4 ls []) rfl ?_
  refine lr1 (fun (j : Nat) => C - j) (fun (j : Nat) ls locs => (j ≤ C) ∧ lv_has ls 3 [(0, .ref ob), (1, .int (nI (cnt OM j))), (2, .int (nI j))] ∧ va_S (fun _ => False) s.heap s.heap locs) (fun j ls locs hE ih4 => ?_) 0 ls _ ⟨Nat.zero_le _, lv_sub hl [2, 1, 0] rfl, hS⟩
  obtain ⟨hj, hl, hS⟩ := hE
  refine lv_iload_n hx hb d_Model_inOld_4 rfl (lv_at hl 2 rfl) ?_
  refine lv_aload_n hx hb d_Model_inOld_5 rfl (lv_at hl 0 rfl) ?_
  refine va_get (ci := 3) (C := R_Model) (T := F_Model) (N := 24) hx hb hts in_Model hown hK hP 0 rfl rfl 0 (by decide) (hts _ wk_236) (fun _ h => h) rfl d_Model_inOld_6 ?_
  refine lv_icmp_ge hx hb d_Model_inOld_9 (tgt := 43) rfl (fun hc9 => ?_) (fun hc9 => ?_)
  · skip
    have hq : C = j := by
        have := (nI_leI (by omega) (by omega)).mp hc9
        omega
    subst hq
    refine lv_iload_n hx hb d_Model_inOld_43 rfl (lv_at hl 1 rfl) ?_
    exact rt_i hx hb hr hlocks rfl hS d_Model_inOld_44
  · skip
    have hq : ¬ C ≤ j := fun h => hc9 ((nI_leI (by omega) (by omega)).mpr h)
    refine lv_aload_n hx hb d_Model_inOld_12 rfl (lv_at hl 0 rfl) ?_
    refine va_get (ci := 3) (C := R_Model) (T := F_Model) (N := 24) hx hb hts in_Model hown hK hP 0 rfl rfl 14 (by decide) (hts _ wk_250) (fun _ h => h) rfl d_Model_inOld_13 ?_
    refine lv_if_eq hx hb d_Model_inOld_16 (tgt := 35) rfl (fun hc16 => ?_) (fun hc16 => ?_)
    · skip
      rw [show cnt OM j = cnt OM (j + 1) by rw [cnt, if_neg (cnt_zero C (hmv hc16) j (by omega)), Nat.add_zero]] at hl
      refine lv_iload_n hx hb d_Model_inOld_35 rfl (lv_at hl 1 rfl) ?_
      refine lv_istore_n hx hb d_Model_inOld_36 rfl hl (by decide) rfl (fun ls hl => ?_)
      have hl : lv_has ls 3 [(1, .int (nI (cnt OM (j + 1)))), (0, .ref ob), (2, .int (nI j))] := hl
      refine lv_iinc hx hb d_Model_inOld_37 hl (k := 2) rfl (v := nI (j + 1)) (nI_1 _) (by decide) rfl (fun ls hl => ?_)
      have hl : lv_has ls 3 [(2, .int (nI (j + 1))), (1, .int (nI (cnt OM (j + 1)))), (0, .ref ob)] := hl
      refine lv_goto hx hb d_Model_inOld_40 (tgt := 4) rfl ?_
      exact ih4 (j + 1) ls _ ⟨by omega, lv_sub hl [2, 1, 0] rfl, hS⟩ (by omega)
    · skip
      refine lv_aload_n hx hb d_Model_inOld_19 rfl (lv_at hl 0 rfl) ?_
      refine va_get (ci := 3) (C := R_Model) (T := F_Model) (N := 24) hx hb hts in_Model hown hK hP 0 rfl rfl 15 (by decide) (hts _ wk_251) (fun _ h => h) rfl d_Model_inOld_20 ?_
      refine lv_iload_n hx hb d_Model_inOld_23 rfl (lv_at hl 2 rfl) ?_
      refine ia_ld (i := j) hx hb hK hP 5 rfl rfl (by omega) (by omega) d_Model_inOld_24 ?_
      refine lv_iconst hx hb d_Model_inOld_25 (v := 1) rfl ?_
      refine lv_icmp_ne hx hb d_Model_inOld_26 (tgt := 35) rfl (fun hc26 => ?_) (fun hc26 => ?_)
      · skip
        rw [show cnt OM j = cnt OM (j + 1) by rw [cnt, if_neg hc26, Nat.add_zero]] at hl
        refine lv_iload_n hx hb d_Model_inOld_35 rfl (lv_at hl 1 rfl) ?_
        refine lv_istore_n hx hb d_Model_inOld_36 rfl hl (by decide) rfl (fun ls hl => ?_)
        have hl : lv_has ls 3 [(1, .int (nI (cnt OM (j + 1)))), (0, .ref ob), (2, .int (nI j))] := hl
        refine W.eq (g2 := F0 m 37 ls []) rfl ?_
        refine lv_iinc hx hb d_Model_inOld_37 hl (k := 2) rfl (v := nI (j + 1)) (nI_1 _) (by decide) rfl (fun ls hl => ?_)
        have hl : lv_has ls 3 [(2, .int (nI (j + 1))), (1, .int (nI (cnt OM (j + 1)))), (0, .ref ob)] := hl
        refine lv_goto hx hb d_Model_inOld_40 (tgt := 4) rfl ?_
        exact ih4 (j + 1) ls _ ⟨by omega, lv_sub hl [2, 1, 0] rfl, hS⟩ (by omega)
      · skip
        refine lv_iload_n hx hb d_Model_inOld_29 rfl (lv_at hl 1 rfl) ?_
        refine lv_iconst hx hb d_Model_inOld_30 (v := 1) rfl ?_
        refine W.eq (g2 := F0 m 31 ls [.int 1, .int (nI (cnt OM j))]) rfl ?_
        refine lv_iadd hx hb d_Model_inOld_31 ?_
        refine lv_asI (y := nI (cnt OM (j + 1))) ((nI_1 _).trans (by rw [cnt, if_pos hc26])) ?_
        refine lv_goto hx hb d_Model_inOld_32 (tgt := 36) rfl ?_
        refine lv_istore_n hx hb d_Model_inOld_36 rfl hl (by decide) rfl (fun ls hl => ?_)
        have hl : lv_has ls 3 [(1, .int (nI (cnt OM (j + 1)))), (0, .ref ob), (2, .int (nI j))] := hl
        refine lv_iinc hx hb d_Model_inOld_37 hl (k := 2) rfl (v := nI (j + 1)) (nI_1 _) (by decide) rfl (fun ls hl => ?_)
        have hl : lv_has ls 3 [(2, .int (nI (j + 1))), (1, .int (nI (cnt OM (j + 1)))), (0, .ref ob)] := hl
        refine lv_goto hx hb d_Model_inOld_40 (tgt := 4) rfl ?_
        exact ih4 (j + 1) ls _ ⟨by omega, lv_sub hl [2, 1, 0] rfl, hS⟩ (by omega)
set_option maxHeartbeats 4000000 in
set_option maxRecDepth 100000 in
theorem c_nextOld (l : Launch) {dC : Nat → ClassId} {dI : Nat → Nat → Nat} {cA : ClassId} {Hp : Heap} {ob bw bm bk bv cm ck cv C : Nat} {lim lo ti mv : Int32} {v : Int32 × Int32 × Int32 × Int32} {k1 l1 k2 l2 : Int64} {z : Int64 × Int64 × Int64 × Int64} {M K V Wd OM OK OV : Nat → Int32} (hC : szC C) (hmv : mv = 0 → cnt OM C = 0) (hP : va_P (dC, dI) cls [(ob, .inr (3, [.int (nI C), .int lim, .int v.1, .int v.2.1, .int v.2.2.1, .int v.2.2.2, .ref bw, .long k1, .long l1, .long k2, .long l2, .ref bm, .ref bk, .ref bv, .int mv, .ref cm, .ref ck, .ref cv, .int lo, .int ti, .long z.1, .long z.2.1, .long z.2.2.1, .long z.2.2.2])), (bw, .inl (cA, 4, .inl Wd)), (bm, .inl (cA, 128, .inl M)), (bk, .inl (cA, 128, .inl K)), (bv, .inl (cA, 128, .inl V)), (cm, .inl (cA, 128, .inl OM)), (ck, .inl (cA, 128, .inl OK)), (cv, .inl (cA, 128, .inl OV))] Hp) : Met l y_Model_nextOld (.code y_Model_nextOld b_Model_nextOld 2 (some .int) :: BG) ({ frames := 0, cells := 0, slots := 0, locals := 0 }) (pRO dC dI cA [.ref ob] Hp) (qRi (nxv C OM) Hp) 0 0 (fun _ => False) := by
  refine Met.ofW (cc := b_Model_nextOld) (maxL := 2) (ret := some .int) (by decide) rfl ?_
  intro p e s m args below meth c s₁ B hml hv
  obtain ⟨rfl, rfl, hK⟩ := hv
  have hx := B.exec
  have hb := B.bytes
  have hr := B.returns
  have hts : ∀ w ∈ BG, w.before _ s = true := fun w h => atoms_spec (ws := .code y_Model_nextOld b_Model_nextOld 2 (some .int) :: BG) B.pre w (List.mem_cons_of_mem _ h)
  have hown : s.vm.findClass R_Model = some m.cls := findClass_of_methodNamed B.named
  have hlocks := B.notSynchronized
  have hS : va_S (fun _ => False) s.heap s.heap [] := va_S.rf
  have hl := lv_entry ([.ref ob]) (n := 2) (Nat.le_of_ble_eq_true rfl)
  rw [lg_entry_eq]
  generalize (lg_sl ([.ref ob]) ++ List.replicate (2 - (lg_sl ([.ref ob])).length) Slot.unset).toArray = ls at hl ⊢
  have hl : lv_has ls 2 [(0, .ref ob)] := hl
  have hlo := hC.lo
  have hhi := hC.hi
  refine lv_iconst hx hb d_Model_nextOld_0 (v := (nI 0)) rfl ?_
  refine lv_istore_n hx hb d_Model_nextOld_1 rfl hl (by decide) rfl (fun ls hl => ?_)
  have hl : lv_has ls 2 [(1, .int (nI 0)), (0, .ref ob)] := hl
  refine W.eq (g2 := F0 m 2 ls []) rfl ?_
  refine lr1 (fun (j : Nat) => C - j) (fun (j : Nat) ls locs => (j ≤ C) ∧ (∀ a, a < j → OM a ≠ 1) ∧ lv_has ls 2 [(0, .ref ob), (1, .int (nI j))] ∧ va_S (fun _ => False) s.heap s.heap locs) (fun j ls locs hE ih2 => ?_) 0 ls _ ⟨Nat.zero_le _, fun a ha => absurd ha (by omega), lv_sub hl [1, 0] rfl, hS⟩
  obtain ⟨hj, hlow, hl, hS⟩ := hE
  refine lv_iload_n hx hb d_Model_nextOld_2 rfl (lv_at hl 1 rfl) ?_
  refine lv_aload_n hx hb d_Model_nextOld_3 rfl (lv_at hl 0 rfl) ?_
  refine va_get (ci := 3) (C := R_Model) (T := F_Model) (N := 24) hx hb hts in_Model hown hK hP 0 rfl rfl 0 (by decide) (hts _ wk_236) (fun _ h => h) rfl d_Model_nextOld_4 ?_
  refine lv_icmp_ge hx hb d_Model_nextOld_7 (tgt := 35) rfl (fun hc7 => ?_) (fun hc7 => ?_)
  · skip
    have hq : j = C := by
        have := (nI_leI (by omega) (by omega)).mp hc7
        omega
    have h0 : nxv C OM = -1 := if_pos (lst_none (fun a ha => hlow a (by omega)))
    refine lv_iconst hx hb d_Model_nextOld_35 (v := (-1)) rfl ?_
    exact rt_i hx hb hr hlocks h0.symm hS d_Model_nextOld_36
  · skip
    have hq : ¬ C ≤ j := fun h => hc7 ((nI_leI (by omega) (by omega)).mpr h)
    refine lv_aload_n hx hb d_Model_nextOld_10 rfl (lv_at hl 0 rfl) ?_
    refine va_get (ci := 3) (C := R_Model) (T := F_Model) (N := 24) hx hb hts in_Model hown hK hP 0 rfl rfl 14 (by decide) (hts _ wk_250) (fun _ h => h) rfl d_Model_nextOld_11 ?_
    refine lv_if_eq hx hb d_Model_nextOld_14 (tgt := 29) rfl (fun hc14 => ?_) (fun hc14 => ?_)
    · skip
      have hjn : OM j ≠ 1 := cnt_zero C (hmv hc14) j (by omega)
      refine lv_iinc hx hb d_Model_nextOld_29 hl (k := 1) rfl (v := nI (j + 1)) (nI_1 _) (by decide) rfl (fun ls hl => ?_)
      have hl : lv_has ls 2 [(1, .int (nI (j + 1))), (0, .ref ob)] := hl
      refine lv_goto hx hb d_Model_nextOld_32 (tgt := 2) rfl ?_
      exact ih2 (j + 1) ls _ ⟨by omega, fun a ha => by
          by_cases e : a = j
          · rw [e]; exact hjn
          · exact hlow a (by omega), lv_sub hl [1, 0] rfl, hS⟩ (by omega)
    · skip
      refine lv_aload_n hx hb d_Model_nextOld_17 rfl (lv_at hl 0 rfl) ?_
      refine va_get (ci := 3) (C := R_Model) (T := F_Model) (N := 24) hx hb hts in_Model hown hK hP 0 rfl rfl 15 (by decide) (hts _ wk_251) (fun _ h => h) rfl d_Model_nextOld_18 ?_
      refine lv_iload_n hx hb d_Model_nextOld_21 rfl (lv_at hl 1 rfl) ?_
      refine ia_ld (i := j) hx hb hK hP 5 rfl rfl (by omega) (by omega) d_Model_nextOld_22 ?_
      refine lv_iconst hx hb d_Model_nextOld_23 (v := 1) rfl ?_
      refine lv_icmp_ne hx hb d_Model_nextOld_24 (tgt := 29) rfl (fun hc24 => ?_) (fun hc24 => ?_)
      · skip
        have hjn : OM j ≠ 1 := hc24
        refine lv_iinc hx hb d_Model_nextOld_29 hl (k := 1) rfl (v := nI (j + 1)) (nI_1 _) (by decide) rfl (fun ls hl => ?_)
        have hl : lv_has ls 2 [(1, .int (nI (j + 1))), (0, .ref ob)] := hl
        refine lv_goto hx hb d_Model_nextOld_32 (tgt := 2) rfl ?_
        exact ih2 (j + 1) ls _ ⟨by omega, fun a ha => by
            by_cases e : a = j
            · rw [e]; exact hjn
            · exact hlow a (by omega), lv_sub hl [1, 0] rfl, hS⟩ (by omega)
      · skip
        have h0 : lst C OM = j := lst_some (by omega) hc24 hlow
        refine lv_iload_n hx hb d_Model_nextOld_27 rfl (lv_at hl 1 rfl) ?_
        exact rt_i hx hb hr hlocks (by unfold nxv; rw [if_neg (by omega), h0]) hS d_Model_nextOld_28
