theorem mvf_0 {C : Nat} {M : Nat → Int32} (h : mvf C M = 0) : cnt M C = 0 := by
  unfold mvf at h
  by_cases e : cnt M C = 0
  · exact e
  · rw [if_neg e] at h; exact absurd h (by decide)
theorem bh_eq {a b C : Nat} (h : b ≤ a + C) : nI a - nI b + nI C = nI (a + C - b) := by
  rw [← pk_sub h, ← nI_add, Int32.sub_eq_add_neg, Int32.sub_eq_add_neg, Int32.add_assoc, Int32.add_comm (-nI b), ← Int32.add_assoc]
/-- the first n places of B over A -/
def cp (A B : Nat → Int32) : Nat → Nat → Int32
  | 0 => A
  | n + 1 => upd (cp A B n) n (B n)
theorem cp_lt {A B : Nat → Int32} : ∀ n j, j < n → cp A B n j = B j
  | 0, _, h => absurd h (by omega)
  | n + 1, j, h => by
    rw [cp]
    by_cases e : j = n
    · rw [e, pk_us]
    · rw [pk_un e]; exact cp_lt n j (by omega)
theorem clr_ge {M : Nat → Int32} : ∀ n j, n ≤ j → clr M n j = M j
  | 0, _, _ => rfl
  | n + 1, j, h => by rw [clr, pk_un (by omega)]; exact clr_ge n j (by omega)
theorem free_ahead {C : Nat} (hC : szC C) {M : Nat → Int32} {fr : Nat} (hfr : fr < C) (h1 : M fr = 1) (hf : ∃ j, j < C ∧ M j = 0) : ∃ i0, 1 ≤ i0 ∧ i0 < C ∧ M ((fr + i0) % C) = 0 := by
  obtain ⟨j0, hj, e0⟩ := hf
  have hne : j0 ≠ fr := fun e => by rw [e, h1] at e0; exact absurd e0 (by decide)
  have ho : (fr + (j0 + C - fr) % C) % C = j0 := by
    rcases hC with rfl | rfl | rfl | rfl | rfl <;> omega
  refine ⟨(j0 + C - fr) % C, ?_, md_lt hC, by rw [ho]; exact e0⟩
  rcases hC with rfl | rfl | rfl | rfl | rfl <;> omega
set_option maxHeartbeats 4000000 in
set_option maxRecDepth 100000 in
theorem c_step (l : Launch) {dC : Nat → ClassId} {dI : Nat → Nat → Nat} {cA : ClassId} (sz : Nat) {ob bw bm bk bv cm ck cv C : Nat} {lim lo ti mv : Int32} {v : Int32 × Int32 × Int32 × Int32} {k1 l1 k2 l2 : Int64} {z : Int64 × Int64 × Int64 × Int64} {M K V Wd OM OK OV : Nat → Int32} {OM1 M1 K1 V1 : Nat → Int32} (hst : mst C (hmk C k1 l1) OK OV 4 (OM, M, K, V) = (OM1, M1, K1, V1)) (hC : szC C) (h01 : ∀ a, a < C → M a = 0 ∨ M a = 1) (hcn : cnt OM C + cnt M C < C) (hmv : mv = 0 → cnt OM C = 0) : Met l y_Model_step (.code y_Model_step b_Model_step 4 (some .int) :: BG) ({ frames := 5, cells := 0, slots := 0, locals := 116 }) (pRW dC dI cA [.ref ob] [(ob, .inr (3, [.int (nI C), .int lim, .int v.1, .int v.2.1, .int v.2.2.1, .int v.2.2.2, .ref bw, .long k1, .long l1, .long k2, .long l2, .ref bm, .ref bk, .ref bv, .int mv, .ref cm, .ref ck, .ref cv, .int lo, .int ti, .long z.1, .long z.2.1, .long z.2.2.1, .long z.2.2.2])), (bw, .inl (cA, 4, .inl Wd)), (bm, .inl (cA, 128, .inl M)), (bk, .inl (cA, 128, .inl K)), (bv, .inl (cA, 128, .inl V)), (cm, .inl (cA, 128, .inl OM)), (ck, .inl (cA, 128, .inl OK)), (cv, .inl (cA, 128, .inl OV))] sz) (va_Qi (fun r (u : Int64 × Int64 × Int64 × Int64) => r = nI (mcn C 4 OM)) (fun (u : Int64 × Int64 × Int64 × Int64) tS => wdB dC dI cA (va_A [(ob, .inr (3, [.int (nI C), .int lim, .int v.1, .int v.2.1, .int v.2.2.1, .int v.2.2.2, .ref bw, .long k1, .long l1, .long k2, .long l2, .ref bm, .ref bk, .ref bv, .int mv, .ref cm, .ref ck, .ref cv, .int lo, .int ti, .long z.1, .long z.2.1, .long z.2.2.1, .long z.2.2.2])), (bw, .inl (cA, 4, .inl Wd)), (bm, .inl (cA, 128, .inl M)), (bk, .inl (cA, 128, .inl K)), (bv, .inl (cA, 128, .inl V)), (cm, .inl (cA, 128, .inl OM)), (ck, .inl (cA, 128, .inl OK)), (cv, .inl (cA, 128, .inl OV))] sz) [(ob, .inr (3, [.int (nI C), .int lim, .int v.1, .int v.2.1, .int v.2.2.1, .int v.2.2.2, .ref bw, .long k1, .long l1, .long k2, .long l2, .ref bm, .ref bk, .ref bv, .int (mvf C OM1), .ref cm, .ref ck, .ref cv, .int lo, .int ti, .long u.1, .long u.2.1, .long u.2.2.1, .long u.2.2.2])), (bw, .inl (cA, 4, .inl Wd)), (bm, .inl (cA, 128, .inl M1)), (bk, .inl (cA, 128, .inl K1)), (bv, .inl (cA, 128, .inl V1)), (cm, .inl (cA, 128, .inl OM1)), (ck, .inl (cA, 128, .inl OK)), (cv, .inl (cA, 128, .inl OV))] tS) (va_A [(ob, .inr (3, [.int (nI C), .int lim, .int v.1, .int v.2.1, .int v.2.2.1, .int v.2.2.2, .ref bw, .long k1, .long l1, .long k2, .long l2, .ref bm, .ref bk, .ref bv, .int mv, .ref cm, .ref ck, .ref cv, .int lo, .int ti, .long z.1, .long z.2.1, .long z.2.2.1, .long z.2.2.2])), (bw, .inl (cA, 4, .inl Wd)), (bm, .inl (cA, 128, .inl M)), (bk, .inl (cA, 128, .inl K)), (bv, .inl (cA, 128, .inl V)), (cm, .inl (cA, 128, .inl OM)), (ck, .inl (cA, 128, .inl OK)), (cv, .inl (cA, 128, .inl OV))] sz)) 0 0 (va_A [(ob, .inr (3, [.int (nI C), .int lim, .int v.1, .int v.2.1, .int v.2.2.1, .int v.2.2.2, .ref bw, .long k1, .long l1, .long k2, .long l2, .ref bm, .ref bk, .ref bv, .int mv, .ref cm, .ref ck, .ref cv, .int lo, .int ti, .long z.1, .long z.2.1, .long z.2.2.1, .long z.2.2.2])), (bw, .inl (cA, 4, .inl Wd)), (bm, .inl (cA, 128, .inl M)), (bk, .inl (cA, 128, .inl K)), (bv, .inl (cA, 128, .inl V)), (cm, .inl (cA, 128, .inl OM)), (ck, .inl (cA, 128, .inl OK)), (cv, .inl (cA, 128, .inl OV))] sz) := by
  refine Met.ofW (cc := b_Model_step) (maxL := 4) (ret := some .int) (by decide) rfl ?_
  intro p e s m args below meth c s₁ B hml hv
  obtain ⟨rfl, hsz, hP, hK, hD0⟩ := hv
  have hx := B.exec
  have hb := B.bytes
  have hr := B.returns
  have hts : ∀ w ∈ BG, w.before _ s = true := fun w h => atoms_spec (ws := .code y_Model_step b_Model_step 4 (some .int) :: BG) B.pre w (List.mem_cons_of_mem _ h)
  have hown : s.vm.findClass R_Model = some m.cls := findClass_of_methodNamed B.named
  have hlocks := B.notSynchronized
  subst hsz
  have hD := hD0.self (sz := s.heap.size)
  generalize hAe : va_A [(ob, .inr (3, [.int (nI C), .int lim, .int v.1, .int v.2.1, .int v.2.2.1, .int v.2.2.2, .ref bw, .long k1, .long l1, .long k2, .long l2, .ref bm, .ref bk, .ref bv, .int mv, .ref cm, .ref ck, .ref cv, .int lo, .int ti, .long z.1, .long z.2.1, .long z.2.2.1, .long z.2.2.2])), (bw, .inl (cA, 4, .inl Wd)), (bm, .inl (cA, 128, .inl M)), (bk, .inl (cA, 128, .inl K)), (bv, .inl (cA, 128, .inl V)), (cm, .inl (cA, 128, .inl OM)), (ck, .inl (cA, 128, .inl OK)), (cv, .inl (cA, 128, .inl OV))] s.heap.size = A at hD ⊢
  have hA : ∀ q : Nat, s.heap.size ≤ q → A q := fun q h => by rw [← hAe]; exact Or.inr h
  have hS : va_S A s.heap s.heap [] := va_S.rf
  have hP : va_P (dC, dI) cls [(ob, .inr (3, [.int (nI C), .int lim, .int v.1, .int v.2.1, .int v.2.2.1, .int v.2.2.2, .ref bw, .long k1, .long l1, .long k2, .long l2, .ref bm, .ref bk, .ref bv, .int mv, .ref cm, .ref ck, .ref cv, .int lo, .int ti, .long z.1, .long z.2.1, .long z.2.2.1, .long z.2.2.2])), (bw, .inl (cA, 4, .inl Wd)), (bm, .inl (cA, 128, .inl M)), (bk, .inl (cA, 128, .inl K)), (bv, .inl (cA, 128, .inl V)), (cm, .inl (cA, 128, .inl OM)), (ck, .inl (cA, 128, .inl OK)), (cv, .inl (cA, 128, .inl OV))] s.heap := hP
  have hl := lv_entry ([.ref ob]) (n := 4) (Nat.le_of_ble_eq_true rfl)
  rw [lg_entry_eq]
  generalize (lg_sl ([.ref ob]) ++ List.replicate (4 - (lg_sl ([.ref ob])).length) Slot.unset).toArray = ls at hl ⊢
  have hl : lv_has ls 4 [(0, .ref ob)] := hl
  have hlo := hC.lo
  have hhi := hC.hi
  refine lv_iconst hx hb d_Model_step_0 (v := (nI 0)) rfl ?_
  refine lv_istore_n hx hb d_Model_step_1 rfl hl (by decide) rfl (fun ls hl => ?_)
  have hl : lv_has ls 4 [(1, .int (nI 0)), (0, .ref ob)] := hl
  refine lv_aload_n hx hb d_Model_step_2 rfl (lv_at hl 1 rfl) ?_
  refine ro_i (va_runV (As := []) (rest := []) ⟨hx, hb, hml, hown, hts⟩ (c_nextOld l hC hmv hP) (cwV 0 hts g_Model_131 rfl rfl rfl (by decide +kernel) ⟨Nat.le_of_ble_eq_true rfl, Nat.le_of_ble_eq_true rfl⟩) ⟨bl_RO, va_recv (q0 := 0) hK hP rfl rfl, fun U hU hW => ⟨rfl, hU, va_K.moved hW.alike hK⟩⟩ rfl rfl hl.1 rfl (lv_room (Nat.le_of_ble_eq_true rfl)) d_Model_step_3 ⟨Nat.zero_le _, Nat.zero_le _⟩) hS (fun locs hS => ?_)
  refine lv_istore_n hx hb d_Model_step_6 rfl hl (by decide) rfl (fun ls hl => ?_)
  have hl : lv_has ls 4 [(2, .int (nxv C OM)), (1, .int (nI 0)), (0, .ref ob)] := hl
  refine W.eq (g2 := F0 m 7 ls []) rfl ?_
  refine lq6 (fun (md : Nat) (OMx : Nat → Int32) (Mx : Nat → Int32) (Kx : Nat → Int32) (Vx : Nat → Int32) (zz : Int64 × Int64 × Int64 × Int64) => 4 - md) (fun (md : Nat) (OMx : Nat → Int32) (Mx : Nat → Int32) (Kx : Nat → Int32) (Vx : Nat → Int32) (zz : Int64 × Int64 × Int64 × Int64) ls H locs => (md ≤ 4) ∧ (mst C (hmk C k1 l1) OK OV (4 - md) (OMx, Mx, Kx, Vx) = (OM1, M1, K1, V1)) ∧ (md + mcn C (4 - md) OMx = mcn C 4 OM) ∧ (∀ a, a < C → Mx a = 0 ∨ Mx a = 1) ∧ (cnt OMx C + cnt Mx C < C) ∧ (mv = 0 → cnt OMx C = 0) ∧ lv_has ls 4 [(0, .ref ob), (1, .int (nI md)), (2, .int (nxv C OMx))] ∧ va_P (dC, dI) cls [(ob, .inr (3, [.int (nI C), .int lim, .int v.1, .int v.2.1, .int v.2.2.1, .int v.2.2.2, .ref bw, .long k1, .long l1, .long k2, .long l2, .ref bm, .ref bk, .ref bv, .int mv, .ref cm, .ref ck, .ref cv, .int lo, .int ti, .long zz.1, .long zz.2.1, .long zz.2.2.1, .long zz.2.2.2])), (bw, .inl (cA, 4, .inl Wd)), (bm, .inl (cA, 128, .inl Mx)), (bk, .inl (cA, 128, .inl Kx)), (bv, .inl (cA, 128, .inl Vx)), (cm, .inl (cA, 128, .inl OMx)), (ck, .inl (cA, 128, .inl OK)), (cv, .inl (cA, 128, .inl OV))] H ∧ va_D A [(ob, .inr (3, [.int (nI C), .int lim, .int v.1, .int v.2.1, .int v.2.2.1, .int v.2.2.2, .ref bw, .long k1, .long l1, .long k2, .long l2, .ref bm, .ref bk, .ref bv, .int mv, .ref cm, .ref ck, .ref cv, .int lo, .int ti, .long zz.1, .long zz.2.1, .long zz.2.2.1, .long zz.2.2.2])), (bw, .inl (cA, 4, .inl Wd)), (bm, .inl (cA, 128, .inl Mx)), (bk, .inl (cA, 128, .inl Kx)), (bv, .inl (cA, 128, .inl Vx)), (cm, .inl (cA, 128, .inl OMx)), (ck, .inl (cA, 128, .inl OK)), (cv, .inl (cA, 128, .inl OV))] ∧ va_S A s.heap H locs) (fun md OMx Mx Kx Vx zz ls H locs hE ih7 => ?_) 0 OM M K V z ls _ _ ⟨by omega, hst, Nat.zero_add _, h01, hcn, hmv, lv_sub hl [2, 1, 0] rfl, hP, hD, hS⟩
  obtain ⟨hmd, hZ, hNm, h01, hcn, hmx, hl, hP, hD, hS⟩ := hE
  refine lv_iload_n hx hb d_Model_step_7 rfl (lv_at hl 2 rfl) ?_
  refine lv_if_lt hx hb d_Model_step_8 (tgt := 51) rfl (fun hc8 => ?_) (fun hc8 => ?_)
  · skip
    have h0 : cnt OMx C = 0 := lst_cnt.mp ((nxv_lt hC).mp hc8)
    have hlst : lst C OMx = C := lst_none (cnt_zero C h0)
    rw [mst_stop (s := (OMx, Mx, Kx, Vx)) hlst] at hZ
    rw [mcn_min, h0] at hNm
    have hN2 : md = mcn C 4 OM := by omega
    simp only [Prod.mk.injEq] at hZ
    obtain ⟨rfl, rfl, rfl, rfl⟩ := hZ
    have hm9 : mvf C OMx = 0 := if_pos h0
    refine lv_aload_n hx hb d_Model_step_51 rfl (lv_at hl 0 rfl) ?_
    refine lv_iload_n hx hb d_Model_step_52 rfl (lv_at hl 2 rfl) ?_
    refine lv_if_lt hx hb d_Model_step_53 (tgt := 60) rfl (fun hc => ?_) (fun hc => absurd hc (fun q => q hc8))
    refine lv_iconst hx hb d_Model_step_60 (v := 0) rfl ?_
    refine va_put (D := (dC, dI)) (ci := 3) (v := .int 0) (ty := .boolean) (C := R_Model) (T := F_Model) (N := 24) hx hb hts in_Model t_Model t_Model_ok n_Model hown hK hP hD hS 0 rfl rfl 14 (by decide) (hts _ wk_250) (fun _ h => h) rfl t_Model_14 rfl rfl (Nat.le_of_ble_eq_true rfl) d_Model_step_61 (fun H locs hP hD hS => ?_)
    have hP : va_P (dC, dI) cls [(ob, .inr (3, [.int (nI C), .int lim, .int v.1, .int v.2.1, .int v.2.2.1, .int v.2.2.2, .ref bw, .long k1, .long l1, .long k2, .long l2, .ref bm, .ref bk, .ref bv, .int 0, .ref cm, .ref ck, .ref cv, .int lo, .int ti, .long zz.1, .long zz.2.1, .long zz.2.2.1, .long zz.2.2.2])), (bw, .inl (cA, 4, .inl Wd)), (bm, .inl (cA, 128, .inl Mx)), (bk, .inl (cA, 128, .inl Kx)), (bv, .inl (cA, 128, .inl Vx)), (cm, .inl (cA, 128, .inl OMx)), (ck, .inl (cA, 128, .inl OK)), (cv, .inl (cA, 128, .inl OV))] H := hP
    have hD : va_D A [(ob, .inr (3, [.int (nI C), .int lim, .int v.1, .int v.2.1, .int v.2.2.1, .int v.2.2.2, .ref bw, .long k1, .long l1, .long k2, .long l2, .ref bm, .ref bk, .ref bv, .int 0, .ref cm, .ref ck, .ref cv, .int lo, .int ti, .long zz.1, .long zz.2.1, .long zz.2.2.1, .long zz.2.2.2])), (bw, .inl (cA, 4, .inl Wd)), (bm, .inl (cA, 128, .inl Mx)), (bk, .inl (cA, 128, .inl Kx)), (bv, .inl (cA, 128, .inl Vx)), (cm, .inl (cA, 128, .inl OMx)), (ck, .inl (cA, 128, .inl OK)), (cv, .inl (cA, 128, .inl OV))] := hD
    refine lv_iload_n hx hb d_Model_step_64 rfl (lv_at hl 1 rfl) ?_
    exact W.iret hx hb hr (fun tS ht hW => ⟨⟨_, zz, rfl, congrArg nI hN2, by rw [ht]; exact (by rw [hm9]; exact hP), va_K.moved hW.alike hK, (by rw [hm9]; exact hD)⟩, hS.F ht⟩) hS.2.2 d_Model_step_65 hlocks
  · skip
    obtain ⟨hk, hk1, hk2⟩ := (lst_spec C OMx).resolve_left (fun q => hc8 ((nxv_lt hC).mpr q.1))
    have hnx : nxv C OMx = nI (lst C OMx) := if_neg (by omega)
    have hcl := cnt_le OMx C
    obtain ⟨k, hke⟩ : ∃ k, lst C OMx = k := ⟨_, rfl⟩
    rw [hke] at hk hk1 hk2 hnx
    rw [hnx] at hl hc8
    refine lv_iload_n hx hb d_Model_step_11 rfl (lv_at hl 1 rfl) ?_
    refine lv_iconst hx hb d_Model_step_12 (v := (nI 4)) rfl ?_
    refine lv_icmp_ge hx hb d_Model_step_13 (tgt := 51) rfl (fun hc13 => ?_) (fun hc13 => ?_)
    · skip
      have hq4 : md = 4 := by
          have := (nI_leI (by omega) (by omega)).mp hc13
          omega
      subst hq4
      have hN2 : 4 = mcn C 4 OM := by simpa [mcn] using hNm
      have hZ : (OMx, Mx, Kx, Vx) = (OM1, M1, K1, V1) := hZ
      simp only [Prod.mk.injEq] at hZ
      obtain ⟨rfl, rfl, rfl, rfl⟩ := hZ
      have hm9 : mvf C OMx = 1 := if_neg (fun h => cnt_zero C h k hk hk1)
      refine lv_aload_n hx hb d_Model_step_51 rfl (lv_at hl 0 rfl) ?_
      refine lv_iload_n hx hb d_Model_step_52 rfl (lv_at hl 2 rfl) ?_
      refine lv_if_lt hx hb d_Model_step_53 (tgt := 60) rfl (fun hc => absurd hc (nI_pos (by omega))) (fun hc => ?_)
      refine lv_iconst hx hb d_Model_step_56 (v := 1) rfl ?_
      refine lv_goto hx hb d_Model_step_57 (tgt := 61) rfl ?_
      refine va_put (D := (dC, dI)) (ci := 3) (v := .int 1) (ty := .boolean) (C := R_Model) (T := F_Model) (N := 24) hx hb hts in_Model t_Model t_Model_ok n_Model hown hK hP hD hS 0 rfl rfl 14 (by decide) (hts _ wk_250) (fun _ h => h) rfl t_Model_14 rfl rfl (Nat.le_of_ble_eq_true rfl) d_Model_step_61 (fun H locs hP hD hS => ?_)
      have hP : va_P (dC, dI) cls [(ob, .inr (3, [.int (nI C), .int lim, .int v.1, .int v.2.1, .int v.2.2.1, .int v.2.2.2, .ref bw, .long k1, .long l1, .long k2, .long l2, .ref bm, .ref bk, .ref bv, .int 1, .ref cm, .ref ck, .ref cv, .int lo, .int ti, .long zz.1, .long zz.2.1, .long zz.2.2.1, .long zz.2.2.2])), (bw, .inl (cA, 4, .inl Wd)), (bm, .inl (cA, 128, .inl Mx)), (bk, .inl (cA, 128, .inl Kx)), (bv, .inl (cA, 128, .inl Vx)), (cm, .inl (cA, 128, .inl OMx)), (ck, .inl (cA, 128, .inl OK)), (cv, .inl (cA, 128, .inl OV))] H := hP
      have hD : va_D A [(ob, .inr (3, [.int (nI C), .int lim, .int v.1, .int v.2.1, .int v.2.2.1, .int v.2.2.2, .ref bw, .long k1, .long l1, .long k2, .long l2, .ref bm, .ref bk, .ref bv, .int 1, .ref cm, .ref ck, .ref cv, .int lo, .int ti, .long zz.1, .long zz.2.1, .long zz.2.2.1, .long zz.2.2.2])), (bw, .inl (cA, 4, .inl Wd)), (bm, .inl (cA, 128, .inl Mx)), (bk, .inl (cA, 128, .inl Kx)), (bv, .inl (cA, 128, .inl Vx)), (cm, .inl (cA, 128, .inl OMx)), (ck, .inl (cA, 128, .inl OK)), (cv, .inl (cA, 128, .inl OV))] := hD
      refine lv_iload_n hx hb d_Model_step_64 rfl (lv_at hl 1 rfl) ?_
      exact W.iret hx hb hr (fun tS ht hW => ⟨⟨_, zz, rfl, congrArg nI hN2, by rw [ht]; exact (by rw [hm9]; exact hP), va_K.moved hW.alike hK, (by rw [hm9]; exact hD)⟩, hS.F ht⟩) hS.2.2 d_Model_step_65 hlocks
    · skip
      have hq4 : ¬ 4 ≤ md := fun h => hc13 ((nI_leI (by omega) (by omega)).mpr h)
      have c2 := cnt_out (x := 2) hk hk1 (by decide)
      have hfr := cnt_free C h01 (by omega)
      have hfree := (plc_free hC (hmk_lt hC k1 l1 (OK k)) hfr).1
      have c1 := cnt_put (M := Mx) (n := C) (plc_lt hC Mx (hmk C k1 l1 (OK k))) (by rw [hfree]; decide)
      rw [show 4 - md = (4 - (md + 1)) + 1 by omega, mst] at hZ
      dsimp only at hZ
      rw [if_neg (by omega), hke] at hZ
      rw [show 4 - md = (4 - (md + 1)) + 1 by omega, mcn, if_neg (by omega), hke] at hNm
      refine lv_aload_n hx hb d_Model_step_16 rfl (lv_at hl 0 rfl) ?_
      refine va_get (ci := 3) (C := R_Model) (T := F_Model) (N := 24) hx hb hts in_Model hown hK hP 0 rfl rfl 15 (by decide) (hts _ wk_251) (fun _ h => h) rfl d_Model_step_17 ?_
      refine lv_iload_n hx hb d_Model_step_20 rfl (lv_at hl 2 rfl) ?_
      refine lv_iconst hx hb d_Model_step_21 (v := 2) rfl ?_
      refine ia_st (i := k) hx hb hK hP hD hS 5 rfl rfl (by omega) (by omega) d_Model_step_22 (fun H locs hP hD hS => ?_)
      have hP : va_P (dC, dI) cls [(ob, .inr (3, [.int (nI C), .int lim, .int v.1, .int v.2.1, .int v.2.2.1, .int v.2.2.2, .ref bw, .long k1, .long l1, .long k2, .long l2, .ref bm, .ref bk, .ref bv, .int mv, .ref cm, .ref ck, .ref cv, .int lo, .int ti, .long zz.1, .long zz.2.1, .long zz.2.2.1, .long zz.2.2.2])), (bw, .inl (cA, 4, .inl Wd)), (bm, .inl (cA, 128, .inl Mx)), (bk, .inl (cA, 128, .inl Kx)), (bv, .inl (cA, 128, .inl Vx)), (cm, .inl (cA, 128, .inl (upd OMx k 2))), (ck, .inl (cA, 128, .inl OK)), (cv, .inl (cA, 128, .inl OV))] H := hP
      have hD : va_D A [(ob, .inr (3, [.int (nI C), .int lim, .int v.1, .int v.2.1, .int v.2.2.1, .int v.2.2.2, .ref bw, .long k1, .long l1, .long k2, .long l2, .ref bm, .ref bk, .ref bv, .int mv, .ref cm, .ref ck, .ref cv, .int lo, .int ti, .long zz.1, .long zz.2.1, .long zz.2.2.1, .long zz.2.2.2])), (bw, .inl (cA, 4, .inl Wd)), (bm, .inl (cA, 128, .inl Mx)), (bk, .inl (cA, 128, .inl Kx)), (bv, .inl (cA, 128, .inl Vx)), (cm, .inl (cA, 128, .inl (upd OMx k 2))), (ck, .inl (cA, 128, .inl OK)), (cv, .inl (cA, 128, .inl OV))] := hD
      refine lv_aload_n hx hb d_Model_step_23 rfl (lv_at hl 0 rfl) ?_
      refine lv_aload_n hx hb d_Model_step_24 rfl (lv_at hl 0 rfl) ?_
      refine va_get (ci := 3) (C := R_Model) (T := F_Model) (N := 24) hx hb hts in_Model hown hK hP 0 rfl rfl 16 (by decide) (hts _ wk_252) (fun _ h => h) rfl d_Model_step_25 ?_
      refine lv_iload_n hx hb d_Model_step_28 rfl (lv_at hl 2 rfl) ?_
      refine ia_ld (i := k) hx hb hK hP 6 rfl rfl (by omega) (by omega) d_Model_step_29 ?_
      refine W.eq (g2 := F0 m 30 ls [.int (OK k), .ref ob]) rfl ?_
      refine lv_aload_n hx hb d_Model_step_30 rfl (lv_at hl 0 rfl) ?_
      refine va_get (ci := 3) (C := R_Model) (T := F_Model) (N := 24) hx hb hts in_Model hown hK hP 0 rfl rfl 17 (by decide) (hts _ wk_253) (fun _ h => h) rfl d_Model_step_31 ?_
      refine lv_iload_n hx hb d_Model_step_34 rfl (lv_at hl 2 rfl) ?_
      refine ia_ld (i := k) hx hb hK hP 7 rfl rfl (by omega) (by omega) d_Model_step_35 ?_
      refine rw_i (wc := [(ob, .inr (3, [.int (nI C), .int lim, .int v.1, .int v.2.1, .int v.2.2.1, .int v.2.2.2, .ref bw, .long k1, .long l1, .long k2, .long l2, .ref bm, .ref bk, .ref bv, .int mv, .ref cm, .ref ck, .ref cv, .int lo, .int ti, .long zz.1, .long zz.2.1, .long zz.2.2.1, .long zz.2.2.2])), (bw, .inl (cA, 4, .inl Wd)), (bm, .inl (cA, 128, .inl Mx)), (bk, .inl (cA, 128, .inl Kx)), (bv, .inl (cA, 128, .inl Vx)), (cm, .inl (cA, 128, .inl (upd OMx k 2))), (ck, .inl (cA, 128, .inl OK)), (cv, .inl (cA, 128, .inl OV))]) (wr := []) hP hD hS hA (va_runV (As := [.int (OK k), .int (OV k)]) (rest := []) ⟨hx, hb, hml, hown, hts⟩ (c_enter l _ hC hfr (OK k) (OV k)) (cwV 2 hts g_Model_134 rfl rfl rfl (by decide +kernel) ⟨Nat.le_of_ble_eq_true rfl, Nat.le_of_ble_eq_true rfl⟩) ⟨bl_RW, va_recv (q0 := 0) hK hP rfl rfl, pr_RW hK hP hD [0, 1, 2, 3, 4, 5, 6, 7] rfl (by decide) rfl⟩ rfl rfl hl.1 rfl (lv_room (Nat.le_of_ble_eq_true rfl)) d_Model_step_36 ⟨Nat.zero_le _, Nat.zero_le _⟩) [0, 1, 2, 3, 4, 5, 6, 7] [] rfl rfl (by decide) (by decide) (fun re y2 H locs hre hP hD hS => ?_)
      have hP : va_P (dC, dI) cls [(ob, .inr (3, [.int (nI C), .int lim, .int v.1, .int v.2.1, .int v.2.2.1, .int v.2.2.2, .ref bw, .long k1, .long l1, .long k2, .long l2, .ref bm, .ref bk, .ref bv, .int mv, .ref cm, .ref ck, .ref cv, .int lo, .int ti, .long y2.1, .long y2.2.1, .long y2.2.2.1, .long y2.2.2.2])), (bw, .inl (cA, 4, .inl Wd)), (bm, .inl (cA, 128, .inl (upd Mx (plc C Mx (hmk C k1 l1 (OK k))) 1))), (bk, .inl (cA, 128, .inl (upd Kx (plc C Mx (hmk C k1 l1 (OK k))) (OK k)))), (bv, .inl (cA, 128, .inl (upd Vx (plc C Mx (hmk C k1 l1 (OK k))) (OV k)))), (cm, .inl (cA, 128, .inl (upd OMx k 2))), (ck, .inl (cA, 128, .inl OK)), (cv, .inl (cA, 128, .inl OV))] H := hP
      have hD : va_D A [(ob, .inr (3, [.int (nI C), .int lim, .int v.1, .int v.2.1, .int v.2.2.1, .int v.2.2.2, .ref bw, .long k1, .long l1, .long k2, .long l2, .ref bm, .ref bk, .ref bv, .int mv, .ref cm, .ref ck, .ref cv, .int lo, .int ti, .long y2.1, .long y2.2.1, .long y2.2.2.1, .long y2.2.2.2])), (bw, .inl (cA, 4, .inl Wd)), (bm, .inl (cA, 128, .inl (upd Mx (plc C Mx (hmk C k1 l1 (OK k))) 1))), (bk, .inl (cA, 128, .inl (upd Kx (plc C Mx (hmk C k1 l1 (OK k))) (OK k)))), (bv, .inl (cA, 128, .inl (upd Vx (plc C Mx (hmk C k1 l1 (OK k))) (OV k)))), (cm, .inl (cA, 128, .inl (upd OMx k 2))), (ck, .inl (cA, 128, .inl OK)), (cv, .inl (cA, 128, .inl OV))] := hD
      refine lv_istore_n hx hb d_Model_step_39 rfl hl (by decide) rfl (fun ls hl => ?_)
      have hl : lv_has ls 4 [(3, .int re), (0, .ref ob), (1, .int (nI md)), (2, .int (nI k))] := hl
      refine lv_iinc hx hb d_Model_step_40 hl (k := 2) rfl (v := nI (md + 1)) (nI_1 _) (by decide) rfl (fun ls hl => ?_)
      have hl : lv_has ls 4 [(1, .int (nI (md + 1))), (3, .int re), (0, .ref ob), (2, .int (nI k))] := hl
      refine lv_aload_n hx hb d_Model_step_43 rfl (lv_at hl 2 rfl) ?_
      refine ro_i (va_runV (As := []) (rest := []) ⟨hx, hb, hml, hown, hts⟩ (c_nextOld l hC (fun h => by have := hmx h; omega) hP) (cwV 0 hts g_Model_131 rfl rfl rfl (by decide +kernel) ⟨Nat.le_of_ble_eq_true rfl, Nat.le_of_ble_eq_true rfl⟩) ⟨bl_RO, va_recv (q0 := 0) hK hP rfl rfl, fun U hU hW => ⟨rfl, hU, va_K.moved hW.alike hK⟩⟩ rfl rfl hl.1 rfl (lv_room (Nat.le_of_ble_eq_true rfl)) d_Model_step_44 ⟨Nat.zero_le _, Nat.zero_le _⟩) hS (fun locs hS => ?_)
      refine lv_istore_n hx hb d_Model_step_47 rfl hl (by decide) rfl (fun ls hl => ?_)
      have hl : lv_has ls 4 [(2, .int (nxv C (upd OMx k 2))), (1, .int (nI (md + 1))), (3, .int re), (0, .ref ob)] := hl
      refine lv_goto hx hb d_Model_step_48 (tgt := 7) rfl ?_
      exact ih7 (md + 1) (upd OMx k 2) (upd Mx (plc C Mx (hmk C k1 l1 (OK k))) 1) (upd Kx (plc C Mx (hmk C k1 l1 (OK k))) (OK k)) (upd Vx (plc C Mx (hmk C k1 l1 (OK k))) (OV k)) y2 ls _ _ ⟨by omega, hZ, by omega, fun a ha => by
          by_cases e : a = plc C Mx (hmk C k1 l1 (OK k))
          · rw [e, pk_us]; exact Or.inr rfl
          · rw [pk_un e]; exact h01 a ha, by omega, fun h => by have := hmx h; omega, lv_sub hl [3, 1, 0] rfl, hP, hD, hS⟩ (by omega)
