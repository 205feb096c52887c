/-! Class and reference: when their states hold the same, and that every call keeps it. -/
def RC (C : Nat) (M K V Wd OM OK OV Wo M' K' V' Wd' OM' OK' OV' : Nat → Int32) (k2 l2 : Int64) : Prop :=
  (∀ a, a < C → M a = 0 ∨ M a = 1) ∧ cnt OM C + cnt M C ≤ 3 * C / 4 ∧ Rl C M K V M' K' V' ∧ (∀ j, j < 4 → Wd j = Wd' j) ∧ cnt OM C = cnt OM' C ∧
    (cnt OM C ≠ 0 → Rl C OM OK OV OM' OK' OV' ∧ k2 = jn (Wo 0) (Wo 1) ∧ l2 = jn (Wo 2) (Wo 3))
section RCS
variable {C : Nat} {M K V Wd OM OK OV Wo M' K' V' Wd' OM' OK' OV' : Nat → Int32} {k2 l2 : Int64}
theorem rc_lt (hC : szC C) (h : RC C M K V Wd OM OK OV Wo M' K' V' Wd' OM' OK' OV' k2 l2) : cnt OM C + cnt M C < C := by
  have hlo := hC.lo
  have := h.2.1
  omega
theorem rc_01 (h : RC C M K V Wd OM OK OV Wo M' K' V' Wd' OM' OK' OV' k2 l2) : ∀ a, a < C → M' a = 0 ∨ M' a = 1 := fun a ha => by
  rw [← (h.2.2.1 a ha).1]; exact h.1 a ha
theorem rc_lt' (hC : szC C) (h : RC C M K V Wd OM OK OV Wo M' K' V' Wd' OM' OK' OV' k2 l2) : cnt OM' C + cnt M' C < C := by
  have h1 := rc_lt hC h
  have h2 := Rl_cnt h.2.2.1
  have h3 := h.2.2.2.2.1
  omega
theorem rc_lkN (hC : szC C) (h : RC C M K V Wd OM OK OV Wo M' K' V' Wd' OM' OK' OV' k2 l2) (x : Int32) :
    lk C M K x C (hm C Wd x) = lk C M' K' x C (hmk C (jn (Wd 0) (Wd 1)) (jn (Wd 2) (Wd 3)) x) :=
  lk_congr hC (fun j hj => ⟨(h.2.2.1 j hj).1, fun q => ((h.2.2.1 j hj).2 q).1⟩) C _ (hm_lt hC Wd x)
theorem rc_lkO (hC : szC C) (h : RC C M K V Wd OM OK OV Wo M' K' V' Wd' OM' OK' OV' k2 l2) (x : Int32) :
    lk C OM OK x C (hm C Wo x) = lk C OM' OK' x C (hmk C k2 l2 x) := by
  by_cases c0 : cnt OM C = 0
  · rw [lk_none OM OK x hC (cnt_zero C c0) C _ (hm_lt hC Wo x), lk_none OM' OK' x hC (cnt_zero C (h.2.2.2.2.1.symm.trans c0)) C _ (hmk_lt hC k2 l2 x)]
  · obtain ⟨hO, rfl, rfl⟩ := h.2.2.2.2.2 c0
    exact lk_congr hC (fun j hj => ⟨(hO j hj).1, fun q => ((hO j hj).2 q).1⟩) C _ (hm_lt hC Wo x)
theorem rc_oldV (h : RC C M K V Wd OM OK OV Wo M' K' V' Wd' OM' OK' OV' k2 l2) {j : Nat} (hj : j < C) (h1 : OM j = 1) : OV j = OV' j := by
  have c0 : cnt OM C ≠ 0 := fun c0 => cnt_zero C c0 j hj h1
  exact (((h.2.2.2.2.2 c0).1 j hj).2 h1).2
theorem rc_get (hC : szC C) (h : RC C M K V Wd OM OK OV Wo M' K' V' Wd' OM' OK' OV' k2 l2) (x : Int32) :
    (if lk C M K x C (hm C Wd x) = -1 then (if lk C OM OK x C (hm C Wo x) = -1 then 0 else OV (lk C OM OK x C (hm C Wo x)).toNatClampNeg) else V (lk C M K x C (hm C Wd x)).toNatClampNeg) =
    (if lk C M' K' x C (hmk C (jn (Wd 0) (Wd 1)) (jn (Wd 2) (Wd 3)) x) = -1 then (if lk C OM' OK' x C (hmk C k2 l2 x) = -1 then 0 else OV' (lk C OM' OK' x C (hmk C k2 l2 x)).toNatClampNeg) else V' (lk C M' K' x C (hmk C (jn (Wd 0) (Wd 1)) (jn (Wd 2) (Wd 3)) x)).toNatClampNeg) := by
  have hhi := hC.hi
  rw [← rc_lkN hC h x, ← rc_lkO hC h x]
  rcases lk_cases hC M K x C _ (hm_lt hC Wd x) with e | ⟨j, hj, e, e1, -⟩
  · rw [if_pos e, if_pos e]
    rcases lk_cases hC OM OK x C _ (hm_lt hC Wo x) with f | ⟨j, hj, f, f1, -⟩
    · rw [if_pos f, if_pos f]
    · have n1 : ¬ lk C OM OK x C (hm C Wo x) = -1 := by rw [f]; exact nI_m1 (by omega)
      rw [if_neg n1, if_neg n1, f, nI_clamp (by omega)]
      exact rc_oldV h hj f1
  · have n1 : ¬ lk C M K x C (hm C Wd x) = -1 := by rw [e]; exact nI_m1 (by omega)
    rw [if_neg n1, if_neg n1, e, nI_clamp (by omega)]
    exact ((h.2.2.1 j hj).2 e1).2
theorem rc_key (h : RC C M K V Wd OM OK OV Wo M' K' V' Wd' OM' OK' OV' k2 l2) (x : Int32) :
    (if x < 0 ∨ 4 ≤ x then 0 else Wd x.toNatClampNeg) = (if x < 0 ∨ 4 ≤ x then 0 else Wd' x.toNatClampNeg) := by
  by_cases e : x < 0 ∨ 4 ≤ x
  · rw [if_pos e, if_pos e]
  · rw [if_neg e, if_neg e]
    rcases pk_ix x (n := 4) (by omega) with q | q | ⟨j, hj, rfl⟩
    · exact absurd (Or.inl q) e
    · exact absurd (Or.inr q) e
    · rw [nI_clamp (by omega)]; exact h.2.2.2.1 j hj
theorem ix_le (hC : szC C) (x : Int32) : nI (C - 1) < x ↔ nI C ≤ x := by
  have hlo := hC.lo
  have hhi := hC.hi
  rw [Int32.lt_iff_toInt_lt, Int32.le_iff_toInt_le, nI_toInt (by omega), nI_toInt (by omega)]
  omega
theorem mkA_in (hC : szC C) {j : Nat} (hj : j < C) : mkA C M (nI j) = M j := by
  have hhi := hC.hi
  unfold mkA
  rw [if_neg (by rintro (q | q); exact nI_pos (by omega) q; exact nI_nlt (by omega) (by omega) q), nI_clamp (by omega)]
theorem rc_nth (hC : szC C) (h : RC C M K V Wd OM OK OV Wo M' K' V' Wd' OM' OK' OV' k2 l2) (x : Int32) :
    (if mkA C M x = 1 then K x.toNatClampNeg else -1) = (if x < 0 ∨ nI C ≤ x then -1 else if M' x.toNatClampNeg = 1 then K' x.toNatClampNeg else -1) := by
  have hhi := hC.hi
  rcases pk_ix x (n := C) (by omega) with q | q | ⟨j, hj, rfl⟩
  · rw [if_pos (Or.inl q), if_neg (by unfold mkA; rw [if_pos (Or.inl q)]; decide)]
  · rw [if_pos (Or.inr q), if_neg (by unfold mkA; rw [if_pos (Or.inr ((ix_le hC x).mpr q))]; decide)]
  · have hn : ¬ (nI j < 0 ∨ nI C ≤ nI j) := by
      rintro (q | q)
      · exact nI_pos (by omega) q
      · exact nI_ge hj (by omega) q
    rw [mkA_in hC hj, if_neg hn, nI_clamp (by omega), ← (h.2.2.1 j hj).1]
    by_cases e : M j = 1
    · rw [if_pos e, if_pos e]; exact ((h.2.2.1 j hj).2 e).1
    · rw [if_neg e, if_neg e]
theorem rc_filled (hC : szC C) (h : RC C M K V Wd OM OK OV Wo M' K' V' Wd' OM' OK' OV' k2 l2) (b x : Int32) :
    (if b = 0 then mkA C M x else if nI (cnt OM C) = 0 then 0 else mkA C OM x) = (if x < 0 ∨ nI C ≤ x then 0 else if b = 0 then M' x.toNatClampNeg else if mvf C OM' = 0 then 0 else OM' x.toNatClampNeg) := by
  have hhi := hC.hi
  rcases pk_ix x (n := C) (by omega) with q | q | ⟨j, hj, rfl⟩
  · have e1 : ∀ N : Nat → Int32, mkA C N x = 0 := fun N => if_pos (Or.inl q)
    rw [if_pos (Or.inl q), e1, e1]; simp
  · have e1 : ∀ N : Nat → Int32, mkA C N x = 0 := fun N => if_pos (Or.inr ((ix_le hC x).mpr q))
    rw [if_pos (Or.inr q), e1, e1]; simp
  · have hn : ¬ (nI j < 0 ∨ nI C ≤ nI j) := by
      rintro (q | q)
      · exact nI_pos (by omega) q
      · exact nI_ge hj (by omega) q
    rw [mkA_in hC hj, mkA_in hC hj, if_neg hn, nI_clamp (by omega), ← (h.2.2.1 j hj).1]
    by_cases e : b = 0
    · rw [if_pos e, if_pos e]
    · rw [if_neg e, if_neg e]
      have hl := cnt_le OM C
      by_cases c0 : cnt OM C = 0
      · rw [if_pos (by rw [c0]; rfl), if_pos (show mvf C OM' = 0 from if_pos (h.2.2.2.2.1.symm.trans c0))]
      · rw [if_neg (nI_ne0 (by omega) (by omega)), if_neg (show ¬ mvf C OM' = 0 from fun q => c0 (h.2.2.2.2.1.trans (mvf_0 q)))]
        exact ((h.2.2.2.2.2 c0).1 j hj).1
theorem rc_old1 (h : RC C M K V Wd OM OK OV Wo M' K' V' Wd' OM' OK' OV' k2 l2) : ∀ j, j < C → (OM j = 1 ↔ OM' j = 1) ∧ (OM j = 1 → OK j = OK' j ∧ OV j = OV' j) := fun j hj => by
  by_cases c0 : cnt OM C = 0
  · have n1 := cnt_zero C c0 j hj
    have n2 := cnt_zero C (h.2.2.2.2.1.symm.trans c0) j hj
    exact ⟨⟨fun q => absurd q n1, fun q => absurd q n2⟩, fun q => absurd q n1⟩
  · obtain ⟨hO, -, -⟩ := h.2.2.2.2.2 c0
    exact ⟨by rw [(hO j hj).1], (hO j hj).2⟩
theorem rc_above (h : RC C M K V Wd OM OK OV Wo M' K' V' Wd' OM' OK' OV' k2 l2) (b : Int32) : abv OM OK b C 0 (abv M K b C 0 b) = abr M' K' OM' OK' b C 0 b :=
  abv_eq (fun j hj => ⟨(h.2.2.1 j hj).1, fun q => ((h.2.2.1 j hj).2 q).1⟩) (fun j hj => ⟨(rc_old1 h j hj).1, fun q => ((rc_old1 h j hj).2 q).1⟩)
theorem hwd_congr {w w' : Nat → Int32} (e : ∀ j, j < 4 → w j = w' j) : hwd w = hwd w' := by
  funext n
  unfold hwd
  rw [e 0 (by omega), e 1 (by omega), e 2 (by omega), e 3 (by omega)]
theorem rc_sum (h : RC C M K V Wd OM OK OV Wo M' K' V' Wd' OM' OK' OV' k2 l2) : smf Wd M K V C + smf Wd OM OK OV C = smr Wd M' K' V' OM' OK' OV' C :=
  smr_eq C h.2.2.1 (rc_old1 h)
theorem rc_step (hC : szC C) (h : RC C M K V Wd OM OK OV Wo M' K' V' Wd' OM' OK' OV' k2 l2) (n : Nat) {OM1 M1 K1 V1 OM2 M2 K2 V2 : Nat → Int32} (e : mst C (hm C Wd) OK OV n (OM, M, K, V) = (OM1, M1, K1, V1))
    (e' : mst C (hmk C (jn (Wd 0) (Wd 1)) (jn (Wd 2) (Wd 3))) OK' OV' n (OM', M', K', V') = (OM2, M2, K2, V2)) : RC C M1 K1 V1 Wd OM1 OK OV Wo M2 K2 V2 Wd' OM2 OK' OV' k2 l2 := by
  by_cases c0 : cnt OM C = 0
  · have c1 := h.2.2.2.2.1.symm.trans c0
    rw [mst_stop (s := (OM, M, K, V)) (lst_cnt.mpr c0)] at e
    rw [mst_stop (s := (OM', M', K', V')) (lst_cnt.mpr c1)] at e'
    simp only [Prod.mk.injEq] at e e'
    obtain ⟨rfl, rfl, rfl, rfl⟩ := e
    obtain ⟨rfl, rfl, rfl, rfl⟩ := e'
    exact h
  · obtain ⟨hO, ek, el⟩ := h.2.2.2.2.2 c0
    have r1 := mst_Rl hC (hm_lt hC Wd) n (OM, M, K, V) (OM', M', K', V') hO h.2.2.1
    have i1 := mst_inv hC (hm_lt hC Wd) (OK := OK) (OV := OV) n (OM, M, K, V) h.1 (rc_lt hC h)
    have e2 : mst C (hm C Wd) OK' OV' n (OM', M', K', V') = (OM2, M2, K2, V2) := e'
    rw [e, e2] at r1
    rw [e] at i1
    obtain ⟨ra, rb⟩ := r1
    obtain ⟨ia, ib, -⟩ := i1
    dsimp only at ra rb ia ib
    exact ⟨ia, by have := h.2.1; omega, rb, h.2.2.2.1, Rl_cnt ra, fun _ => ⟨ra, ek, el⟩⟩
theorem wIt_lt {g : Int32 × Int32 × Int32 × Int32} {w : Nat → Int32} : ∀ n j, j < n → wIt g w n j = gO (gIt j g)
  | 0, _, q => absurd q (by omega)
  | n + 1, j, q => by
    rw [wIt]
    by_cases e : j = n
    · rw [e, pk_us]
    · rw [pk_un e]; exact wIt_lt n j (by omega)
theorem rc_rekey (h : RC C M K V Wd OM OK OV Wo M' K' V' Wd' OM' OK' OV' k2 l2) (v : Int32 × Int32 × Int32 × Int32) :
    RC C (clr OM C) OK OV (wIt v Wo 4) M K V Wd (clr M' C) K' V' (wIt v Wd' 4) (cp OM' M' C) (cp OK' K' C) (cp OV' V' C) (jn (Wd 0) (Wd 1)) (jn (Wd 2) (Wd 3)) := by
  have hz : ∀ N : Nat → Int32, cnt (clr N C) C = 0 := fun N => cnt_none C (fun j hj => by rw [clr_0 C j hj]; decide)
  have hc : cnt M C = cnt (cp OM' M' C) C := cnt_congr C (fun j hj => by rw [cp_lt C j hj, (h.2.2.1 j hj).1])
  refine ⟨fun a ha => Or.inl (clr_0 C a ha), by rw [hz]; have := h.2.1; omega, fun j hj => ?_, fun j hj => by rw [wIt_lt 4 j hj, wIt_lt 4 j hj], hc, fun _ => ⟨fun j hj => ?_, rfl, rfl⟩⟩
  · rw [clr_0 C j hj, clr_0 C j hj]; exact ⟨rfl, fun q => absurd q (by decide)⟩
  · rw [cp_lt C j hj, cp_lt C j hj, cp_lt C j hj]; exact h.2.2.1 j hj
theorem rc_taken (hC : szC C) (h : RC C M K V Wd OM OK OV Wo M' K' V' Wd' OM' OK' OV' k2 l2) {fr : Nat} (hfr : fr < C) (h1 : M fr = 1) :
    RC C (tk C (hm C Wd) fr (C - 1) 1 (upd M fr 0) K V fr).1 (tk C (hm C Wd) fr (C - 1) 1 (upd M fr 0) K V fr).2.1 (tk C (hm C Wd) fr (C - 1) 1 (upd M fr 0) K V fr).2.2 Wd OM OK OV Wo
      (tk C (hmk C (jn (Wd 0) (Wd 1)) (jn (Wd 2) (Wd 3))) fr (C - 1) 1 (upd M' fr 0) K' V' fr).1 (tk C (hmk C (jn (Wd 0) (Wd 1)) (jn (Wd 2) (Wd 3))) fr (C - 1) 1 (upd M' fr 0) K' V' fr).2.1 (tk C (hmk C (jn (Wd 0) (Wd 1)) (jn (Wd 2) (Wd 3))) fr (C - 1) 1 (upd M' fr 0) K' V' fr).2.2 Wd' OM' OK' OV' k2 l2 := by
  have hlo := hC.lo
  have h0 : ∀ a, a < C → upd M fr 0 a = 0 ∨ upd M fr 0 a = 1 := fun a ha => by
    by_cases e : a = fr
    · rw [e, pk_us]; exact Or.inl rfl
    · rw [pk_un e]; exact h.1 a ha
  have i := tk_inv hC (hf := hm C Wd) (fr := fr) (C - 1) 1 0 (M := upd M fr 0) (K := K) (V := V) fr h0 (by rw [Nat.add_zero, Nat.mod_eq_of_lt hfr]) (by omega) (by omega) pk_us
  have c2 := cnt_out (x := 0) hfr h1 (by decide)
  exact ⟨i.1, by rw [i.2]; have := h.2.1; omega, Rl_tk hC (C - 1) 1 fr h0 (h.2.2.1.out fr (by decide)) hfr, h.2.2.2.1, h.2.2.2.2.1, h.2.2.2.2.2⟩
theorem rc_gone (h : RC C M K V Wd OM OK OV Wo M' K' V' Wd' OM' OK' OV' k2 l2) {j : Nat} (hj : j < C) (h1 : OM j = 1) : RC C M K V Wd (upd OM j 2) OK OV Wo M' K' V' Wd' (upd OM' j 2) OK' OV' k2 l2 := by
  have c0 : cnt OM C ≠ 0 := fun c0 => cnt_zero C c0 j hj h1
  obtain ⟨hO, ek, el⟩ := h.2.2.2.2.2 c0
  have c2 := cnt_out (x := 2) hj h1 (by decide)
  exact ⟨h.1, by have := h.2.1; omega, h.2.2.1, h.2.2.2.1, Rl_cnt (hO.out j (by decide)), fun _ => ⟨hO.out j (by decide), ek, el⟩⟩
theorem rc_valN (h : RC C M K V Wd OM OK OV Wo M' K' V' Wd' OM' OK' OV' k2 l2) (j : Nat) (y : Int32) : RC C M K (upd V j y) Wd OM OK OV Wo M' K' (upd V' j y) Wd' OM' OK' OV' k2 l2 :=
  ⟨h.1, h.2.1, h.2.2.1.val j y, h.2.2.2.1, h.2.2.2.2.1, h.2.2.2.2.2⟩
theorem rc_valO (h : RC C M K V Wd OM OK OV Wo M' K' V' Wd' OM' OK' OV' k2 l2) (j : Nat) (y : Int32) : RC C M K V Wd OM OK (upd OV j y) Wo M' K' V' Wd' OM' OK' (upd OV' j y) k2 l2 :=
  ⟨h.1, h.2.1, h.2.2.1, h.2.2.2.1, h.2.2.2.2.1, fun c0 => ⟨(h.2.2.2.2.2 c0).1.val j y, (h.2.2.2.2.2 c0).2⟩⟩
theorem rc_plc (hC : szC C) (h : RC C M K V Wd OM OK OV Wo M' K' V' Wd' OM' OK' OV' k2 l2) (x : Int32) : plc C M (hm C Wd x) = plc C M' (hmk C (jn (Wd 0) (Wd 1)) (jn (Wd 2) (Wd 3)) x) := Rl_plc hC h.2.2.1 (hm_lt hC Wd x)
theorem rc_pld (hC : szC C) (h : RC C M K V Wd OM OK OV Wo M' K' V' Wd' OM' OK' OV' k2 l2) (x : Int32) : pld C M (hm C Wd x) = pld C M' (hmk C (jn (Wd 0) (Wd 1)) (jn (Wd 2) (Wd 3)) x) := Rl_pld hC h.2.2.1 (hm_lt hC Wd x)
theorem rc_add (hC : szC C) (h : RC C M K V Wd OM OK OV Wo M' K' V' Wd' OM' OK' OV' k2 l2) (hf : cnt M C + cnt OM C < 3 * C / 4) (x y : Int32) :
    RC C (upd M (plc C M (hm C Wd x)) 1) (upd K (plc C M (hm C Wd x)) x) (upd V (plc C M (hm C Wd x)) y) Wd OM OK OV Wo
      (upd M' (plc C M' (hmk C (jn (Wd 0) (Wd 1)) (jn (Wd 2) (Wd 3)) x)) 1) (upd K' (plc C M' (hmk C (jn (Wd 0) (Wd 1)) (jn (Wd 2) (Wd 3)) x)) x) (upd V' (plc C M' (hmk C (jn (Wd 0) (Wd 1)) (jn (Wd 2) (Wd 3)) x)) y) Wd' OM' OK' OV' k2 l2 := by
  have hlo := hC.lo
  rw [← rc_plc hC h x]
  have f := (plc_free hC (hm_lt hC Wd x) (cnt_free C h.1 (by omega))).1
  have c1 := cnt_put (M := M) (n := C) (plc_lt hC M (hm C Wd x)) (by rw [f]; decide)
  refine ⟨fun a ha => ?_, by rw [c1]; omega, h.2.2.1.put _ x y, h.2.2.2.1, h.2.2.2.2.1, h.2.2.2.2.2⟩
  by_cases e : a = plc C M (hm C Wd x)
  · rw [e, pk_us]; exact Or.inr rfl
  · rw [pk_un e]; exact h.1 a ha
theorem rc_new (C : Nat) (hC : szC C) (g : Int32 × Int32 × Int32 × Int32) : RC C (clr (fun _ => 0) C) (fun _ => 0) (fun _ => 0) (wIt g (fun _ => 0) 4) (fun _ => 0) (fun _ => 0) (fun _ => 0) (fun _ => 0) (fun _ => 0) (fun _ => 0) (fun _ => 0) (wIt g (fun _ => 0) 4) (fun _ => 0) (fun _ => 0) (fun _ => 0) 0 0 := by
  have hz : cnt (clr (fun _ => 0) C) C = 0 := cnt_none C (fun j hj => by rw [clr_0 C j hj]; decide)
  have hy : cnt (fun _ => (0 : Int32)) C = 0 := cnt_none C (fun j _ => by decide)
  exact ⟨fun a ha => Or.inl (clr_0 C a ha), by rw [hz, hy]; omega, fun j hj => by rw [clr_0 C j hj]; exact ⟨rfl, fun q => absurd q (by decide)⟩, fun _ _ => rfl, rfl, fun q => absurd hy q⟩
end RCS
