theorem st_iff {C h k ho : Nat} (hC : szC C) (hh : h < C) (hk : k < C) (hl : ho < C) (hne : k ≠ ho) : ((k + C - ho) % C ≤ (k + C - h) % C) ↔ ¬ (h ≠ ho ∧ (h + C - ho) % C ≤ (k + C - ho) % C) := by
  rcases hC with rfl | rfl | rfl | rfl | rfl <;> omega
theorem off_ne {C f i j : Nat} (hC : szC C) (hi : i < C) (hj : j < C) (hne : i ≠ j) : (f + i) % C ≠ (f + j) % C := by
  rcases hC with rfl | rfl | rfl | rfl | rfl <;> omega
/-- two tables that hold the same: marks alike, keys and values alike where they are keyed -/
def Rl (C : Nat) (M K V M' K' V' : Nat → Int32) : Prop := ∀ j, j < C → M j = M' j ∧ (M j = 1 → K j = K' j ∧ V j = V' j)
theorem Rl.put {C : Nat} {M K V M' K' V' : Nat → Int32} (h : Rl C M K V M' K' V') (c : Nat) (k v : Int32) : Rl C (upd M c 1) (upd K c k) (upd V c v) (upd M' c 1) (upd K' c k) (upd V' c v) := fun j hj => by
  by_cases e : j = c
  · subst e; simp only [pk_us]; exact ⟨trivial, fun _ => ⟨trivial, trivial⟩⟩
  · simp only [pk_un e]; exact h j hj
theorem Rl.val {C : Nat} {M K V M' K' V' : Nat → Int32} (h : Rl C M K V M' K' V') (c : Nat) (v : Int32) : Rl C M K (upd V c v) M' K' (upd V' c v) := fun j hj => by
  by_cases e : j = c
  · subst e; simp only [pk_us]; exact ⟨(h j hj).1, fun q => ⟨((h j hj).2 q).1, trivial⟩⟩
  · simp only [pk_un e]; exact h j hj
theorem Rl.out {C : Nat} {M K V M' K' V' : Nat → Int32} (h : Rl C M K V M' K' V') (c : Nat) {x : Int32} (hx : x ≠ 1) : Rl C (upd M c x) K V (upd M' c x) K' V' := fun j hj => by
  by_cases e : j = c
  · subst e; simp only [pk_us]; exact ⟨trivial, fun q => absurd q hx⟩
  · simp only [pk_un e]; exact h j hj
theorem Rl_cnt {C : Nat} {M K V M' K' V' : Nat → Int32} (h : Rl C M K V M' K' V') : cnt M C = cnt M' C := cnt_congr C (fun j hj => by rw [(h j hj).1])
theorem Rl_lst {C : Nat} {M K V M' K' V' : Nat → Int32} (h : Rl C M K V M' K' V') : lst C M = lst C M' := lst_congr (fun j hj => by rw [(h j hj).1])
theorem fd_congr {C : Nat} (hC : szC C) {M M' : Nat → Int32} (h : ∀ j, j < C → M j = M' j) : ∀ f c, c < C → fd C M f c = fd C M' f c
  | 0, _, _ => rfl
  | f + 1, c, hc => by rw [fd, fd, h c hc, fd_congr hC h f _ (md_lt hC)]
theorem Rl_pld {C : Nat} (hC : szC C) {M K V M' K' V' : Nat → Int32} (h : Rl C M K V M' K' V') {a : Nat} (ha : a < C) : pld C M a = pld C M' a := fd_congr hC (fun j hj => (h j hj).1) _ _ ha
theorem Rl_plc {C : Nat} (hC : szC C) {M K V M' K' V' : Nat → Int32} (h : Rl C M K V M' K' V') {a : Nat} (ha : a < C) : plc C M a = plc C M' a := by
  unfold plc; rw [Rl_pld hC h ha]
theorem Rl_tk {C : Nat} (hC : szC C) {hf : Int32 → Nat} {fr : Nat} : ∀ (f i : Nat) {M K V M' K' V' : Nat → Int32} (ho : Nat), (∀ j, j < C → M j = 0 ∨ M j = 1) → Rl C M K V M' K' V' → ho < C →
    Rl C (tk C hf fr f i M K V ho).1 (tk C hf fr f i M K V ho).2.1 (tk C hf fr f i M K V ho).2.2 (tk C hf fr f i M' K' V' ho).1 (tk C hf fr f i M' K' V' ho).2.1 (tk C hf fr f i M' K' V' ho).2.2
  | 0, _, _, _, _, _, _, _, _, _, h, _ => h
  | f + 1, i, M, K, V, M', K', V', ho, hm, h, hl => by
    have hx : (fr + i) % C < C := md_lt hC
    obtain ⟨h1, h2⟩ := h _ hx
    rw [tk, tk, ← h1]
    by_cases e : M ((fr + i) % C) = 0
    · rw [if_pos e, if_pos e]; exact h
    · rw [if_neg e, if_neg e]
      obtain ⟨h3, h4⟩ := h2 ((hm _ hx).resolve_left e)
      rw [← h3, ← h4]
      by_cases q : ((fr + i) % C + C - ho) % C ≤ ((fr + i) % C + C - hf (K ((fr + i) % C))) % C
      · rw [if_pos q, if_pos q]
        refine Rl_tk hC f (i + 1) _ (fun j hj => ?_) ((h.put ho _ _).out _ (by decide)) hx
        by_cases a : j = (fr + i) % C
        · rw [a, pk_us]; exact Or.inl rfl
        · rw [pk_un a]
          by_cases b : j = ho
          · rw [b, pk_us]; exact Or.inr rfl
          · rw [pk_un b]; exact hm j hj
      · rw [if_neg q, if_neg q]; exact Rl_tk hC f (i + 1) _ hm h hl
/-- behind a taking out: marks are 0 or 1, and as many are keyed as before it (the first hole is not) -/
theorem tk_inv {C : Nat} (hC : szC C) {hf : Int32 → Nat} {fr : Nat} : ∀ (f i i' : Nat) {M K V : Nat → Int32} (ho : Nat), (∀ j, j < C → M j = 0 ∨ M j = 1) → ho = (fr + i') % C → i' < i → i + f ≤ C → M ho = 0 →
    (∀ j, j < C → (tk C hf fr f i M K V ho).1 j = 0 ∨ (tk C hf fr f i M K V ho).1 j = 1) ∧ cnt (tk C hf fr f i M K V ho).1 C = cnt M C
  | 0, _, _, _, _, _, _, hm, _, _, _, _ => ⟨hm, rfl⟩
  | f + 1, i, i', M, K, V, ho, hm, h1, h2, h3, h4 => by
    have hx : (fr + i) % C < C := md_lt hC
    have hl : ho < C := by rw [h1]; exact md_lt hC
    have hne : (fr + i) % C ≠ ho := by rw [h1]; exact off_ne hC (by omega) (by omega) (by omega)
    rw [tk]
    by_cases e : M ((fr + i) % C) = 0
    · rw [if_pos e]; exact ⟨hm, rfl⟩
    · rw [if_neg e]
      have e1 := (hm _ hx).resolve_left e
      by_cases q : ((fr + i) % C + C - ho) % C ≤ ((fr + i) % C + C - hf (K ((fr + i) % C))) % C
      · rw [if_pos q]
        obtain ⟨a, b⟩ := tk_inv hC (hf := hf) (fr := fr) f (i + 1) i (M := upd (upd M ho 1) ((fr + i) % C) 0) (K := upd K ho (K ((fr + i) % C))) (V := upd V ho (V ((fr + i) % C))) ((fr + i) % C) (fun j hj => by
          by_cases a : j = (fr + i) % C
          · rw [a, pk_us]; exact Or.inl rfl
          · rw [pk_un a]
            by_cases b : j = ho
            · rw [b, pk_us]; exact Or.inr rfl
            · rw [pk_un b]; exact hm j hj) rfl (by omega) (by omega) pk_us
        refine ⟨a, b.trans ?_⟩
        have c1 := cnt_put (M := M) hl (by rw [h4]; decide)
        have c2 := cnt_out (M := upd M ho 1) (x := 0) hx (by rw [pk_un hne]; exact e1) (by decide)
        omega
      · rw [if_neg q]; exact tk_inv hC f (i + 1) i' _ hm h1 (by omega) (by omega) h4
theorem mcn_min {C : Nat} : ∀ (n : Nat) (M : Nat → Int32), mcn C n M = min n (cnt M C)
  | 0, M => by simp [mcn]
  | n + 1, M => by
    rw [mcn]
    rcases lst_spec C M with ⟨a, b⟩ | ⟨a, b, c⟩
    · rw [if_pos a, cnt_none C b]; omega
    · rw [if_neg (by omega), mcn_min n]
      have := cnt_out (x := 2) a b (by decide)
      omega
theorem mst_stop {C : Nat} {h : Int32 → Nat} {OK OV : Nat → Int32} {s : (Nat → Int32) × (Nat → Int32) × (Nat → Int32) × (Nat → Int32)} (e : lst C s.1 = C) : ∀ n, mst C h OK OV n s = s
  | 0 => rfl
  | n + 1 => by rw [mst, if_pos e]
theorem mst_add {C : Nat} {h : Int32 → Nat} {OK OV : Nat → Int32} : ∀ (a b : Nat) (s : (Nat → Int32) × (Nat → Int32) × (Nat → Int32) × (Nat → Int32)), mst C h OK OV (a + b) s = mst C h OK OV b (mst C h OK OV a s)
  | 0, b, s => by rw [Nat.zero_add]; rfl
  | a + 1, b, s => by
    rw [show a + 1 + b = (a + b) + 1 by omega, mst, mst]
    by_cases e : lst C s.1 = C
    · rw [if_pos e, if_pos e, mst_stop e]
    · rw [if_neg e, if_neg e]; exact mst_add a b _
theorem mst_Rl {C : Nat} (hC : szC C) {h : Int32 → Nat} (hh : ∀ x, h x < C) {OK OV OK' OV' : Nat → Int32} : ∀ (n : Nat) (s s' : (Nat → Int32) × (Nat → Int32) × (Nat → Int32) × (Nat → Int32)), Rl C s.1 OK OV s'.1 OK' OV' → Rl C s.2.1 s.2.2.1 s.2.2.2 s'.2.1 s'.2.2.1 s'.2.2.2 →
    Rl C (mst C h OK OV n s).1 OK OV (mst C h OK' OV' n s').1 OK' OV' ∧ Rl C (mst C h OK OV n s).2.1 (mst C h OK OV n s).2.2.1 (mst C h OK OV n s).2.2.2 (mst C h OK' OV' n s').2.1 (mst C h OK' OV' n s').2.2.1 (mst C h OK' OV' n s').2.2.2
  | 0, _, _, a, b => ⟨a, b⟩
  | n + 1, s, s', a, b => by
    rw [mst, mst, ← Rl_lst a]
    rcases lst_spec C s.1 with ⟨e, -⟩ | ⟨e1, e2, -⟩
    · rw [if_pos e, if_pos e]; exact ⟨a, b⟩
    · rw [if_neg (by omega), if_neg (by omega)]
      obtain ⟨x1, x2⟩ := (a _ e1).2 e2
      rw [← x1, ← x2, ← Rl_plc hC b (hh _)]
      exact mst_Rl hC hh n _ _ (a.out _ (by decide)) (b.put _ _ _)
theorem mst_inv {C : Nat} (hC : szC C) {h : Int32 → Nat} (hh : ∀ x, h x < C) {OK OV : Nat → Int32} : ∀ (n : Nat) (s : (Nat → Int32) × (Nat → Int32) × (Nat → Int32) × (Nat → Int32)), (∀ j, j < C → s.2.1 j = 0 ∨ s.2.1 j = 1) → cnt s.1 C + cnt s.2.1 C < C →
    (∀ j, j < C → (mst C h OK OV n s).2.1 j = 0 ∨ (mst C h OK OV n s).2.1 j = 1) ∧ cnt (mst C h OK OV n s).1 C + cnt (mst C h OK OV n s).2.1 C = cnt s.1 C + cnt s.2.1 C ∧ cnt (mst C h OK OV n s).1 C + mcn C n s.1 = cnt s.1 C
  | 0, _, h1, _ => ⟨h1, rfl, rfl⟩
  | n + 1, s, h1, h2 => by
    rw [mst, mcn]
    rcases lst_spec C s.1 with ⟨e, -⟩ | ⟨e1, e2, -⟩
    · rw [if_pos e, if_pos e]; exact ⟨h1, rfl, rfl⟩
    · rw [if_neg (by omega), if_neg (by omega)]
      have f := (plc_free hC (hh (OK (lst C s.1))) (cnt_free C h1 (by omega))).1
      have c1 := cnt_put (M := s.2.1) (n := C) (plc_lt hC s.2.1 (h (OK (lst C s.1)))) (by rw [f]; decide)
      have c2 := cnt_out (x := 2) e1 e2 (by decide)
      obtain ⟨i1, i2, i3⟩ := mst_inv hC hh (OK := OK) (OV := OV) n (upd s.1 (lst C s.1) 2, upd s.2.1 (plc C s.2.1 (h (OK (lst C s.1)))) 1, upd s.2.2.1 (plc C s.2.1 (h (OK (lst C s.1)))) (OK (lst C s.1)), upd s.2.2.2 (plc C s.2.1 (h (OK (lst C s.1)))) (OV (lst C s.1))) (fun j hj => by
        show upd s.2.1 (plc C s.2.1 (h (OK (lst C s.1)))) 1 j = 0 ∨ upd s.2.1 (plc C s.2.1 (h (OK (lst C s.1)))) 1 j = 1
        by_cases q : j = plc C s.2.1 (h (OK (lst C s.1)))
        · rw [q, pk_us]; exact Or.inr rfl
        · rw [pk_un q]; exact h1 j hj) (by
        show cnt (upd s.1 (lst C s.1) 2) C + cnt (upd s.2.1 (plc C s.2.1 (h (OK (lst C s.1)))) 1) C < C
        omega)
      refine ⟨i1, i2.trans ?_, ?_⟩
      · show cnt (upd s.1 (lst C s.1) 2) C + cnt (upd s.2.1 (plc C s.2.1 (h (OK (lst C s.1)))) 1) C = _
        omega
      · have i4 : cnt (mst C h OK OV n (upd s.1 (lst C s.1) 2, upd s.2.1 (plc C s.2.1 (h (OK (lst C s.1)))) 1, upd s.2.2.1 (plc C s.2.1 (h (OK (lst C s.1)))) (OK (lst C s.1)), upd s.2.2.2 (plc C s.2.1 (h (OK (lst C s.1)))) (OV (lst C s.1)))).1 C + mcn C n (upd s.1 (lst C s.1) 2) = cnt (upd s.1 (lst C s.1) 2) C := i3
        omega
