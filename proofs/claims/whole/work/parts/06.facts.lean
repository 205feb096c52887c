theorem cnt_le (M : Nat → Int32) : ∀ n, cnt M n ≤ n
  | 0 => Nat.le_refl _
  | n + 1 => by
    have := cnt_le M n
    rw [cnt]
    split <;> omega
theorem cnt_ge {M : Nat → Int32} {k : Nat} {x : Int32} : ∀ n, n ≤ k → cnt (upd M k x) n = cnt M n
  | 0, _ => rfl
  | n + 1, h => by
    rw [cnt, cnt, cnt_ge n (by omega), pk_un (by omega)]
theorem cnt_upd {M : Nat → Int32} {k : Nat} {x : Int32} : ∀ n, k < n → cnt (upd M k x) n + (if M k = 1 then 1 else 0) = cnt M n + (if x = 1 then 1 else 0)
  | 0, h => absurd h (by omega)
  | n + 1, h => by
    rw [cnt, cnt]
    by_cases e : k = n
    · subst e
      rw [cnt_ge k (Nat.le_refl _), pk_us]; omega
    · have ih := cnt_upd (M := M) (k := k) (x := x) n (by omega)
      rw [pk_un (by omega)]; omega
theorem cnt_put {M : Nat → Int32} {k n : Nat} (h : k < n) (h1 : M k ≠ 1) : cnt (upd M k 1) n = cnt M n + 1 := by
  have := cnt_upd (M := M) (x := 1) n h
  rw [if_neg h1, if_pos rfl] at this; omega
theorem cnt_out {M : Nat → Int32} {k n : Nat} {x : Int32} (h : k < n) (h1 : M k = 1) (hx : x ≠ 1) : cnt (upd M k x) n + 1 = cnt M n := by
  have := cnt_upd (M := M) (x := x) n h
  rw [if_pos h1, if_neg hx] at this; omega
theorem cnt_stay {M : Nat → Int32} {k n : Nat} {x : Int32} (h : k < n) (h1 : M k ≠ 1) (hx : x ≠ 1) : cnt (upd M k x) n = cnt M n := by
  have := cnt_upd (M := M) (x := x) n h
  rw [if_neg h1, if_neg hx] at this; omega
theorem cnt_congr {M M' : Nat → Int32} : ∀ n, (∀ j, j < n → (M j = 1 ↔ M' j = 1)) → cnt M n = cnt M' n
  | 0, _ => rfl
  | n + 1, h => by
    rw [cnt, cnt, cnt_congr n (fun j hj => h j (by omega))]
    by_cases e : M n = 1
    · rw [if_pos e, if_pos ((h n (by omega)).mp e)]
    · rw [if_neg e, if_neg (fun q => e ((h n (by omega)).mpr q))]
theorem cnt_zero {M : Nat → Int32} : ∀ n, cnt M n = 0 → ∀ j, j < n → M j ≠ 1
  | 0, _, j, hj => absurd hj (by omega)
  | n + 1, h, j, hj => by
    rw [cnt] at h
    by_cases e : j = n
    · subst e
      intro q
      rw [if_pos q] at h; omega
    · exact cnt_zero n (by omega) j (by omega)
theorem cnt_none {M : Nat → Int32} : ∀ n, (∀ j, j < n → M j ≠ 1) → cnt M n = 0
  | 0, _ => rfl
  | n + 1, h => by
    rw [cnt, cnt_none n (fun j hj => h j (by omega)), if_neg (h n (by omega))]
theorem cnt_free {M : Nat → Int32} : ∀ n, (∀ j, j < n → M j = 0 ∨ M j = 1) → cnt M n < n → ∃ j, j < n ∧ M j = 0
  | 0, _, h => absurd h (by omega)
  | n + 1, h, hl => by
    rw [cnt] at hl
    by_cases e : M n = 1
    · rw [if_pos e] at hl
      obtain ⟨j, h1, h2⟩ := cnt_free n (fun j hj => h j (by omega)) (by omega)
      exact ⟨j, by omega, h2⟩
    · exact ⟨n, by omega, (h n (by omega)).resolve_right e⟩
theorem nx_spec (n : Nat) (M : Nat → Int32) : ∀ f, f ≤ n → (nx n M f = n ∧ ∀ j, n - f ≤ j → j < n → M j ≠ 1) ∨ (n - f ≤ nx n M f ∧ nx n M f < n ∧ M (nx n M f) = 1 ∧ ∀ j, n - f ≤ j → j < nx n M f → M j ≠ 1)
  | 0, _ => Or.inl ⟨rfl, fun j h1 h2 => absurd h2 (by omega)⟩
  | f + 1, hf => by
    rw [nx]
    by_cases e : M (n - (f + 1)) = 1
    · rw [if_pos e]
      exact Or.inr ⟨Nat.le_refl _, by omega, e, fun j h1 h2 => absurd h2 (by omega)⟩
    · rw [if_neg e]
      have ne : ∀ j, n - (f + 1) ≤ j → ¬ n - f ≤ j → M j ≠ 1 := fun j h1 h2 => by
        have : j = n - (f + 1) := by omega
        rw [this]; exact e
      rcases nx_spec n M f (by omega) with ⟨h1, h2⟩ | ⟨h1, h2, h3, h4⟩
      · exact Or.inl ⟨h1, fun j a b => by
          by_cases q : n - f ≤ j
          · exact h2 j q b
          · exact ne j a q⟩
      · exact Or.inr ⟨by omega, h2, h3, fun j a b => by
          by_cases q : n - f ≤ j
          · exact h4 j q b
          · exact ne j a q⟩
theorem lst_spec (C : Nat) (M : Nat → Int32) : (lst C M = C ∧ ∀ j, j < C → M j ≠ 1) ∨ (lst C M < C ∧ M (lst C M) = 1 ∧ ∀ j, j < lst C M → M j ≠ 1) := by
  rcases nx_spec C M C (Nat.le_refl _) with ⟨h1, h2⟩ | ⟨h1, h2, h3, h4⟩
  · exact Or.inl ⟨h1, fun j hj => h2 j (by omega) hj⟩
  · exact Or.inr ⟨h2, h3, fun j hj => h4 j (by omega) hj⟩
theorem lst_none {C : Nat} {M : Nat → Int32} (h : ∀ j, j < C → M j ≠ 1) : lst C M = C := by
  rcases lst_spec C M with ⟨h1, -⟩ | ⟨h1, h2, -⟩
  · exact h1
  · exact absurd h2 (h _ h1)
theorem lst_some {C k : Nat} {M : Nat → Int32} (hk : k < C) (h1 : M k = 1) (h : ∀ j, j < k → M j ≠ 1) : lst C M = k := by
  rcases lst_spec C M with ⟨a, b⟩ | ⟨a, b, c⟩
  · exact absurd h1 (b k hk)
  · rcases Nat.lt_trichotomy (lst C M) k with q | q | q
    · exact absurd b (h _ q)
    · exact q
    · exact absurd h1 (c k q)
theorem lst_congr {C : Nat} {M M' : Nat → Int32} (h : ∀ j, j < C → (M j = 1 ↔ M' j = 1)) : lst C M = lst C M' := by
  rcases lst_spec C M with ⟨a, b⟩ | ⟨a, b, c⟩
  · rw [a, lst_none (fun j hj q => b j hj ((h j hj).mpr q))]
  · exact (lst_some a ((h _ a).mp b) (fun j hj q => c j hj ((h j (by omega)).mpr q))).symm
theorem fd_spec {C : Nat} (hC : szC C) (M : Nat → Int32) : ∀ f c, fd C M f c ≤ f ∧ (∀ j, j < fd C M f c → M ((c + j) % C) ≠ 0 ∨ C ≤ c) ∧ (fd C M f c < f → M ((c + fd C M f c) % C) = 0 ∨ C ≤ c)
  | 0, c => ⟨Nat.le_refl _, fun j h => absurd h (by simp [fd]), fun h => absurd h (by simp [fd])⟩
  | f + 1, c => by
    have hlo := hC.lo
    by_cases hc : C ≤ c
    · refine ⟨?_, fun _ _ => Or.inr hc, fun _ => Or.inr hc⟩
      rw [fd]
      split
      · omega
      · have := (fd_spec hC M f ((c + 1) % C)).1; omega
    · have e0 : c % C = c := Nat.mod_eq_of_lt (by omega)
      rw [fd]
      by_cases e : M c = 0
      · rw [if_pos e]
        exact ⟨by omega, fun j h => absurd h (by omega), fun _ => Or.inl (by rw [Nat.add_zero, e0]; exact e)⟩
      · rw [if_neg e]
        obtain ⟨h1, h2, h3⟩ := fd_spec hC M f ((c + 1) % C)
        have hlt : (c + 1) % C < C := md_lt hC
        refine ⟨by omega, fun j hj => ?_, fun h => ?_⟩
        · cases j with
          | zero => exact Or.inl (by rw [Nat.add_zero, e0]; exact e)
          | succ j =>
            rcases h2 j (by omega) with q | q
            · rw [Nat.mod_add_mod] at q
              rw [show c + (j + 1) = c + 1 + j by omega]; exact Or.inl q
            · omega
        · rcases h3 (by omega) with q | q
          · rw [Nat.mod_add_mod] at q
            rw [show c + (fd C M f ((c + 1) % C) + 1) = c + 1 + fd C M f ((c + 1) % C) by omega]; exact Or.inl q
          · omega
/-- where a cell is free, the place is free -/
theorem plc_free {C : Nat} (hC : szC C) {M : Nat → Int32} {h : Nat} (hh : h < C) (hf : ∃ j, j < C ∧ M j = 0) : M (plc C M h) = 0 ∧ (∀ j, j < pld C M h → M ((h + j) % C) ≠ 0) ∧ pld C M h < C := by
  obtain ⟨j0, hj0, e0⟩ := hf
  obtain ⟨h1, h2, h3⟩ := fd_spec hC M (C - 1) h
  have hlo := hC.lo
  have h2' : ∀ j, j < pld C M h → M ((h + j) % C) ≠ 0 := fun j hj => (h2 j hj).resolve_right (by omega)
  refine ⟨?_, h2', by show fd C M (C - 1) h < C; omega⟩
  by_cases q : fd C M (C - 1) h < C - 1
  · exact (h3 q).resolve_right (by omega)
  · have e : pld C M h = C - 1 := by show fd C M (C - 1) h = C - 1; omega
    have ho : (h + (j0 + C - h) % C) % C = j0 := by
      rcases hC with rfl | rfl | rfl | rfl | rfl <;> omega
    have hlt : (j0 + C - h) % C < C := md_lt hC
    by_cases z : (j0 + C - h) % C = C - 1
    · show M ((h + pld C M h) % C) = 0
      rw [e, ← z, ho]; exact e0
    · have := h2' ((j0 + C - h) % C) (by omega)
      rw [ho] at this
      exact absurd e0 this
theorem plc_lt {C : Nat} (hC : szC C) (M : Nat → Int32) (h : Nat) : plc C M h < C := md_lt hC
theorem lk_cases {C : Nat} (hC : szC C) (M K : Nat → Int32) (key : Int32) : ∀ f c, c < C → lk C M K key f c = -1 ∨ ∃ j, j < C ∧ lk C M K key f c = nI j ∧ M j = 1 ∧ K j = key
  | 0, c, _ => Or.inl rfl
  | f + 1, c, hc => by
    rw [lk]
    by_cases e : M c = 0
    · rw [if_pos e]; exact Or.inl rfl
    · rw [if_neg e]
      by_cases e2 : M c = 1 ∧ K c = key
      · rw [if_pos e2]; exact Or.inr ⟨c, hc, rfl, e2.1, e2.2⟩
      · rw [if_neg e2]; exact lk_cases hC M K key f _ (md_lt hC)
theorem lk_none {C : Nat} (M K : Nat → Int32) (key : Int32) (hC : szC C) (h : ∀ j, j < C → M j ≠ 1) : ∀ f c, c < C → lk C M K key f c = -1
  | 0, c, _ => rfl
  | f + 1, c, hc => by
    rw [lk]
    by_cases e : M c = 0
    · rw [if_pos e]
    · rw [if_neg e, if_neg (fun q => h c hc q.1)]; exact lk_none M K key hC h f _ (md_lt hC)
theorem lk_congr {C : Nat} (hC : szC C) {M M' K K' : Nat → Int32} {key : Int32} (h : ∀ j, j < C → M j = M' j ∧ (M j = 1 → K j = K' j)) : ∀ f c, c < C → lk C M K key f c = lk C M' K' key f c
  | 0, c, _ => rfl
  | f + 1, c, hc => by
    obtain ⟨h1, h2⟩ := h c hc
    rw [lk, lk, ← h1]
    by_cases e : M c = 0
    · rw [if_pos e, if_pos e]
    · rw [if_neg e, if_neg e, lk_congr hC h f _ (md_lt hC)]
      by_cases e1 : M c = 1
      · rw [h2 e1]
      · rw [if_neg (fun q => e1 q.1), if_neg (fun q => e1 q.1)]
