def sp (b x k m : Int32) : Int32 := if m = 1 ∧ b < k ∧ (x = b ∨ k < x) then k else x
def bst (b : Int32) (S : Int32 → Prop) (x : Int32) : Prop := (x = b ∧ ∀ k, S k → ¬ b < k) ∨ (b < x ∧ S x ∧ ∀ k, S k → b < k → x ≤ k)
theorem i32_nlt {a b : Int32} (h : ¬ a < b) : b ≤ a := by
  rw [Int32.lt_iff_toInt_lt] at h; rw [Int32.le_iff_toInt_le]; omega
theorem i32_le {a b : Int32} (h : a < b) : a ≤ b := by
  rw [Int32.lt_iff_toInt_lt] at h; rw [Int32.le_iff_toInt_le]; omega
theorem i32_anti {a b : Int32} (h : a ≤ b) (h2 : b ≤ a) : a = b := by
  rw [Int32.le_iff_toInt_le] at h h2
  exact Int32.toInt_inj.mp (by omega)
theorem i32_irr {a : Int32} : ¬ a < a := by
  rw [Int32.lt_iff_toInt_lt]; omega
theorem i32_lelt {a b c : Int32} (h : a < b) (h2 : b ≤ c) : a ≤ c := by
  rw [Int32.lt_iff_toInt_lt] at h; rw [Int32.le_iff_toInt_le] at h2 ⊢; omega
theorem bst_step {b : Int32} {S : Int32 → Prop} {x k m : Int32} (h : bst b S x) : bst b (fun y => S y ∨ (m = 1 ∧ y = k)) (sp b x k m) := by
  unfold sp
  by_cases c : m = 1 ∧ b < k ∧ (x = b ∨ k < x)
  · rw [if_pos c]
    obtain ⟨c1, c2, c3⟩ := c
    refine Or.inr ⟨c2, Or.inr ⟨c1, rfl⟩, fun y hy hb => ?_⟩
    rcases hy with hy | ⟨-, rfl⟩
    · rcases h with ⟨-, h2⟩ | ⟨h1, h2, h3⟩
      · exact absurd hb (h2 y hy)
      · rcases c3 with rfl | c3
        · exact absurd h1 i32_irr
        · exact i32_lelt c3 (h3 y hy hb)
    · exact Int32.le_refl _
  · rw [if_neg c]
    rcases h with ⟨h1, h2⟩ | ⟨h1, h2, h3⟩
    · refine Or.inl ⟨h1, fun y hy hb => ?_⟩
      rcases hy with hy | ⟨e, rfl⟩
      · exact h2 y hy hb
      · exact c ⟨e, hb, Or.inl h1⟩
    · refine Or.inr ⟨h1, Or.inl h2, fun y hy hb => ?_⟩
      rcases hy with hy | ⟨e, rfl⟩
      · exact h3 y hy hb
      · by_cases q : y < x
        · exact absurd ⟨e, hb, Or.inr q⟩ c
        · exact i32_nlt q
theorem bst_uniq {b : Int32} {S S' : Int32 → Prop} {x y : Int32} (h : bst b S x) (h' : bst b S' y) (e : ∀ k, S k ↔ S' k) : x = y := by
  rcases h with ⟨h1, h2⟩ | ⟨h1, h2, h3⟩
  · rcases h' with ⟨g1, g2⟩ | ⟨g1, g2, g3⟩
    · rw [h1, g1]
    · exact absurd g1 (h2 y ((e y).mpr g2))
  · rcases h' with ⟨g1, g2⟩ | ⟨g1, g2, g3⟩
    · exact absurd h1 (g2 x ((e x).mp h2))
    · exact i32_anti (h3 y ((e y).mpr g2) g1) (g3 x ((e x).mp h2) h1)
theorem bst_to {b : Int32} {S S' : Int32 → Prop} {x : Int32} (h : bst b S x) (e : ∀ k, S k ↔ S' k) : bst b S' x := by
  rcases h with ⟨h1, h2⟩ | ⟨h1, h2, h3⟩
  · exact Or.inl ⟨h1, fun k hk => h2 k ((e k).mpr hk)⟩
  · exact Or.inr ⟨h1, (e x).mp h2, fun k hk => h3 k ((e k).mpr hk)⟩
theorem abv_bst {M K : Nat → Int32} {b : Int32} : ∀ (f i : Nat) (x : Int32) (S : Int32 → Prop), bst b S x → bst b (fun k => S k ∨ ∃ j, i ≤ j ∧ j < i + f ∧ M j = 1 ∧ K j = k) (abv M K b f i x)
  | 0, i, x, S, h => bst_to h (fun k => ⟨Or.inl, fun q => q.elim id (fun ⟨j, a, c, _⟩ => absurd c (by omega))⟩)
  | f + 1, i, x, S, h => by
    rw [abv]
    refine bst_to (abv_bst f (i + 1) _ _ (bst_step (k := K i) (m := M i) h)) (fun k => ⟨fun q => ?_, fun q => ?_⟩)
    · rcases q with (q | ⟨q1, q2⟩) | ⟨j, q1, q2, q3, q4⟩
      · exact Or.inl q
      · exact Or.inr ⟨i, Nat.le_refl _, by omega, q1, q2.symm⟩
      · exact Or.inr ⟨j, by omega, by omega, q3, q4⟩
    · rcases q with q | ⟨j, q1, q2, q3, q4⟩
      · exact Or.inl (Or.inl q)
      · by_cases e : j = i
        · subst e; exact Or.inl (Or.inr ⟨q3, q4.symm⟩)
        · exact Or.inr ⟨j, by omega, by omega, q3, q4⟩
/-- the other writing: both tables in one loop -/
def abr (M K M2 K2 : Nat → Int32) (b : Int32) : Nat → Nat → Int32 → Int32
  | 0, _, x => x
  | f + 1, i, x => abr M K M2 K2 b f (i + 1) (sp b (sp b x (K i) (M i)) (K2 i) (M2 i))
theorem abr_bst {M K M2 K2 : Nat → Int32} {b : Int32} : ∀ (f i : Nat) (x : Int32) (S : Int32 → Prop), bst b S x → bst b (fun k => S k ∨ (∃ j, i ≤ j ∧ j < i + f ∧ M j = 1 ∧ K j = k) ∨ ∃ j, i ≤ j ∧ j < i + f ∧ M2 j = 1 ∧ K2 j = k) (abr M K M2 K2 b f i x)
  | 0, i, x, S, h => bst_to h (fun k => ⟨Or.inl, fun q => by
      rcases q with q | ⟨j, a, c, _⟩ | ⟨j, a, c, _⟩
      · exact q
      · omega
      · omega⟩)
  | f + 1, i, x, S, h => by
    rw [abr]
    refine bst_to (abr_bst f (i + 1) _ _ (bst_step (k := K2 i) (m := M2 i) (bst_step (k := K i) (m := M i) h))) (fun k => ⟨fun q => ?_, fun q => ?_⟩)
    · rcases q with ((q | ⟨q1, q2⟩) | ⟨q1, q2⟩) | ⟨j, q1, q2, q3, q4⟩ | ⟨j, q1, q2, q3, q4⟩
      · exact Or.inl q
      · exact Or.inr (Or.inl ⟨i, Nat.le_refl _, by omega, q1, q2.symm⟩)
      · exact Or.inr (Or.inr ⟨i, Nat.le_refl _, by omega, q1, q2.symm⟩)
      · exact Or.inr (Or.inl ⟨j, by omega, by omega, q3, q4⟩)
      · exact Or.inr (Or.inr ⟨j, by omega, by omega, q3, q4⟩)
    · rcases q with q | ⟨j, q1, q2, q3, q4⟩ | ⟨j, q1, q2, q3, q4⟩
      · exact Or.inl (Or.inl (Or.inl q))
      · by_cases e : j = i
        · subst e; exact Or.inl (Or.inl (Or.inr ⟨q3, q4.symm⟩))
        · exact Or.inr (Or.inl ⟨j, by omega, by omega, q3, q4⟩)
      · by_cases e : j = i
        · subst e; exact Or.inl (Or.inr ⟨q3, q4.symm⟩)
        · exact Or.inr (Or.inr ⟨j, by omega, by omega, q3, q4⟩)
/-- both writings of above agree -/
theorem abv_eq {C : Nat} {M K OM OK M' K' OM' OK' : Nat → Int32} {b : Int32} (h1 : ∀ j, j < C → M j = M' j ∧ (M j = 1 → K j = K' j)) (h2 : ∀ j, j < C → (OM j = 1 ↔ OM' j = 1) ∧ (OM j = 1 → OK j = OK' j)) :
    abv OM OK b C 0 (abv M K b C 0 b) = abr M' K' OM' OK' b C 0 b := by
  have h0 : bst b (fun _ => False) b := Or.inl ⟨rfl, fun k hk => hk.elim⟩
  refine bst_uniq (abv_bst C 0 _ _ (abv_bst C 0 b _ h0)) (abr_bst C 0 b _ h0) (fun k => ⟨fun q => ?_, fun q => ?_⟩)
  · rcases q with (q | ⟨j, q1, q2, q3, q4⟩) | ⟨j, q1, q2, q3, q4⟩
    · exact q.elim
    · obtain ⟨a, c⟩ := h1 j (by omega)
      exact Or.inr (Or.inl ⟨j, q1, q2, a ▸ q3, (c q3) ▸ q4⟩)
    · obtain ⟨a, c⟩ := h2 j (by omega)
      exact Or.inr (Or.inr ⟨j, q1, q2, a.mp q3, (c q3) ▸ q4⟩)
  · rcases q with q | ⟨j, q1, q2, q3, q4⟩ | ⟨j, q1, q2, q3, q4⟩
    · exact q.elim
    · obtain ⟨a, c⟩ := h1 j (by omega)
      have q5 : M j = 1 := a.trans q3
      exact Or.inl (Or.inr ⟨j, q1, q2, q5, (c q5).trans q4⟩)
    · obtain ⟨a, c⟩ := h2 j (by omega)
      have q5 := a.mpr q3
      exact Or.inr ⟨j, q1, q2, q5, (c q5).trans q4⟩
def smr (w : Nat → Int32) (M K V M2 K2 V2 : Nat → Int32) : Nat → Int64
  | 0 => 0
  | n + 1 => smr w M K V M2 K2 V2 n + (if M n = 1 then hwd w (K n) * (2 * (V n).toInt64 + 1) else 0) + (if M2 n = 1 then hwd w (K2 n) * (2 * (V2 n).toInt64 + 1) else 0)
theorem smr_eq {w : Nat → Int32} {M K V OM OK OV M' K' V' OM' OK' OV' : Nat → Int32} : ∀ n, (∀ j, j < n → M j = M' j ∧ (M j = 1 → K j = K' j ∧ V j = V' j)) → (∀ j, j < n → (OM j = 1 ↔ OM' j = 1) ∧ (OM j = 1 → OK j = OK' j ∧ OV j = OV' j)) →
    smf w M K V n + smf w OM OK OV n = smr w M' K' V' OM' OK' OV' n
  | 0, _, _ => rfl
  | n + 1, h1, h2 => by
    have ih := smr_eq n (fun j hj => h1 j (by omega)) (fun j hj => h2 j (by omega)) (w := w)
    obtain ⟨a, c⟩ := h1 n (by omega)
    obtain ⟨a2, c2⟩ := h2 n (by omega)
    have e1 : (if M n = 1 then hwd w (K n) * (2 * (V n).toInt64 + 1) else 0) = (if M' n = 1 then hwd w (K' n) * (2 * (V' n).toInt64 + 1) else 0) := by
      rw [← a]
      by_cases q : M n = 1
      · rw [if_pos q, if_pos q, (c q).1, (c q).2]
      · rw [if_neg q, if_neg q]
    have e2 : (if OM n = 1 then hwd w (OK n) * (2 * (OV n).toInt64 + 1) else 0) = (if OM' n = 1 then hwd w (OK' n) * (2 * (OV' n).toInt64 + 1) else 0) := by
      by_cases q : OM n = 1
      · rw [if_pos q, if_pos (a2.mp q), (c2 q).1, (c2 q).2]
      · rw [if_neg q, if_neg (fun z => q (a2.mpr z))]
    rw [smf, smf, smr, ← ih, e1, e2]
    ac_rfl
