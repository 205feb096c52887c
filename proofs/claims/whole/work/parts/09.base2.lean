abbrev qRq (v : Option Nat) (Hp : Heap) : Array Value → State → Outcome → State → Prop := va_Qq (fun r (_ : Unit) => r = v) (fun _ t => t.heap = Hp) (fun _ => False)
section KB2
variable {p : Program} {l : Launch} {e : Env} {R : Room} {s : State} {m : MethodId} {args : Array Value} {below : List Frame} {meth : Method} {c : Code} {H : Heap} {locs : List Loc} {cells slots : Nat} {Q : State → Prop}
variable {cc : ByteArray} {pc : Nat} {ls : Array Slot} {rest st0 : List Value} {A : Nat → Prop} {H0 : Heap}
theorem ro_q {v : Option Nat} {av : Array Value} (hr : va_Run p l e R s m args below meth c H locs cells slots 0 0 (F0 m pc ls st0) rest (qRq v H av) (fun _ => False)) (hS : va_S A H0 H locs)
    (kk : ∀ locs1 : List Loc, va_S A H0 H locs1 → W p l e R s m args below meth c H locs1 cells slots Q (F0 m (pc + 3) ls (va_rf v :: rest))) : W p l e R s m args below meth c H locs cells slots Q (F0 m pc ls st0) := by
  refine va_callq hr hS (fun q _ h => h.elim) (fun q h => h.elim) (fun r u t H1 locs1 ht hvm hw hB hz hk hS1 => ?_)
  have e1 : H1 = H := ht.symm.trans hB
  subst e1; subst hw
  exact kk locs1 hS1
theorem rt_q (hx : p.tables.exec = Jvm.exec) (hb : c.code = cc) {nm : String} (hr : meth.sig.returnType = some (.object nm)) (hlocks : meth.locks = false) {v : Value} {w : Option Nat} (hv : v = va_rf w) (hS : va_S (fun _ => False) s.heap s.heap locs) (hdg : decode cc pc = .ok (.areturn, 1)) :
    W p l e R s m args below meth c s.heap locs 0 0 (MQ below (qRq w s.heap) args s 0 0 (fun _ => False)) (F0 m pc ls [v]) := by
  subst hv
  exact W.aret hx hb hr (Or.inl ⟨_, rfl⟩) (va_rf_or w) (fun t ht hW => ⟨⟨w, (), rfl, rfl, ht⟩, by rw [ht]; exact Nat.le_refl _, fun q _ _ => by rw [ht]⟩) hS.2.2 hdg hlocks
end KB2
theorem mst_all {C : Nat} (hC : szC C) {h : Int32 → Nat} (hh : ∀ x, h x < C) {OK OV : Nat → Int32} (s : (Nat → Int32) × (Nat → Int32) × (Nat → Int32) × (Nat → Int32)) (h1 : ∀ j, j < C → s.2.1 j = 0 ∨ s.2.1 j = 1) (h2 : cnt s.1 C + cnt s.2.1 C < C) :
    lst C (mst C h OK OV C s).1 = C ∧ cnt (mst C h OK OV C s).1 C = 0 := by
  obtain ⟨-, -, i3⟩ := mst_inv hC hh (OK := OK) (OV := OV) C s h1 h2
  rw [mcn_min] at i3
  have := cnt_le s.1 C
  have e : cnt (mst C h OK OV C s).1 C = 0 := by omega
  exact ⟨lst_none (cnt_zero C e), e⟩
theorem mst_more {C : Nat} (hC : szC C) {h : Int32 → Nat} (hh : ∀ x, h x < C) {OK OV : Nat → Int32} (n : Nat) (s : (Nat → Int32) × (Nat → Int32) × (Nat → Int32) × (Nat → Int32)) (h1 : ∀ j, j < C → s.2.1 j = 0 ∨ s.2.1 j = 1) (h2 : cnt s.1 C + cnt s.2.1 C < C) :
    mst C h OK OV C (mst C h OK OV n s) = mst C h OK OV C s := by
  rw [← mst_add, Nat.add_comm, mst_add, mst_stop (mst_all hC hh s h1 h2).1]
