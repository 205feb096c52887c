def ush (x n : Int32) : Int32 := (x.toUInt32 >>> (n.toUInt32 &&& Int32.toUInt32 31)).toInt32
def lus (x : Int64) (n : Int32) : Int64 := (x.toUInt64 >>> (n.toInt64.toUInt64 &&& Int64.toUInt64 63)).toInt64
def lsl (x : Int64) (n : Int32) : Int64 := x <<< (n.toInt64 &&& 63)
/-- what a method that changes nothing asks of its start, and says of its end -/
abbrev pRO (dC : Nat → ClassId) (dI : Nat → Nat → Nat) (cA : ClassId) (av : List Value) (Hp : Heap) : Array Value → State → Prop := va_Pc av (fun U => U.heap = Hp ∧ va_K (dC, dI) cls [(cA, .int)] U)
abbrev pNO (dC : Nat → ClassId) (dI : Nat → Nat → Nat) (cA : ClassId) (av : List Value) (Hp : Heap) : Array Value → State → Prop := va_Pc av (fun U => U.heap = Hp ∧ va_K (dC, dI) cls [(cA, .int)] U ∧ NW U)
abbrev pJ (av : List Value) (Hp : Heap) : Array Value → State → Prop := va_Pc av (fun U => U.heap = Hp)
abbrev pRW (dC : Nat → ClassId) (dI : Nat → Nat → Nat) (cA : ClassId) (av : List Value) (ws : va_W) (sz : Nat) : Array Value → State → Prop := va_Pc av (fun U => U.heap.size = sz ∧ va_P (dC, dI) cls ws U.heap ∧ va_K (dC, dI) cls [(cA, .int)] U ∧ va_D (fun _ => True) ws)
abbrev pNW (dC : Nat → ClassId) (dI : Nat → Nat → Nat) (cA : ClassId) (av : List Value) (ws : va_W) (sz : Nat) : Array Value → State → Prop := va_Pc av (fun U => U.heap.size = sz ∧ va_P (dC, dI) cls ws U.heap ∧ va_K (dC, dI) cls [(cA, .int)] U ∧ va_D (fun _ => True) ws ∧ NW U)
abbrev qRi (v : Int32) (Hp : Heap) : Array Value → State → Outcome → State → Prop := va_Qi (fun r (_ : Unit) => r = v) (fun _ t => t.heap = Hp) (fun _ => False)
abbrev qRl (v : Int64) (Hp : Heap) : Array Value → State → Outcome → State → Prop := va_Ql (fun r (_ : Unit) => r = v) (fun _ t => t.heap = Hp) (fun _ => False)
abbrev wdB (dC : Nat → ClassId) (dI : Nat → Nat → Nat) (cA : ClassId) (A : Nat → Prop) (ws : va_W) (t : State) : Prop := va_P (dC, dI) cls ws t.heap ∧ va_K (dC, dI) cls [(cA, .int)] t ∧ va_D A ws
theorem bl_RO {dC : Nat → ClassId} {dI : Nat → Nat → Nat} {cA : ClassId} {av : List Value} {Hp : Heap} : FrameBlind (pRO dC dI cA av Hp) := fun a U g mk q => ⟨q.1, q.2.1, va_K.moved (u := U) (U := U.calling g mk a) (Vm.Alike.refl U.vm) q.2.2⟩
theorem bl_NO {dC : Nat → ClassId} {dI : Nat → Nat → Nat} {cA : ClassId} {av : List Value} {Hp : Heap} : FrameBlind (pNO dC dI cA av Hp) := fun a U g mk q => ⟨q.1, q.2.1, va_K.moved (u := U) (U := U.calling g mk a) (Vm.Alike.refl U.vm) q.2.2.1, NW.same (u := U) (U := U.calling g mk a) rfl q.2.2.2⟩
theorem bl_J {av : List Value} {Hp : Heap} : FrameBlind (pJ av Hp) := fun a U g mk q => ⟨q.1, q.2⟩
theorem bl_RW {dC : Nat → ClassId} {dI : Nat → Nat → Nat} {cA : ClassId} {av : List Value} {ws : va_W} {sz : Nat} : FrameBlind (pRW dC dI cA av ws sz) := fun a U g mk q => ⟨q.1, q.2.1, q.2.2.1, va_K.moved (u := U) (U := U.calling g mk a) (Vm.Alike.refl U.vm) q.2.2.2.1, q.2.2.2.2⟩
theorem bl_NW {dC : Nat → ClassId} {dI : Nat → Nat → Nat} {cA : ClassId} {av : List Value} {ws : va_W} {sz : Nat} : FrameBlind (pNW dC dI cA av ws sz) := fun a U g mk q => ⟨q.1, q.2.1, q.2.2.1, va_K.moved (u := U) (U := U.calling g mk a) (Vm.Alike.refl U.vm) q.2.2.2.1, q.2.2.2.2.1, NW.same (u := U) (U := U.calling g mk a) rfl q.2.2.2.2.2⟩
/-- a part of the world is what a callee asks for -/
theorem pr_RW {dC : Nat → ClassId} {dI : Nat → Nat → Nat} {cA : ClassId} {av : List Value} {ws wc : va_W} {s : State} {H : Heap} {A : Nat → Prop} (hK : va_K (dC, dI) cls [(cA, .int)] s) (hP : va_P (dC, dI) cls ws H) (hD : va_D A ws) (is : List Nat) (h1 : is.filterMap (fun i => ws[i]?) = wc) (hn : va_nd is = true) (h2 : is.map (fun i => ws[i]?) = wc.map some) :
    ∀ U : State, U.heap = H → s.WarmedH U.vm → pRW dC dI cA av wc H.size av.toArray U := fun U hU hW =>
  ⟨rfl, by rw [hU], by rw [hU]; exact hP.sub is h1, va_K.moved hW.alike hK, (hD.sub is hn h2).weaken (fun _ _ _ _ => trivial)⟩
theorem pr_NW {dC : Nat → ClassId} {dI : Nat → Nat → Nat} {cA : ClassId} {av : List Value} {ws wc : va_W} {s : State} {H : Heap} {A : Nat → Prop} (hN : NW s) (hK : va_K (dC, dI) cls [(cA, .int)] s) (hP : va_P (dC, dI) cls ws H) (hD : va_D A ws) (is : List Nat) (h1 : is.filterMap (fun i => ws[i]?) = wc) (hn : va_nd is = true) (h2 : is.map (fun i => ws[i]?) = wc.map some) :
    ∀ U : State, U.heap = H → s.WarmedH U.vm → pNW dC dI cA av wc H.size av.toArray U := fun U hU hW =>
  ⟨rfl, by rw [hU], by rw [hU]; exact hP.sub is h1, va_K.moved hW.alike hK, (hD.sub is hn h2).weaken (fun _ _ _ _ => trivial), NW.warm hW hN⟩
section KB
variable {p : Program} {l : Launch} {e : Env} {R : Room} {s : State} {m : MethodId} {args : Array Value} {below : List Frame} {meth : Method} {c : Code} {H : Heap} {locs : List Loc} {cells slots : Nat} {Q : State → Prop}
variable {cc : ByteArray} {pc : Nat} {ls : Array Slot} {rest st0 : List Value} {D : va_G} {cl : List vw_C} {A : Nat → Prop} {a : Nat} {tys : List (ClassId × FieldType)} {ws : va_W} {H0 : Heap}
theorem lv_asI {x y : Int32} (h : x = y) (k : W p l e R s m args below meth c H locs cells slots Q (F0 m pc ls (.int y :: rest))) : W p l e R s m args below meth c H locs cells slots Q (F0 m pc ls (.int x :: rest)) := by
  subst h; exact k
theorem lv_asL {x y : Int64} (h : x = y) (k : W p l e R s m args below meth c H locs cells slots Q (F0 m pc ls (.long y :: rest))) : W p l e R s m args below meth c H locs cells slots Q (F0 m pc ls (.long x :: rest)) := by
  subst h; exact k
theorem ia_ld (hexec : p.tables.exec = Jvm.exec) (hb : c.code = cc) (hK : va_K D cl tys s) (hP : va_P D cl ws H) (q0 : Nat) {cA : ClassId} {n : Nat} {f : Nat → Int32} (ha : ws[q0]? = some (a, .inl (cA, n, .inl f))) (ht : tys[0]? = some (cA, .int)) {i : Nat} (hi : i < n) (hn : n < 2 ^ 31) (hdg : decode cc pc = .ok (.iaload, 1))
    (kk : W p l e R s m args below meth c H locs cells slots Q (F0 m (pc + 1) ls (.int (f i) :: rest))) : W p l e R s m args below meth c H locs cells slots Q (F0 m pc ls (.int (nI i) :: .ref a :: rest)) :=
  va_iald hexec hb hK hP q0 0 ha ht (vp_in_nI hi hn) hdg (by rw [nI_clamp (Nat.lt_trans hi hn)]; exact kk)
theorem ia_st (hexec : p.tables.exec = Jvm.exec) (hb : c.code = cc) (hK : va_K D cl tys s) (hP : va_P D cl ws H) (hD : va_D A ws) (hS : va_S A H0 H locs) (q0 : Nat) {cA : ClassId} {n : Nat} {f : Nat → Int32} (ha : ws[q0]? = some (a, .inl (cA, n, .inl f))) (ht : tys[0]? = some (cA, .int)) {i : Nat} {x : Int32} (hi : i < n) (hn : n < 2 ^ 31) (hdg : decode cc pc = .ok (.iastore, 1))
    (kk : ∀ (H1 : Heap) (locs1 : List Loc), va_P D cl (ws.set q0 (a, .inl (cA, n, .inl (upd f i x)))) H1 → va_D A (ws.set q0 (a, .inl (cA, n, .inl (upd f i x)))) → va_S A H0 H1 locs1 → W p l e R s m args below meth c H1 locs1 cells slots Q (F0 m (pc + 1) ls rest)) : W p l e R s m args below meth c H locs cells slots Q (F0 m pc ls (.int x :: .int (nI i) :: .ref a :: rest)) :=
  va_iast hexec hb hK hP hD hS q0 0 ha ht (vp_in_nI hi hn) hdg (fun H1 locs1 h1 h2 h3 => by rw [nI_clamp (Nat.lt_trans hi hn)] at h1 h2; exact kk H1 locs1 h1 h2 h3)
theorem ro_i {v : Int32} {av : Array Value} (hr : va_Run p l e R s m args below meth c H locs cells slots 0 0 (F0 m pc ls st0) rest (qRi v H av) (fun _ => False)) (hS : va_S A H0 H locs)
    (kk : ∀ locs1 : List Loc, va_S A H0 H locs1 → W p l e R s m args below meth c H locs1 cells slots Q (F0 m (pc + 3) ls (.int v :: rest))) : W p l e R s m args below meth c H locs cells slots Q (F0 m pc ls st0) := by
  refine va_calli hr hS (fun q _ h => h.elim) (fun q h => h.elim) (fun r u t H1 locs1 ht hvm hw hB hz hk hS1 => ?_)
  have e1 : H1 = H := ht.symm.trans hB
  subst e1; subst hw
  exact kk locs1 hS1
theorem ro_l {v : Int64} {av : Array Value} (hr : va_Run p l e R s m args below meth c H locs cells slots 0 0 (F0 m pc ls st0) rest (qRl v H av) (fun _ => False)) (hS : va_S A H0 H locs)
    (kk : ∀ locs1 : List Loc, va_S A H0 H locs1 → W p l e R s m args below meth c H locs1 cells slots Q (F0 m (pc + 3) ls (.long v :: rest))) : W p l e R s m args below meth c H locs cells slots Q (F0 m pc ls st0) := by
  refine va_calll hr hS (fun q _ h => h.elim) (fun q h => h.elim) (fun r u t H1 locs1 ht hvm hw hB hz hk hS1 => ?_)
  have e1 : H1 = H := ht.symm.trans hB
  subst e1; subst hw
  exact kk locs1 hS1
variable {dC : Nat → ClassId} {dI : Nat → Nat → Nat} {cA : ClassId}
theorem rw_v {S : Type} {post : S → Prop} {w1 : S → va_W} {wc wr : va_W} {mc ms : Nat} {av : Array Value} (hP : va_P (dC, dI) cls ws H) (hD : va_D A ws) (hS : va_S A H0 H locs) (hA : ∀ q, H0.size ≤ q → A q)
    (hr : va_Run p l e R s m args below meth c H locs cells slots mc ms (F0 m pc ls st0) rest (va_Qv post (fun u t => wdB dC dI cA (va_A wc H.size) (w1 u) t) (va_A wc H.size) av) (va_A wc H.size))
    (isC isR : List Nat) (hC : isC.map (fun i => ws[i]?) = wc.map some) (hR : isR.map (fun i => ws[i]?) = wr.map some) (hn : va_nd isR = true) (hdis : ∀ i ∈ isR, i ∉ isC)
    (kk : ∀ (u : S) (H1 : Heap) (locs1 : List Loc), post u → va_P (dC, dI) cls (wr ++ w1 u) H1 → va_D A (wr ++ w1 u) → va_S A H0 H1 locs1 → W p l e R s m args below meth c H1 locs1 (cells + mc) (slots + ms) Q (F0 m (pc + 3) ls rest)) : W p l e R s m args below meth c H locs cells slots Q (F0 m pc ls st0) := by
  have hF := va_free (wc := wc) hD hS hA isC hC
  refine va_callv hr hS (fun q _ h => hF q h) hF (fun u t H1 locs1 ht hvm hw hB hz1 hk1 hS1 => ?_)
  obtain ⟨hP1, hK1, hD1⟩ := hB
  rw [ht] at hP1
  obtain ⟨hP2, hD2⟩ := va_join (wr := wr) hP hD isC isR hC hR hn hdis hk1 hF hP1 hD1
  exact kk u H1 locs1 hw hP2 hD2 hS1
theorem rw_i {S : Type} {post : Int32 → S → Prop} {w1 : S → va_W} {wc wr : va_W} {mc ms : Nat} {av : Array Value} (hP : va_P (dC, dI) cls ws H) (hD : va_D A ws) (hS : va_S A H0 H locs) (hA : ∀ q, H0.size ≤ q → A q)
    (hr : va_Run p l e R s m args below meth c H locs cells slots mc ms (F0 m pc ls st0) rest (va_Qi post (fun u t => wdB dC dI cA (va_A wc H.size) (w1 u) t) (va_A wc H.size) av) (va_A wc H.size))
    (isC isR : List Nat) (hC : isC.map (fun i => ws[i]?) = wc.map some) (hR : isR.map (fun i => ws[i]?) = wr.map some) (hn : va_nd isR = true) (hdis : ∀ i ∈ isR, i ∉ isC)
    (kk : ∀ (r : Int32) (u : S) (H1 : Heap) (locs1 : List Loc), post r u → va_P (dC, dI) cls (wr ++ w1 u) H1 → va_D A (wr ++ w1 u) → va_S A H0 H1 locs1 → W p l e R s m args below meth c H1 locs1 (cells + mc) (slots + ms) Q (F0 m (pc + 3) ls (.int r :: rest))) : W p l e R s m args below meth c H locs cells slots Q (F0 m pc ls st0) := by
  have hF := va_free (wc := wc) hD hS hA isC hC
  refine va_calli hr hS (fun q _ h => hF q h) hF (fun r u t H1 locs1 ht hvm hw hB hz1 hk1 hS1 => ?_)
  obtain ⟨hP1, hK1, hD1⟩ := hB
  rw [ht] at hP1
  obtain ⟨hP2, hD2⟩ := va_join (wr := wr) hP hD isC isR hC hR hn hdis hk1 hF hP1 hD1
  exact kk r u H1 locs1 hw hP2 hD2 hS1
theorem rw_l {S : Type} {post : Int64 → S → Prop} {w1 : S → va_W} {wc wr : va_W} {mc ms : Nat} {av : Array Value} (hP : va_P (dC, dI) cls ws H) (hD : va_D A ws) (hS : va_S A H0 H locs) (hA : ∀ q, H0.size ≤ q → A q)
    (hr : va_Run p l e R s m args below meth c H locs cells slots mc ms (F0 m pc ls st0) rest (va_Ql post (fun u t => wdB dC dI cA (va_A wc H.size) (w1 u) t) (va_A wc H.size) av) (va_A wc H.size))
    (isC isR : List Nat) (hC : isC.map (fun i => ws[i]?) = wc.map some) (hR : isR.map (fun i => ws[i]?) = wr.map some) (hn : va_nd isR = true) (hdis : ∀ i ∈ isR, i ∉ isC)
    (kk : ∀ (r : Int64) (u : S) (H1 : Heap) (locs1 : List Loc), post r u → va_P (dC, dI) cls (wr ++ w1 u) H1 → va_D A (wr ++ w1 u) → va_S A H0 H1 locs1 → W p l e R s m args below meth c H1 locs1 (cells + mc) (slots + ms) Q (F0 m (pc + 3) ls (.long r :: rest))) : W p l e R s m args below meth c H locs cells slots Q (F0 m pc ls st0) := by
  have hF := va_free (wc := wc) hD hS hA isC hC
  refine va_calll hr hS (fun q _ h => hF q h) hF (fun r u t H1 locs1 ht hvm hw hB hz1 hk1 hS1 => ?_)
  obtain ⟨hP1, hK1, hD1⟩ := hB
  rw [ht] at hP1
  obtain ⟨hP2, hD2⟩ := va_join (wr := wr) hP hD isC isR hC hR hn hdis hk1 hF hP1 hD1
  exact kk r u H1 locs1 hw hP2 hD2 hS1
/-- a loop: the goal at its head, by a number that falls -/
theorem lq1 {α1 : Type} (μ : α1 → Nat) (E : α1 → Array Slot → Heap → List Loc → Prop) (step : ∀ (a1 : α1) (ls : Array Slot) (H : Heap) (locs : List Loc), E a1 ls H locs → (∀ (b1 : α1) (ls' : Array Slot) (H' : Heap) (locs' : List Loc), E b1 ls' H' locs' → μ b1 < μ a1 → W p l e R s m args below meth c H' locs' cells slots Q (F0 m pc ls' rest)) → W p l e R s m args below meth c H locs cells slots Q (F0 m pc ls rest))
    (a1 : α1) (ls : Array Slot) (H : Heap) (locs : List Loc) (h : E a1 ls H locs) : W p l e R s m args below meth c H locs cells slots Q (F0 m pc ls rest) := by
  generalize hn : μ a1 = n
  induction n using Nat.strongRecOn generalizing a1 ls H locs with
  | _ n ih => exact step a1 ls H locs h (fun b1 ls' H' locs' hE hlt => ih (μ b1) (by omega) b1 ls' H' locs' hE rfl)
theorem lr1 {α1 : Type} (μ : α1 → Nat) (E : α1 → Array Slot → List Loc → Prop) (step : ∀ (a1 : α1) (ls : Array Slot) (locs : List Loc), E a1 ls locs → (∀ (b1 : α1) (ls' : Array Slot) (locs' : List Loc), E b1 ls' locs' → μ b1 < μ a1 → W p l e R s m args below meth c H locs' cells slots Q (F0 m pc ls' rest)) → W p l e R s m args below meth c H locs cells slots Q (F0 m pc ls rest))
    (a1 : α1) (ls : Array Slot) (locs : List Loc) (h : E a1 ls locs) : W p l e R s m args below meth c H locs cells slots Q (F0 m pc ls rest) := by
  generalize hn : μ a1 = n
  induction n using Nat.strongRecOn generalizing a1 ls locs with
  | _ n ih => exact step a1 ls locs h (fun b1 ls' locs' hE hlt => ih (μ b1) (by omega) b1 ls' locs' hE rfl)
/-- a loop: the goal at its head, by a number that falls -/
theorem lq2 {α1 α2 : Type} (μ : α1 → α2 → Nat) (E : α1 → α2 → Array Slot → Heap → List Loc → Prop) (step : ∀ (a1 : α1) (a2 : α2) (ls : Array Slot) (H : Heap) (locs : List Loc), E a1 a2 ls H locs → (∀ (b1 : α1) (b2 : α2) (ls' : Array Slot) (H' : Heap) (locs' : List Loc), E b1 b2 ls' H' locs' → μ b1 b2 < μ a1 a2 → W p l e R s m args below meth c H' locs' cells slots Q (F0 m pc ls' rest)) → W p l e R s m args below meth c H locs cells slots Q (F0 m pc ls rest))
    (a1 : α1) (a2 : α2) (ls : Array Slot) (H : Heap) (locs : List Loc) (h : E a1 a2 ls H locs) : W p l e R s m args below meth c H locs cells slots Q (F0 m pc ls rest) := by
  generalize hn : μ a1 a2 = n
  induction n using Nat.strongRecOn generalizing a1 a2 ls H locs with
  | _ n ih => exact step a1 a2 ls H locs h (fun b1 b2 ls' H' locs' hE hlt => ih (μ b1 b2) (by omega) b1 b2 ls' H' locs' hE rfl)
theorem lr2 {α1 α2 : Type} (μ : α1 → α2 → Nat) (E : α1 → α2 → Array Slot → List Loc → Prop) (step : ∀ (a1 : α1) (a2 : α2) (ls : Array Slot) (locs : List Loc), E a1 a2 ls locs → (∀ (b1 : α1) (b2 : α2) (ls' : Array Slot) (locs' : List Loc), E b1 b2 ls' locs' → μ b1 b2 < μ a1 a2 → W p l e R s m args below meth c H locs' cells slots Q (F0 m pc ls' rest)) → W p l e R s m args below meth c H locs cells slots Q (F0 m pc ls rest))
    (a1 : α1) (a2 : α2) (ls : Array Slot) (locs : List Loc) (h : E a1 a2 ls locs) : W p l e R s m args below meth c H locs cells slots Q (F0 m pc ls rest) := by
  generalize hn : μ a1 a2 = n
  induction n using Nat.strongRecOn generalizing a1 a2 ls locs with
  | _ n ih => exact step a1 a2 ls locs h (fun b1 b2 ls' locs' hE hlt => ih (μ b1 b2) (by omega) b1 b2 ls' locs' hE rfl)
/-- a loop: the goal at its head, by a number that falls -/
theorem lq3 {α1 α2 α3 : Type} (μ : α1 → α2 → α3 → Nat) (E : α1 → α2 → α3 → Array Slot → Heap → List Loc → Prop) (step : ∀ (a1 : α1) (a2 : α2) (a3 : α3) (ls : Array Slot) (H : Heap) (locs : List Loc), E a1 a2 a3 ls H locs → (∀ (b1 : α1) (b2 : α2) (b3 : α3) (ls' : Array Slot) (H' : Heap) (locs' : List Loc), E b1 b2 b3 ls' H' locs' → μ b1 b2 b3 < μ a1 a2 a3 → W p l e R s m args below meth c H' locs' cells slots Q (F0 m pc ls' rest)) → W p l e R s m args below meth c H locs cells slots Q (F0 m pc ls rest))
    (a1 : α1) (a2 : α2) (a3 : α3) (ls : Array Slot) (H : Heap) (locs : List Loc) (h : E a1 a2 a3 ls H locs) : W p l e R s m args below meth c H locs cells slots Q (F0 m pc ls rest) := by
  generalize hn : μ a1 a2 a3 = n
  induction n using Nat.strongRecOn generalizing a1 a2 a3 ls H locs with
  | _ n ih => exact step a1 a2 a3 ls H locs h (fun b1 b2 b3 ls' H' locs' hE hlt => ih (μ b1 b2 b3) (by omega) b1 b2 b3 ls' H' locs' hE rfl)
theorem lr3 {α1 α2 α3 : Type} (μ : α1 → α2 → α3 → Nat) (E : α1 → α2 → α3 → Array Slot → List Loc → Prop) (step : ∀ (a1 : α1) (a2 : α2) (a3 : α3) (ls : Array Slot) (locs : List Loc), E a1 a2 a3 ls locs → (∀ (b1 : α1) (b2 : α2) (b3 : α3) (ls' : Array Slot) (locs' : List Loc), E b1 b2 b3 ls' locs' → μ b1 b2 b3 < μ a1 a2 a3 → W p l e R s m args below meth c H locs' cells slots Q (F0 m pc ls' rest)) → W p l e R s m args below meth c H locs cells slots Q (F0 m pc ls rest))
    (a1 : α1) (a2 : α2) (a3 : α3) (ls : Array Slot) (locs : List Loc) (h : E a1 a2 a3 ls locs) : W p l e R s m args below meth c H locs cells slots Q (F0 m pc ls rest) := by
  generalize hn : μ a1 a2 a3 = n
  induction n using Nat.strongRecOn generalizing a1 a2 a3 ls locs with
  | _ n ih => exact step a1 a2 a3 ls locs h (fun b1 b2 b3 ls' locs' hE hlt => ih (μ b1 b2 b3) (by omega) b1 b2 b3 ls' locs' hE rfl)
/-- a loop: the goal at its head, by a number that falls -/
theorem lq4 {α1 α2 α3 α4 : Type} (μ : α1 → α2 → α3 → α4 → Nat) (E : α1 → α2 → α3 → α4 → Array Slot → Heap → List Loc → Prop) (step : ∀ (a1 : α1) (a2 : α2) (a3 : α3) (a4 : α4) (ls : Array Slot) (H : Heap) (locs : List Loc), E a1 a2 a3 a4 ls H locs → (∀ (b1 : α1) (b2 : α2) (b3 : α3) (b4 : α4) (ls' : Array Slot) (H' : Heap) (locs' : List Loc), E b1 b2 b3 b4 ls' H' locs' → μ b1 b2 b3 b4 < μ a1 a2 a3 a4 → W p l e R s m args below meth c H' locs' cells slots Q (F0 m pc ls' rest)) → W p l e R s m args below meth c H locs cells slots Q (F0 m pc ls rest))
    (a1 : α1) (a2 : α2) (a3 : α3) (a4 : α4) (ls : Array Slot) (H : Heap) (locs : List Loc) (h : E a1 a2 a3 a4 ls H locs) : W p l e R s m args below meth c H locs cells slots Q (F0 m pc ls rest) := by
  generalize hn : μ a1 a2 a3 a4 = n
  induction n using Nat.strongRecOn generalizing a1 a2 a3 a4 ls H locs with
  | _ n ih => exact step a1 a2 a3 a4 ls H locs h (fun b1 b2 b3 b4 ls' H' locs' hE hlt => ih (μ b1 b2 b3 b4) (by omega) b1 b2 b3 b4 ls' H' locs' hE rfl)
theorem lr4 {α1 α2 α3 α4 : Type} (μ : α1 → α2 → α3 → α4 → Nat) (E : α1 → α2 → α3 → α4 → Array Slot → List Loc → Prop) (step : ∀ (a1 : α1) (a2 : α2) (a3 : α3) (a4 : α4) (ls : Array Slot) (locs : List Loc), E a1 a2 a3 a4 ls locs → (∀ (b1 : α1) (b2 : α2) (b3 : α3) (b4 : α4) (ls' : Array Slot) (locs' : List Loc), E b1 b2 b3 b4 ls' locs' → μ b1 b2 b3 b4 < μ a1 a2 a3 a4 → W p l e R s m args below meth c H locs' cells slots Q (F0 m pc ls' rest)) → W p l e R s m args below meth c H locs cells slots Q (F0 m pc ls rest))
    (a1 : α1) (a2 : α2) (a3 : α3) (a4 : α4) (ls : Array Slot) (locs : List Loc) (h : E a1 a2 a3 a4 ls locs) : W p l e R s m args below meth c H locs cells slots Q (F0 m pc ls rest) := by
  generalize hn : μ a1 a2 a3 a4 = n
  induction n using Nat.strongRecOn generalizing a1 a2 a3 a4 ls locs with
  | _ n ih => exact step a1 a2 a3 a4 ls locs h (fun b1 b2 b3 b4 ls' locs' hE hlt => ih (μ b1 b2 b3 b4) (by omega) b1 b2 b3 b4 ls' locs' hE rfl)
/-- a loop: the goal at its head, by a number that falls -/
theorem lq5 {α1 α2 α3 α4 α5 : Type} (μ : α1 → α2 → α3 → α4 → α5 → Nat) (E : α1 → α2 → α3 → α4 → α5 → Array Slot → Heap → List Loc → Prop) (step : ∀ (a1 : α1) (a2 : α2) (a3 : α3) (a4 : α4) (a5 : α5) (ls : Array Slot) (H : Heap) (locs : List Loc), E a1 a2 a3 a4 a5 ls H locs → (∀ (b1 : α1) (b2 : α2) (b3 : α3) (b4 : α4) (b5 : α5) (ls' : Array Slot) (H' : Heap) (locs' : List Loc), E b1 b2 b3 b4 b5 ls' H' locs' → μ b1 b2 b3 b4 b5 < μ a1 a2 a3 a4 a5 → W p l e R s m args below meth c H' locs' cells slots Q (F0 m pc ls' rest)) → W p l e R s m args below meth c H locs cells slots Q (F0 m pc ls rest))
    (a1 : α1) (a2 : α2) (a3 : α3) (a4 : α4) (a5 : α5) (ls : Array Slot) (H : Heap) (locs : List Loc) (h : E a1 a2 a3 a4 a5 ls H locs) : W p l e R s m args below meth c H locs cells slots Q (F0 m pc ls rest) := by
  generalize hn : μ a1 a2 a3 a4 a5 = n
  induction n using Nat.strongRecOn generalizing a1 a2 a3 a4 a5 ls H locs with
  | _ n ih => exact step a1 a2 a3 a4 a5 ls H locs h (fun b1 b2 b3 b4 b5 ls' H' locs' hE hlt => ih (μ b1 b2 b3 b4 b5) (by omega) b1 b2 b3 b4 b5 ls' H' locs' hE rfl)
theorem lr5 {α1 α2 α3 α4 α5 : Type} (μ : α1 → α2 → α3 → α4 → α5 → Nat) (E : α1 → α2 → α3 → α4 → α5 → Array Slot → List Loc → Prop) (step : ∀ (a1 : α1) (a2 : α2) (a3 : α3) (a4 : α4) (a5 : α5) (ls : Array Slot) (locs : List Loc), E a1 a2 a3 a4 a5 ls locs → (∀ (b1 : α1) (b2 : α2) (b3 : α3) (b4 : α4) (b5 : α5) (ls' : Array Slot) (locs' : List Loc), E b1 b2 b3 b4 b5 ls' locs' → μ b1 b2 b3 b4 b5 < μ a1 a2 a3 a4 a5 → W p l e R s m args below meth c H locs' cells slots Q (F0 m pc ls' rest)) → W p l e R s m args below meth c H locs cells slots Q (F0 m pc ls rest))
    (a1 : α1) (a2 : α2) (a3 : α3) (a4 : α4) (a5 : α5) (ls : Array Slot) (locs : List Loc) (h : E a1 a2 a3 a4 a5 ls locs) : W p l e R s m args below meth c H locs cells slots Q (F0 m pc ls rest) := by
  generalize hn : μ a1 a2 a3 a4 a5 = n
  induction n using Nat.strongRecOn generalizing a1 a2 a3 a4 a5 ls locs with
  | _ n ih => exact step a1 a2 a3 a4 a5 ls locs h (fun b1 b2 b3 b4 b5 ls' locs' hE hlt => ih (μ b1 b2 b3 b4 b5) (by omega) b1 b2 b3 b4 b5 ls' locs' hE rfl)
/-- a loop: the goal at its head, by a number that falls -/
theorem lq6 {α1 α2 α3 α4 α5 α6 : Type} (μ : α1 → α2 → α3 → α4 → α5 → α6 → Nat) (E : α1 → α2 → α3 → α4 → α5 → α6 → Array Slot → Heap → List Loc → Prop) (step : ∀ (a1 : α1) (a2 : α2) (a3 : α3) (a4 : α4) (a5 : α5) (a6 : α6) (ls : Array Slot) (H : Heap) (locs : List Loc), E a1 a2 a3 a4 a5 a6 ls H locs → (∀ (b1 : α1) (b2 : α2) (b3 : α3) (b4 : α4) (b5 : α5) (b6 : α6) (ls' : Array Slot) (H' : Heap) (locs' : List Loc), E b1 b2 b3 b4 b5 b6 ls' H' locs' → μ b1 b2 b3 b4 b5 b6 < μ a1 a2 a3 a4 a5 a6 → W p l e R s m args below meth c H' locs' cells slots Q (F0 m pc ls' rest)) → W p l e R s m args below meth c H locs cells slots Q (F0 m pc ls rest))
    (a1 : α1) (a2 : α2) (a3 : α3) (a4 : α4) (a5 : α5) (a6 : α6) (ls : Array Slot) (H : Heap) (locs : List Loc) (h : E a1 a2 a3 a4 a5 a6 ls H locs) : W p l e R s m args below meth c H locs cells slots Q (F0 m pc ls rest) := by
  generalize hn : μ a1 a2 a3 a4 a5 a6 = n
  induction n using Nat.strongRecOn generalizing a1 a2 a3 a4 a5 a6 ls H locs with
  | _ n ih => exact step a1 a2 a3 a4 a5 a6 ls H locs h (fun b1 b2 b3 b4 b5 b6 ls' H' locs' hE hlt => ih (μ b1 b2 b3 b4 b5 b6) (by omega) b1 b2 b3 b4 b5 b6 ls' H' locs' hE rfl)
theorem lr6 {α1 α2 α3 α4 α5 α6 : Type} (μ : α1 → α2 → α3 → α4 → α5 → α6 → Nat) (E : α1 → α2 → α3 → α4 → α5 → α6 → Array Slot → List Loc → Prop) (step : ∀ (a1 : α1) (a2 : α2) (a3 : α3) (a4 : α4) (a5 : α5) (a6 : α6) (ls : Array Slot) (locs : List Loc), E a1 a2 a3 a4 a5 a6 ls locs → (∀ (b1 : α1) (b2 : α2) (b3 : α3) (b4 : α4) (b5 : α5) (b6 : α6) (ls' : Array Slot) (locs' : List Loc), E b1 b2 b3 b4 b5 b6 ls' locs' → μ b1 b2 b3 b4 b5 b6 < μ a1 a2 a3 a4 a5 a6 → W p l e R s m args below meth c H locs' cells slots Q (F0 m pc ls' rest)) → W p l e R s m args below meth c H locs cells slots Q (F0 m pc ls rest))
    (a1 : α1) (a2 : α2) (a3 : α3) (a4 : α4) (a5 : α5) (a6 : α6) (ls : Array Slot) (locs : List Loc) (h : E a1 a2 a3 a4 a5 a6 ls locs) : W p l e R s m args below meth c H locs cells slots Q (F0 m pc ls rest) := by
  generalize hn : μ a1 a2 a3 a4 a5 a6 = n
  induction n using Nat.strongRecOn generalizing a1 a2 a3 a4 a5 a6 ls locs with
  | _ n ih => exact step a1 a2 a3 a4 a5 a6 ls locs h (fun b1 b2 b3 b4 b5 b6 ls' locs' hE hlt => ih (μ b1 b2 b3 b4 b5 b6) (by omega) b1 b2 b3 b4 b5 b6 ls' locs' hE rfl)
/-- a loop: the goal at its head, by a number that falls -/
theorem lq7 {α1 α2 α3 α4 α5 α6 α7 : Type} (μ : α1 → α2 → α3 → α4 → α5 → α6 → α7 → Nat) (E : α1 → α2 → α3 → α4 → α5 → α6 → α7 → Array Slot → Heap → List Loc → Prop) (step : ∀ (a1 : α1) (a2 : α2) (a3 : α3) (a4 : α4) (a5 : α5) (a6 : α6) (a7 : α7) (ls : Array Slot) (H : Heap) (locs : List Loc), E a1 a2 a3 a4 a5 a6 a7 ls H locs → (∀ (b1 : α1) (b2 : α2) (b3 : α3) (b4 : α4) (b5 : α5) (b6 : α6) (b7 : α7) (ls' : Array Slot) (H' : Heap) (locs' : List Loc), E b1 b2 b3 b4 b5 b6 b7 ls' H' locs' → μ b1 b2 b3 b4 b5 b6 b7 < μ a1 a2 a3 a4 a5 a6 a7 → W p l e R s m args below meth c H' locs' cells slots Q (F0 m pc ls' rest)) → W p l e R s m args below meth c H locs cells slots Q (F0 m pc ls rest))
    (a1 : α1) (a2 : α2) (a3 : α3) (a4 : α4) (a5 : α5) (a6 : α6) (a7 : α7) (ls : Array Slot) (H : Heap) (locs : List Loc) (h : E a1 a2 a3 a4 a5 a6 a7 ls H locs) : W p l e R s m args below meth c H locs cells slots Q (F0 m pc ls rest) := by
  generalize hn : μ a1 a2 a3 a4 a5 a6 a7 = n
  induction n using Nat.strongRecOn generalizing a1 a2 a3 a4 a5 a6 a7 ls H locs with
  | _ n ih => exact step a1 a2 a3 a4 a5 a6 a7 ls H locs h (fun b1 b2 b3 b4 b5 b6 b7 ls' H' locs' hE hlt => ih (μ b1 b2 b3 b4 b5 b6 b7) (by omega) b1 b2 b3 b4 b5 b6 b7 ls' H' locs' hE rfl)
theorem lr7 {α1 α2 α3 α4 α5 α6 α7 : Type} (μ : α1 → α2 → α3 → α4 → α5 → α6 → α7 → Nat) (E : α1 → α2 → α3 → α4 → α5 → α6 → α7 → Array Slot → List Loc → Prop) (step : ∀ (a1 : α1) (a2 : α2) (a3 : α3) (a4 : α4) (a5 : α5) (a6 : α6) (a7 : α7) (ls : Array Slot) (locs : List Loc), E a1 a2 a3 a4 a5 a6 a7 ls locs → (∀ (b1 : α1) (b2 : α2) (b3 : α3) (b4 : α4) (b5 : α5) (b6 : α6) (b7 : α7) (ls' : Array Slot) (locs' : List Loc), E b1 b2 b3 b4 b5 b6 b7 ls' locs' → μ b1 b2 b3 b4 b5 b6 b7 < μ a1 a2 a3 a4 a5 a6 a7 → W p l e R s m args below meth c H locs' cells slots Q (F0 m pc ls' rest)) → W p l e R s m args below meth c H locs cells slots Q (F0 m pc ls rest))
    (a1 : α1) (a2 : α2) (a3 : α3) (a4 : α4) (a5 : α5) (a6 : α6) (a7 : α7) (ls : Array Slot) (locs : List Loc) (h : E a1 a2 a3 a4 a5 a6 a7 ls locs) : W p l e R s m args below meth c H locs cells slots Q (F0 m pc ls rest) := by
  generalize hn : μ a1 a2 a3 a4 a5 a6 a7 = n
  induction n using Nat.strongRecOn generalizing a1 a2 a3 a4 a5 a6 a7 ls locs with
  | _ n ih => exact step a1 a2 a3 a4 a5 a6 a7 ls locs h (fun b1 b2 b3 b4 b5 b6 b7 ls' locs' hE hlt => ih (μ b1 b2 b3 b4 b5 b6 b7) (by omega) b1 b2 b3 b4 b5 b6 b7 ls' locs' hE rfl)
/-- the ends of a method that changes nothing -/
theorem rt_i (hx : p.tables.exec = Jvm.exec) (hb : c.code = cc) (hr : meth.sig.returnType = some .int) (hlocks : meth.locks = false) {v w : Int32} (hv : v = w) (hS : va_S (fun _ => False) s.heap s.heap locs) (hdg : decode cc pc = .ok (.ireturn, 1)) :
    W p l e R s m args below meth c s.heap locs 0 0 (MQ below (qRi w s.heap) args s 0 0 (fun _ => False)) (F0 m pc ls [.int v]) :=
  W.iret hx hb hr (fun t ht hW => ⟨⟨v, (), rfl, hv, ht⟩, by rw [ht]; exact Nat.le_refl _, fun q _ _ => by rw [ht]⟩) hS.2.2 hdg hlocks
theorem rt_z (hx : p.tables.exec = Jvm.exec) (hb : c.code = cc) (hr : meth.sig.returnType = some .boolean) (hlocks : meth.locks = false) {v w : Int32} (hn : narrow .boolean (.int v) = .int v) (hv : v = w) (hS : va_S (fun _ => False) s.heap s.heap locs) (hdg : decode cc pc = .ok (.ireturn, 1)) :
    W p l e R s m args below meth c s.heap locs 0 0 (MQ below (qRi w s.heap) args s 0 0 (fun _ => False)) (F0 m pc ls [.int v]) :=
  W.zret hx hb hr hn (fun t ht hW => ⟨⟨v, (), rfl, hv, ht⟩, by rw [ht]; exact Nat.le_refl _, fun q _ _ => by rw [ht]⟩) hS.2.2 hdg hlocks
theorem rt_l (hx : p.tables.exec = Jvm.exec) (hb : c.code = cc) (hr : meth.sig.returnType = some .long) (hlocks : meth.locks = false) {v w : Int64} (hv : v = w) (hS : va_S (fun _ => False) s.heap s.heap locs) (hdg : decode cc pc = .ok (.lreturn, 1)) :
    W p l e R s m args below meth c s.heap locs 0 0 (MQ below (qRl w s.heap) args s 0 0 (fun _ => False)) (F0 m pc ls [.long v]) :=
  W.lret hx hb hr (fun t ht hW => ⟨⟨v, (), rfl, hv, ht⟩, by rw [ht]; exact Nat.le_refl _, fun q _ _ => by rw [ht]⟩) hS.2.2 hdg hlocks
end KB
