/-! THE WORLD WHILE IT IS BUILT: a pool alone, u = (addresses, cells) -/
abbrev pS : Type := List Nat × (Nat → va_E)
def pH (D : va_G) (A : Nat → Prop) (u : pS) (H : Heap) : Prop := va_P D vwCl (va_pl u.1 u.2) H ∧ va_D A (va_pl u.1 u.2)
def gI (D : va_G) (cy : Nat → ClassId) (A : Nat → Prop) (t : State) : Prop := va_K D vwCl (gTy cy) t ∧ (∀ q, t.heap.size ≤ q → A q) ∧ (va_AO RX3 t ∧ va_AO RX7 t ∧ va_AO RX1 t) ∧ (va_Nw (.methodLinkNest RX11 9 yX8_init RX11) t ∧ va_Nw (.methodLinkNest RX11 34 yX9_init RX11) t ∧ va_Nw (.methodLinkNest RX11 68 yX2_init RX11) t)
def pB (D : va_G) (cy : Nat → ClassId) (A : Nat → Prop) (u : pS) (t : State) : Prop := pH D A u t.heap ∧ gI D cy A t
theorem gI.same {D : va_G} {cy : Nat → ClassId} {A : Nat → Prop} {U V : State} (hh : V.heap = U.heap) (hv : U.vm = V.vm) (h : gI D cy A U) : gI D cy A V := by
  have hA : U.vm.Alike V.vm := by rw [hv]; exact Vm.Alike.refl _
  obtain ⟨h2, h3, ⟨b1, b2, b3⟩, c1, c2, c3⟩ := h
  exact ⟨va_K.moved hA h2, by rw [hh]; exact h3, ⟨b1.moved hA, b2.moved hA, b3.moved hA⟩, c1.same rfl hv, c2.same rfl hv, c3.same rfl hv⟩
theorem pB.mk' {D : va_G} {cy : Nat → ClassId} {A : Nat → Prop} {u : pS} {s t : State} {H : Heap} {locs : List Loc} (hG : pH D A u H) (hI : gI D cy A s) (hS : va_S A s.heap H locs) (ht : t.heap = H) (hW : s.WarmedH t.vm) : pB D cy A u t := by
  obtain ⟨h2, h3, ⟨b1, b2, b3⟩, c1, c2, c3⟩ := hI
  exact ⟨by rw [ht]; exact hG, va_K.moved hW.alike h2, fun q hq => h3 q (by rw [ht] at hq; exact Nat.le_trans hS.1 hq), ⟨b1.moved hW.alike, b2.moved hW.alike, b3.moved hW.alike⟩, c1.warmM hW, c2.warmM hW, c3.warmM hW⟩
theorem p_blind {D : va_G} {cy : Nat → ClassId} {A : Nat → Prop} {u : pS} {av : List Value} : FrameBlind (va_Pc av (pB D cy A u)) := fun a U g mk q => ⟨q.1, q.2.1, q.2.2.same rfl rfl⟩
theorem cyI {D : va_G} {cy : Nat → ClassId} {s : State} {cA : ClassId} (hK : va_K D vwCl (gTy cy) s) (hK9 : va_K D vwCl (gTy cy ++ [(cA, .int)]) s) : cA = cy 0 := Option.some.inj ((va_nm_int (hK9.2 7 (cA, .int) rfl).2).symm.trans (va_nm_int (hK.2 0 (cy 0, .int) rfl).2))
theorem cyZ {D : va_G} {cy : Nat → ClassId} {s : State} {cA : ClassId} (hK : va_K D vwCl (gTy cy) s) (hK9 : va_K D vwCl (gTy cy ++ [(cA, .boolean)]) s) : cA = cy 2 := Option.some.inj ((va_nm_boolean (hK9.2 7 (cA, .boolean) rfl).2).symm.trans (va_nm_boolean (hK.2 2 (cy 2, .boolean) rfl).2))
theorem cyQ {D : va_G} {cy : Nat → ClassId} {s : State} {cA : ClassId} {C : String} {k : Nat} (hK : va_K D vwCl (gTy cy) s) (hk : (gTy cy)[k]? = some (cy k, .object C)) (hK9 : va_K D vwCl (gTy cy ++ [(cA, .object C)]) s) : cA = cy k := by
  obtain ⟨_, _, _, _, _, h1⟩ := (hK9.2 7 (cA, .object C) rfl).2
  obtain ⟨_, _, _, _, _, h2⟩ := (hK.2 k (cy k, .object C) hk).2
  exact Option.some.inj (h1.symm.trans h2)
section PR
variable {p : Program} {l : Launch} {e : Env} {R : Room} {s : State} {m : MethodId} {args : Array Value} {below : List Frame} {meth : Method} {c : Code} {H : Heap} {locs : List Loc} {cells slots : Nat} {Q : State → Prop}
variable {cc : ByteArray} {pc : Nat} {ls : Array Slot} {rest : List Value} {D : va_G} {cy : Nat → ClassId} {A : Nat → Prop} {u : pS} {H0 : Heap}
theorem p_preS (hG : pH D A u H) (hI : gI D cy A s) (hS : va_S A s.heap H locs) {As : List Value} : PreS s H (va_Pc As (pB D cy A u)) As := ⟨p_blind, fun U hU hW => ⟨rfl, pB.mk' hG hI hS hU hW⟩⟩
theorem p_push {q : Nat} {e : va_E} (hP : va_P D vwCl (va_pl u.1 u.2 ++ [(q, e)]) H) (hD : va_D A (va_pl u.1 u.2 ++ [(q, e)])) : ∃ u' : pS, u'.1 = u.1 ++ [q] ∧ u'.2 q = e ∧ (∀ x, x ∈ u.1 → u'.2 x = u.2 x) ∧ q ∉ u.1 ∧ pH D A u' H := by
  have hq : q ∉ u.1 := va_pl_fresh2 (X := []) hD
  refine ⟨(u.1 ++ [q], va_up u.2 q e), rfl, up_s _ _ _, fun x hx => up_n _ _ (fun h => hq (h ▸ hx)), hq, ?_⟩
  show va_P D vwCl (va_pl (u.1 ++ [q]) (va_up u.2 q e)) H ∧ va_D A (va_pl (u.1 ++ [q]) (va_up u.2 q e))
  rw [← va_pl_push hq]
  exact ⟨hP, hD⟩
theorem p_set {a k : Nat} {e : va_E} {H1 : Heap} (hG : pH D A u H) (ha : a ∈ u.1) (hk : (va_pl u.1 u.2)[k]? = some (a, u.2 a)) (hP : va_P D vwCl ((va_pl u.1 u.2).set k (a, e)) H1) (hD : va_D A ((va_pl u.1 u.2).set k (a, e))) : ∃ u' : pS, u'.1 = u.1 ∧ u'.2 a = e ∧ (∀ x, x ≠ a → u'.2 x = u.2 x) ∧ pH D A u' H1 := by
  refine ⟨(u.1, va_up u.2 a e), rfl, up_s _ _ _, fun x hx => up_n _ _ hx, ?_⟩
  have h := va_pl_set (X := []) (e := e) hG.2 ha hk
  show va_P D vwCl (va_pl u.1 (va_up u.2 a e)) H1 ∧ va_D A (va_pl u.1 (va_up u.2 a e))
  have h2 : (va_pl u.1 u.2).set k (a, e) = va_pl u.1 (va_up u.2 a e) := h
  rw [← h2]
  exact ⟨hP, hD⟩
theorem p_get (D : va_G) (u : pS) {a : Nat} (ha : a ∈ u.1) : ∃ k : Nat, (va_pl u.1 u.2)[k]? = some (a, u.2 a) := va_pl_get (X := []) ha
theorem p_newI (hx : p.tables.exec = Jvm.exec) (hb : c.code = cc) {M : Nat} (harr : (Cond.arrayClass (newarray.typeOf .int)).before args s = true) (hI : gI D cy A s) (hG : pH D A u H) (hS : va_S A s.heap H locs) {z : Int} (h1 : 0 ≤ z) (h2 : z ≤ M) (h3 : M ≤ 2000) (hcells : cells + 1 ≤ R.cells) (hslots : slots + M ≤ R.slots) (hdg : decode cc pc = .ok (.newarray .int, 2)) (kk : ∀ (q : Nat) (u' : pS) (H1 : Heap), u'.1 = u.1 ++ [q] → u'.2 q = .inl (cy 0, z.toNat, .inl (fun _ => zI 0)) → (∀ x, x ∈ u.1 → u'.2 x = u.2 x) → q ∉ u.1 → pH D A u' H1 → va_S A s.heap H1 locs → W p l e R s m args below meth c H1 locs (cells + 1) (slots + M) Q (F0 m (pc + 2) ls (.ref q :: rest))) : W p l e R s m args below meth c H locs cells slots Q (F0 m pc ls (.int (zI z) :: rest)) := by
  have hc9 : componentBytes .int ≤ 8 := by decide
  have hb9 : z.toNat * componentBytes .int ≤ 536870912 := Nat.le_trans (Nat.mul_le_mul (show z.toNat ≤ 2000 by omega) hc9) (by decide)
  refine va_newa (ty := .int) (a0 := (z.toNat, .inl (fun _ => zI 0))) (N' := z.toNat) hx hb harr rfl hI.1 hG.1 hG.2 hS hI.2.1 (fun _ => rfl) (by rw [show (0 : Int32) = zI 0 from rfl, zI_lt (by omega) (by omega) (by omega) (by omega)]; omega) (zI_clamp h1 (by omega)) hb9 hcells (Nat.le_trans (by omega) hslots) hdg (fun q cA H1 hK9 hP hD hS => ?_)
  have e3 := cyI hI.1 hK9
  rw [e3] at hP hD
  obtain ⟨u', a1, a2, a3, a4, a5⟩ := p_push hP hD
  exact W.widen (k := cells + 1) (n := slots + M) (Nat.le_refl _) (by omega) (kk q u' H1 a1 a2 a3 a4 a5 hS)
theorem p_newZ (hx : p.tables.exec = Jvm.exec) (hb : c.code = cc) {M : Nat} (harr : (Cond.arrayClass (newarray.typeOf .boolean)).before args s = true) (hI : gI D cy A s) (hG : pH D A u H) (hS : va_S A s.heap H locs) {z : Int} (h1 : 0 ≤ z) (h2 : z ≤ M) (h3 : M ≤ 2000) (hcells : cells + 1 ≤ R.cells) (hslots : slots + M ≤ R.slots) (hdg : decode cc pc = .ok (.newarray .boolean, 2)) (kk : ∀ (q : Nat) (u' : pS) (H1 : Heap), u'.1 = u.1 ++ [q] → u'.2 q = .inl (cy 2, z.toNat, .inl (fun _ => zI 0)) → (∀ x, x ∈ u.1 → u'.2 x = u.2 x) → q ∉ u.1 → pH D A u' H1 → va_S A s.heap H1 locs → W p l e R s m args below meth c H1 locs (cells + 1) (slots + M) Q (F0 m (pc + 2) ls (.ref q :: rest))) : W p l e R s m args below meth c H locs cells slots Q (F0 m pc ls (.int (zI z) :: rest)) := by
  have hc9 : componentBytes .boolean ≤ 8 := by decide
  have hb9 : z.toNat * componentBytes .boolean ≤ 536870912 := Nat.le_trans (Nat.mul_le_mul (show z.toNat ≤ 2000 by omega) hc9) (by decide)
  refine va_newa (ty := .boolean) (a0 := (z.toNat, .inl (fun _ => zI 0))) (N' := z.toNat) hx hb harr rfl hI.1 hG.1 hG.2 hS hI.2.1 (fun _ => rfl) (by rw [show (0 : Int32) = zI 0 from rfl, zI_lt (by omega) (by omega) (by omega) (by omega)]; omega) (zI_clamp h1 (by omega)) hb9 hcells (Nat.le_trans (by omega) hslots) hdg (fun q cA H1 hK9 hP hD hS => ?_)
  have e3 := cyZ hI.1 hK9
  rw [e3] at hP hD
  obtain ⟨u', a1, a2, a3, a4, a5⟩ := p_push hP hD
  exact W.widen (k := cells + 1) (n := slots + M) (Nat.le_refl _) (by omega) (kk q u' H1 a1 a2 a3 a4 a5 hS)
theorem p_newQ (hx : p.tables.exec = Jvm.exec) (hb : c.code = cc) {own C : String} {index k M : Nat} (hown : s.vm.findClass own = some m.cls) (hclink : (Cond.classLink own index C).before args s = true) (hover : va_AO C s) (hk : (gTy cy)[k]? = some (cy k, .object C)) (hI : gI D cy A s) (hG : pH D A u H) (hS : va_S A s.heap H locs) {z : Int} (h1 : 0 ≤ z) (h2 : z ≤ M) (h3 : M ≤ 2000) (hcells : cells + 1 ≤ R.cells) (hslots : slots + M ≤ R.slots) (hdg : decode cc pc = .ok (.anewarray index, 3)) (kk : ∀ (q : Nat) (u' : pS) (H1 : Heap), u'.1 = u.1 ++ [q] → u'.2 q = .inl (cy k, z.toNat, .inr (.inr (.inr (.inr (fun _ => none))))) → (∀ x, x ∈ u.1 → u'.2 x = u.2 x) → q ∉ u.1 → pH D A u' H1 → va_S A s.heap H1 locs → W p l e R s m args below meth c H1 locs (cells + 1) (slots + M) Q (F0 m (pc + 3) ls (.ref q :: rest))) : W p l e R s m args below meth c H locs cells slots Q (F0 m pc ls (.int (zI z) :: rest)) := by
  have hb9 : z.toNat * 4 ≤ 536870912 := Nat.le_trans (Nat.mul_le_mul (show z.toNat ≤ 2000 by omega) (Nat.le_refl 4)) (by decide)
  refine va_newq (C := C) (N' := z.toNat) hx hb hown hclink hover hI.1 hG.1 hG.2 hS hI.2.1 (by rw [show (0 : Int32) = zI 0 from rfl, zI_lt (by omega) (by omega) (by omega) (by omega)]; omega) (zI_clamp h1 (by omega)) hb9 hcells (Nat.le_trans (by omega) hslots) hdg (fun q cA H1 hK9 hP hD hS => ?_)
  have e3 := cyQ (k := k) hI.1 hk hK9
  rw [e3] at hP hD
  obtain ⟨u', a1, a2, a3, a4, a5⟩ := p_push hP hD
  exact W.widen (k := cells + 1) (n := slots + M) (Nat.le_refl _) (by omega) (kk q u' H1 a1 a2 a3 a4 a5 hS)
variable {st0 : List Value} {a : Array Value} {mc ms : Nat}
theorem p_callv {post : pS → Prop} (hr : va_Run p l e R s m args below meth c H locs cells slots mc ms (F0 m pc ls st0) rest (va_Qv post (pB D cy A) A a) A) (hS : va_S A H0 H locs) (kk : ∀ (u' : pS) (H1 : Heap) (locs1 : List Loc), post u' → pH D A u' H1 → va_S A H0 H1 locs1 → W p l e R s m args below meth c H1 locs1 (cells + mc) (slots + ms) Q (F0 m (pc + 3) ls rest)) : W p l e R s m args below meth c H locs cells slots Q (F0 m pc ls st0) :=
  va_callv hr hS (fun _ _ h => h) (fun _ h => h) (fun u' t H1 locs1 ht _ hp hB _ _ hS => kk u' H1 locs1 hp (by rw [← ht]; exact hB.1) hS)
end PR
