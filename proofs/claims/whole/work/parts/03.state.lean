/-! THE STATE: 65 cells that are made once (class, reference, the law's long[1]) and a pool of those that come later; u = (ints, int rows, reference rows, pool's addresses, pool's cells) -/
abbrev gS : Type := (Nat → Int) × (Nat → Nat → Int) × (Nat → Nat → Option Nat) × List Nat × (Nat → va_E)
def gObj (ad : Nat → Nat) (I : Nat → Int) (k : Nat) : Nat × List Value := match k with
  | 0 => (10, [.ref (ad 1), .ref (ad 12), .int (zI (I 0)), .int (zI (I 1)), .int (zI (I 2)), .ref (ad 2), .ref (ad 3), .ref (ad 21), .int (zI (I 3)), .ref (ad 4), .ref (ad 5), .ref (ad 6), .ref (ad 7), .ref (ad 30)])
  | 1 => (7, [.ref (ad 9), .int (zI (I 4)), .ref (ad 10), .ref (ad 11)])
  | 2 => (8, [.int (zI (I 5)), .int (zI (I 6)), .int (zI (I 7)), .ref (ad 13), .ref (ad 14), .ref (ad 15), .ref (ad 16), .int (zI (I 8)), .int (zI (I 9))])
  | 3 => (8, [.int (zI (I 10)), .int (zI (I 11)), .int (zI (I 12)), .ref (ad 17), .ref (ad 18), .ref (ad 19), .ref (ad 20), .int (zI (I 13)), .int (zI (I 14))])
  | 4 => (9, [.ref (ad 22), .int (zI (I 15))])
  | 5 => (9, [.ref (ad 23), .int (zI (I 16))])
  | 6 => (9, [.ref (ad 24), .int (zI (I 17))])
  | 7 => (1, [.int (zI (I 18)), .ref (ad 25), .ref (ad 26), .ref (ad 27), .ref (ad 28), .ref (ad 29), .int (zI (I 19))])
  | _ => (11, [.int (zI (I 20)), .ref (ad 31), .ref (ad 32), .ref (ad 33), .int (zI (I 21)), .int (zI (I 22)), .int (zI (I 23)), .ref (ad 34), .ref (ad 35), .ref (ad 36), .ref (ad 37), .ref (ad 38), .ref (ad 39), .ref (ad 40), .ref (ad 41), .int (zI (I 24)), .int (zI (I 25)), .ref (ad 42), .ref (ad 43), .ref (ad 44), .ref (ad 45), .int (zI (I 26)), .ref (ad 46), .int (zI (I 27)), .ref (ad 47), .int (zI (I 28)), .ref (ad 48), .ref (ad 49), .ref (ad 50), .ref (ad 51), .ref (ad 52), .ref (ad 53), .ref (ad 54), .ref (ad 55), .ref (ad 56), .ref (ad 57), .ref (ad 58), .ref (ad 59), .ref (ad 60), .ref (ad 61), .ref (ad 62), .ref (ad 63)])
def gLen (k : Nat) : Nat := match k with
  | 9 => 288
  | 10 => 36
  | 11 => 36
  | 12 => 10
  | 13 => 101
  | 14 => 101
  | 15 => 100
  | 16 => 101
  | 17 => 101
  | 18 => 101
  | 19 => 100
  | 20 => 101
  | 21 => 8
  | 22 => 60
  | 23 => 6
  | 24 => 40
  | 25 => 10
  | 26 => 10
  | 27 => 10
  | 28 => 10
  | 29 => 16
  | 30 => 8
  | 31 => 288
  | 32 => 36
  | 33 => 36
  | 34 => 10
  | 35 => 10
  | 36 => 10
  | 37 => 10
  | 38 => 202
  | 39 => 202
  | 40 => 2
  | 41 => 2
  | 42 => 8
  | 43 => 8
  | 44 => 8
  | 45 => 8
  | 46 => 60
  | 47 => 6
  | 48 => 40
  | 49 => 16
  | 50 => 10
  | 51 => 10
  | 52 => 10
  | 53 => 16
  | 54 => 10
  | 55 => 16
  | 56 => 16
  | 57 => 16
  | 58 => 8
  | 59 => 8
  | 60 => 8
  | 61 => 8
  | 62 => 8
  | 63 => 1616
  | _ => 1
def gTk (k : Nat) : Nat := match k with
  | 9 => 2
  | 25 => 2
  | 31 => 2
  | 49 => 2
  | 54 => 2
  | 55 => 2
  | _ => 0
def gCell (cy : Nat → ClassId) (ad : Nat → Nat) (jf : Nat → Int64) (u : gS) (k : Nat) : va_E :=
  if k < 9 then .inr (gObj ad u.1 k) else if k = 12 then .inl (cy 4, 10, .inr (.inr (.inr (.inr (u.2.2.1 12))))) else if k = 21 then .inl (cy 5, 8, .inr (.inr (.inr (.inr (u.2.2.1 21))))) else if k = 30 then .inl (cy 3, 8, .inr (.inr (.inr (.inr (u.2.2.1 30))))) else if k = 64 then .inl (cy 6, 1, .inr (.inl jf)) else .inl (cy (gTk k), gLen k, .inl (fun j => zI (u.2.1 k j)))
def gFx (cy : Nat → ClassId) (ad : Nat → Nat) (jf : Nat → Int64) (u : gS) : va_W := (List.range 65).map (fun k => (ad k, gCell cy ad jf u k))
def gW (cy : Nat → ClassId) (ad : Nat → Nat) (jf : Nat → Int64) (u : gS) : va_W := gFx cy ad jf u ++ va_pl u.2.2.2.1 u.2.2.2.2
def gTy (cy : Nat → ClassId) : List (ClassId × FieldType) := [(cy 0, .int), (cy 1, .short), (cy 2, .boolean), (cy 3, .object RX1), (cy 4, .object RX3), (cy 5, .object RX7), (cy 6, .long)]
abbrev sI (u : gS) (i : Nat) (v : Int) : gS := (va_up u.1 i v, u.2.1, u.2.2.1, u.2.2.2.1, u.2.2.2.2)
abbrev sF (u : gS) (k : Nat) (f : Nat → Int) : gS := (u.1, va_up u.2.1 k f, u.2.2.1, u.2.2.2.1, u.2.2.2.2)
abbrev sR (u : gS) (k : Nat) (f : Nat → Option Nat) : gS := (u.1, u.2.1, va_up u.2.2.1 k f, u.2.2.2.1, u.2.2.2.2)
abbrev sP (u : gS) (L : List Nat) (E : Nat → va_E) : gS := (u.1, u.2.1, u.2.2.1, L, E)
def aimE (j : Nat) : Int := match j with | 0 => 1 | 1 => 1 | 2 => 0 | 3 => -1 | 4 => -1 | 5 => -1 | 6 => 0 | _ => 1
def aimN (j : Nat) : Int := match j with | 0 => 0 | 1 => 1 | 2 => 1 | 3 => 1 | 4 => 0 | 5 => -1 | 6 => -1 | _ => -1
def gSt (A : Nat → Prop) (U : State) (H : Heap) : Prop := (∃ t, va_Z RX11 "AIM_EAST" "[I" (.ref t) A U H ∧ va_T .int t 8 (fun j => .int (zI (aimE j))) A U H) ∧ ∃ t, va_Z RX11 "AIM_NORTH" "[I" (.ref t) A U H ∧ va_T .int t 8 (fun j => .int (zI (aimN j))) A U H
theorem gSt.moved {A : Nat → Prop} {U V : State} {H : Heap} (hvm : U.vm.Alike V.vm) (h : gSt A U H) : gSt A V H := by
  obtain ⟨⟨t, a, b⟩, ⟨t2, a2, b2⟩⟩ := h
  exact ⟨⟨t, a.moved hvm, b.moved hvm⟩, ⟨t2, a2.moved hvm, b2.moved hvm⟩⟩
theorem gSt.kept {A : Nat → Prop} {U : State} {H H1 : Heap} (h : gSt A U H) (hq : ∀ a : Nat, a < H.size → ¬ A a → H1[a]? = H[a]?) : gSt A U H1 := by
  obtain ⟨⟨t, a, b⟩, ⟨t2, a2, b2⟩⟩ := h
  exact ⟨⟨t, a.kept hq, b.kept hq⟩, ⟨t2, a2.kept hq, b2.kept hq⟩⟩
def gH (D : va_G) (cy : Nat → ClassId) (ad : Nat → Nat) (jf : Nat → Int64) (A : Nat → Prop) (u : gS) (H : Heap) : Prop := va_P D vwCl (gW cy ad jf u) H ∧ va_D A (gW cy ad jf u)
def gN (t : State) : Prop := (va_Nw (.methodLinkNest RX8 26 yX11_isPlace RX11) t ∧ va_Nw (.methodLinkNest RX9 74 yX11_tideIndex RX11) t ∧ va_Nw (.methodLinkNest RX9 89 yX11_isPlace RX11) t) ∧ (va_Nw (.fieldLinkNest RX9 77 RX11 "AIM_EAST" "[I" RX11) t ∧ va_Nw (.fieldLinkNest RX9 83 RX11 "AIM_NORTH" "[I" RX11) t) ∧ (va_Nw (.castable RX0 RX3) t ∧ va_Nw (.castable RX4 RX3) t ∧ va_Nw (.castable RX6 RX3) t) ∧ (va_Nw (.castable RX0 RX1) t ∧ va_Nw (.castable RX3 RX1) t ∧ va_Nw (.castable RX4 RX1) t ∧ va_Nw (.castable RX6 RX1) t ∧ va_Nw (.castable RX5 RX1) t) ∧ (va_Nc RX5 RX3 t ∧ va_Nc RX0 RX5 t ∧ va_Nc RX3 RX5 t ∧ va_Nc RX4 RX5 t ∧ va_Nc RX6 RX5 t)
theorem gN.warm {s t : State} (hW : s.WarmedH t.vm) (h : gN s) : gN t := by
  obtain ⟨⟨a1, a2, a3⟩, ⟨b1, b2⟩, ⟨c1, c2, c3⟩, ⟨d1, d2, d3, d4, d5⟩, ⟨e1, e2, e3, e4, e5⟩⟩ := h
  exact ⟨⟨a1.warmM hW, a2.warmM hW, a3.warmM hW⟩, ⟨b1.warmF hW, b2.warmF hW⟩, ⟨c1.warmC hW, c2.warmC hW, c3.warmC hW⟩, ⟨d1.warmC hW, d2.warmC hW, d3.warmC hW, d4.warmC hW, d5.warmC hW⟩, ⟨e1.moved hW.alike, e2.moved hW.alike, e3.moved hW.alike, e4.moved hW.alike, e5.moved hW.alike⟩⟩
theorem gN.same {s t : State} (hv : s.vm = t.vm) (h : gN s) : gN t := by
  obtain ⟨⟨a1, a2, a3⟩, ⟨b1, b2⟩, ⟨c1, c2, c3⟩, ⟨d1, d2, d3, d4, d5⟩, ⟨e1, e2, e3, e4, e5⟩⟩ := h
  have hA : s.vm.Alike t.vm := by rw [hv]; exact Vm.Alike.refl _
  exact ⟨⟨a1.same rfl hv, a2.same rfl hv, a3.same rfl hv⟩, ⟨b1.same rfl hv, b2.same rfl hv⟩, ⟨c1.same rfl hv, c2.same rfl hv, c3.same rfl hv⟩, ⟨d1.same rfl hv, d2.same rfl hv, d3.same rfl hv, d4.same rfl hv, d5.same rfl hv⟩, ⟨e1.moved hA, e2.moved hA, e3.moved hA, e4.moved hA, e5.moved hA⟩⟩
/-- what stands through a method: the classes, what may change, the statics, the links within the nest -/
def gC (D : va_G) (cy : Nat → ClassId) (A : Nat → Prop) (t : State) : Prop := va_K D vwCl (gTy cy) t ∧ (∀ q, t.heap.size ≤ q → A q) ∧ gSt A t t.heap ∧ gN t
def gB (D : va_G) (cy : Nat → ClassId) (ad : Nat → Nat) (jf : Nat → Int64) (A : Nat → Prop) (u : gS) (t : State) : Prop := gH D cy ad jf A u t.heap ∧ gC D cy A t
theorem gFx_len (cy : Nat → ClassId) (ad : Nat → Nat) (jf : Nat → Int64) (u : gS) : (gFx cy ad jf u).length = 65 := by simp [gFx]
theorem g_at (cy : Nat → ClassId) (ad : Nat → Nat) (jf : Nat → Int64) (u : gS) {k : Nat} (hk : k < 65) : (gW cy ad jf u)[k]? = some (ad k, gCell cy ad jf u k) := by
  have h1 : k < (gFx cy ad jf u).length := by rw [gFx_len]; exact hk
  rw [gW, List.getElem?_append_left h1]
  simp [gFx, hk]
theorem g_cell {cy : Nat → ClassId} {ad : Nat → Nat} {jf : Nat → Int64} {u : gS} {k : Nat} {e : va_E} (hk : k < 65) (he : gCell cy ad jf u k = e) : (gW cy ad jf u)[k]? = some (ad k, e) := by
  rw [g_at cy ad jf u hk, he]
theorem g_set {cy : Nat → ClassId} {ad : Nat → Nat} {jf : Nat → Int64} {u u' : gS} {k : Nat} {e : va_E} (hk : k < 65) (he : gCell cy ad jf u' k = e) (ho : ∀ j, j < 65 → j ≠ k → gCell cy ad jf u' j = gCell cy ad jf u j) (hL : u'.2.2.2.1 = u.2.2.2.1) (hE : u'.2.2.2.2 = u.2.2.2.2) : (gW cy ad jf u).set k (ad k, e) = gW cy ad jf u' := by
  have h1 : k < (gFx cy ad jf u).length := by rw [gFx_len]; exact hk
  have h2 : (gFx cy ad jf u).set k (ad k, e) = gFx cy ad jf u' := by
    apply List.ext_getElem?
    intro i
    rw [List.getElem?_set]
    by_cases hi : k = i
    · subst hi
      simp [gFx, hk, he]
    · by_cases h65 : i < 65
      · simp [gFx, hi, h65, ho i h65 (fun h => hi h.symm)]
      · simp [gFx, hi, h65]
  rw [gW, gW, hL, hE, List.set_append_left k _ h1, h2]
theorem gCell_F {cy : Nat → ClassId} {ad : Nat → Nat} {jf : Nat → Int64} {u : gS} {k : Nat} {f : Nat → Int} : ∀ j, j < 65 → j ≠ k → gCell cy ad jf (sF u k f) j = gCell cy ad jf u j := by
  intro j _ hj
  simp only [gCell, va_up, if_neg hj]
theorem gCell_R {cy : Nat → ClassId} {ad : Nat → Nat} {jf : Nat → Int64} {u : gS} {k : Nat} {f : Nat → Option Nat} (hk : k = 12 ∨ k = 21 ∨ k = 30) : ∀ j, j < 65 → j ≠ k → gCell cy ad jf (sR u k f) j = gCell cy ad jf u j := by
  intro j _ hj
  unfold gCell
  rcases hk with rfl | rfl | rfl <;> simp [va_up, hj]
theorem gCell_O {cy : Nat → ClassId} {ad : Nat → Nat} {jf : Nat → Int64} {u : gS} {i k : Nat} {v : Int} (h : ∀ j, j < 9 → j ≠ k → gObj ad (va_up u.1 i v) j = gObj ad u.1 j) : ∀ j, j < 65 → j ≠ k → gCell cy ad jf (sI u i v) j = gCell cy ad jf u j := by
  intro j _ hj
  by_cases h9 : j < 9
  · simp only [gCell, if_pos h9]
    rw [h j h9 hj]
  · simp only [gCell, if_neg h9]
theorem gC.same {D : va_G} {cy : Nat → ClassId} {A : Nat → Prop} {U V : State} (hh : V.heap = U.heap) (hv : U.vm = V.vm) (h : gC D cy A U) : gC D cy A V := by
  obtain ⟨h2, h3, h4, h5⟩ := h
  have hA : U.vm.Alike V.vm := by rw [hv]; exact Vm.Alike.refl _
  exact ⟨va_K.moved hA h2, by rw [hh]; exact h3, by rw [hh]; exact h4.moved hA, h5.same hv⟩
/-- the world at a state t whose heap is H: at a call, and at a method's end -/
theorem gB.mk' {D : va_G} {cy : Nat → ClassId} {ad : Nat → Nat} {jf : Nat → Int64} {A : Nat → Prop} {u : gS} {s t : State} {H : Heap} {locs : List Loc} (hG : gH D cy ad jf A u H) (hC : gC D cy A s) (hS : va_S A s.heap H locs) (ht : t.heap = H) (hW : s.WarmedH t.vm) : gB D cy ad jf A u t := by
  obtain ⟨hK, hA, hT, hN⟩ := hC
  refine ⟨by rw [ht]; exact hG, va_K.moved hW.alike hK, fun q hq => hA q (by rw [ht] at hq; exact Nat.le_trans hS.1 hq), ?_, hN.warm hW⟩
  rw [ht]
  exact (hT.kept hS.2.1).moved hW.alike
theorem g_blind {D : va_G} {cy : Nat → ClassId} {ad : Nat → Nat} {jf : Nat → Int64} {A : Nat → Prop} {u : gS} {av : List Value} : FrameBlind (va_Pc av (gB D cy ad jf A u)) := fun a U g mk q => ⟨q.1, q.2.1, q.2.2.same rfl rfl⟩
section GW
variable {p : Program} {l : Launch} {e : Env} {R : Room} {s : State} {m : MethodId} {args : Array Value} {below : List Frame} {meth : Method} {c : Code} {H : Heap} {locs : List Loc} {cells slots : Nat} {Q : State → Prop}
variable {cc : ByteArray} {pc : Nat} {ls : Array Slot} {rest : List Value} {D : va_G} {cy : Nat → ClassId} {ad : Nat → Nat} {jf : Nat → Int64} {A : Nat → Prop} {u : gS} {H0 : Heap}
theorem g_get (hx : p.tables.exec = Jvm.exec) (hb : c.code = cc) {own ref C : String} {T : u_T} {N ci index : Nat} {Ts : List Cond} (hts : ∀ w ∈ Ts, w.before args s = true) (hin : ∀ w ∈ u_ws C T N, w ∈ Ts) (hown : s.vm.findClass own = some m.cls) (hK : va_K D vwCl (gTy cy) s) (hG : gH D cy ad jf A u H) (k : Nat) (hk : k < 65) {fs : List Value} (he : gCell cy ad jf u k = .inr (ci, fs)) (hc : vwCl[ci]? = some (C, T, N)) (j : Nat) (hj : j < N) (hlink : (Cond.fieldLink own index ref (T j).2.1 (T j).2.2.1).before args s = true) (hsame : ∀ x, s.fieldFound? (T j).1 (T j).2.1 (T j).2.2.1 = some x → s.fieldFound? ref (T j).2.1 (T j).2.2.1 = some x) {v : Value} (hv : fs[j]? = some v) (hdg : decode cc pc = .ok (.getfield index, 3)) (kk : W p l e R s m args below meth c H locs cells slots Q (F0 m (pc + 3) ls (v :: rest))) : W p l e R s m args below meth c H locs cells slots Q (F0 m pc ls (.ref (ad k) :: rest)) :=
  va_get hx hb hts hin hown hK hG.1 k (g_cell hk he) hc j hj hlink hsame hv hdg kk
theorem g_getN (hx : p.tables.exec = Jvm.exec) (hb : c.code = cc) {own ref C host : String} {T : u_T} {N ci index : Nat} {Ts : List Cond} (hts : ∀ w ∈ Ts, w.before args s = true) (hin : ∀ w ∈ u_ws C T N, w ∈ Ts) (hown : s.vm.findClass own = some m.cls) (hK : va_K D vwCl (gTy cy) s) (hG : gH D cy ad jf A u H) (k : Nat) (hk : k < 65) {fs : List Value} (he : gCell cy ad jf u k = .inr (ci, fs)) (hc : vwCl[ci]? = some (C, T, N)) (j : Nat) (hj : j < N) (hlink : (Cond.fieldLinkNest own index ref (T j).2.1 (T j).2.2.1 host).before args s = true) (hsame : ∀ x, s.fieldFound? (T j).1 (T j).2.1 (T j).2.2.1 = some x → s.fieldFound? ref (T j).2.1 (T j).2.2.1 = some x) {v : Value} (hv : fs[j]? = some v) (hdg : decode cc pc = .ok (.getfield index, 3)) (kk : W p l e R s m args below meth c H locs cells slots Q (F0 m (pc + 3) ls (v :: rest))) : W p l e R s m args below meth c H locs cells slots Q (F0 m pc ls (.ref (ad k) :: rest)) :=
  va_getN hx hb hts hin hown hK hG.1 k (g_cell hk he) hc j hj hlink hsame hv hdg kk
theorem g_put (hx : p.tables.exec = Jvm.exec) (hb : c.code = cc) {own ref C : String} {T : u_T} {N ci index : Nat} {Ts : List Cond} (hts : ∀ w ∈ Ts, w.before args s = true) (hin : ∀ w ∈ u_ws C T N, w ∈ Ts) (ty0 : Nat → FieldType) (hty : ∀ k, k < N → parseFieldDescriptor (T k).2.2.1 = some (ty0 k)) (hnm : ∀ a, a < N → ∀ b, b < N → a ≠ b → (T a).2.1 ≠ (T b).2.1) (hown : s.vm.findClass own = some m.cls) (hK : va_K D vwCl (gTy cy) s) (hG : gH D cy ad jf A u H) (hS : va_S A H0 H locs) (k : Nat) (hk : k < 65) {fs : List Value} (he : gCell cy ad jf u k = .inr (ci, fs)) (hc : vwCl[ci]? = some (C, T, N)) (j i : Nat) (hj : j < N) (hlink : (Cond.fieldLink own index ref (T j).2.1 (T j).2.2.1).before args s = true) (hsame : ∀ x, s.fieldFound? (T j).1 (T j).2.1 (T j).2.2.1 = some x → s.fieldFound? ref (T j).2.1 (T j).2.2.1 = some x) (hfin : (T j).2.2.2 = false) {ty : FieldType} {v : Int} (hd : parseFieldDescriptor (T j).2.2.1 = some ty) (hn : narrow ty (.int (zI v)) = .int (zI v)) (hfit : fits ty (.int (zI v)) = true) (hl : j < fs.length) (he' : gCell cy ad jf (sI u i v) k = .inr (ci, fs.set j (.int (zI v)))) (ho : ∀ j, j < 9 → j ≠ k → gObj ad (va_up u.1 i v) j = gObj ad u.1 j) (hdg : decode cc pc = .ok (.putfield index, 3)) (kk : ∀ (u' : gS) (H1 : Heap) (locs1 : List Loc), u' = sI u i v → gH D cy ad jf A u' H1 → va_S A H0 H1 locs1 → W p l e R s m args below meth c H1 locs1 cells slots Q (F0 m (pc + 3) ls rest)) : W p l e R s m args below meth c H locs cells slots Q (F0 m pc ls (.int (zI v) :: .ref (ad k) :: rest)) := by
  refine va_put hx hb hts hin ty0 hty hnm hown hK hG.1 hG.2 hS k (g_cell hk he) hc j hj hlink hsame hfin hd hn hfit hl hdg (fun H1 locs1 hP hD hS => kk _ H1 locs1 rfl ?_ hS)
  rw [g_set hk he' (gCell_O ho) rfl rfl] at hP hD
  exact ⟨hP, hD⟩
theorem g_putN (hx : p.tables.exec = Jvm.exec) (hb : c.code = cc) {own ref C host : String} {T : u_T} {N ci index : Nat} {Ts : List Cond} (hts : ∀ w ∈ Ts, w.before args s = true) (hin : ∀ w ∈ u_ws C T N, w ∈ Ts) (ty0 : Nat → FieldType) (hty : ∀ k, k < N → parseFieldDescriptor (T k).2.2.1 = some (ty0 k)) (hnm : ∀ a, a < N → ∀ b, b < N → a ≠ b → (T a).2.1 ≠ (T b).2.1) (hown : s.vm.findClass own = some m.cls) (hK : va_K D vwCl (gTy cy) s) (hG : gH D cy ad jf A u H) (hS : va_S A H0 H locs) (k : Nat) (hk : k < 65) {fs : List Value} (he : gCell cy ad jf u k = .inr (ci, fs)) (hc : vwCl[ci]? = some (C, T, N)) (j i : Nat) (hj : j < N) (hlink : (Cond.fieldLinkNest own index ref (T j).2.1 (T j).2.2.1 host).before args s = true) (hsame : ∀ x, s.fieldFound? (T j).1 (T j).2.1 (T j).2.2.1 = some x → s.fieldFound? ref (T j).2.1 (T j).2.2.1 = some x) (hfin : (T j).2.2.2 = false) {ty : FieldType} {v : Int} (hd : parseFieldDescriptor (T j).2.2.1 = some ty) (hn : narrow ty (.int (zI v)) = .int (zI v)) (hfit : fits ty (.int (zI v)) = true) (hl : j < fs.length) (he' : gCell cy ad jf (sI u i v) k = .inr (ci, fs.set j (.int (zI v)))) (ho : ∀ j, j < 9 → j ≠ k → gObj ad (va_up u.1 i v) j = gObj ad u.1 j) (hdg : decode cc pc = .ok (.putfield index, 3)) (kk : ∀ (u' : gS) (H1 : Heap) (locs1 : List Loc), u' = sI u i v → gH D cy ad jf A u' H1 → va_S A H0 H1 locs1 → W p l e R s m args below meth c H1 locs1 cells slots Q (F0 m (pc + 3) ls rest)) : W p l e R s m args below meth c H locs cells slots Q (F0 m pc ls (.int (zI v) :: .ref (ad k) :: rest)) := by
  refine va_putN hx hb hts hin ty0 hty hnm hown hK hG.1 hG.2 hS k (g_cell hk he) hc j hj hlink hsame hfin hd hn hfit hl hdg (fun H1 locs1 hP hD hS => kk _ H1 locs1 rfl ?_ hS)
  rw [g_set hk he' (gCell_O ho) rfl rfl] at hP hD
  exact ⟨hP, hD⟩
theorem g_iald (hx : p.tables.exec = Jvm.exec) (hb : c.code = cc) (hK : va_K D vwCl (gTy cy) s) (hG : gH D cy ad jf A u H) (k : Nat) (hk : k < 65) {n : Nat} (he : gCell cy ad jf u k = .inl (cy 0, n, .inl (fun j => zI (u.2.1 k j)))) {z : Int} (h1 : 0 ≤ z) (h2 : z < n) (h3 : n < 2147483648) (hdg : decode cc pc = .ok (.iaload, 1)) (kk : W p l e R s m args below meth c H locs cells slots Q (F0 m (pc + 1) ls (.int (zI (u.2.1 k z.toNat)) :: rest))) : W p l e R s m args below meth c H locs cells slots Q (F0 m pc ls (.int (zI z) :: .ref (ad k) :: rest)) :=
  va_iald hx hb hK hG.1 k 0 (g_cell hk he) rfl (zI_in h1 h2 h3) hdg (by rw [zI_clamp h1 (by omega)]; exact kk)
theorem g_zald (hx : p.tables.exec = Jvm.exec) (hb : c.code = cc) (hK : va_K D vwCl (gTy cy) s) (hG : gH D cy ad jf A u H) (k : Nat) (hk : k < 65) {n : Nat} (he : gCell cy ad jf u k = .inl (cy 2, n, .inl (fun j => zI (u.2.1 k j)))) {z : Int} (h1 : 0 ≤ z) (h2 : z < n) (h3 : n < 2147483648) (hdg : decode cc pc = .ok (.baload, 1)) (kk : W p l e R s m args below meth c H locs cells slots Q (F0 m (pc + 1) ls (.int (zI (u.2.1 k z.toNat)) :: rest))) : W p l e R s m args below meth c H locs cells slots Q (F0 m pc ls (.int (zI z) :: .ref (ad k) :: rest)) :=
  va_zald hx hb hK hG.1 k 2 (g_cell hk he) rfl (zI_in h1 h2 h3) hdg (by rw [zI_clamp h1 (by omega)]; exact kk)
theorem g_upd (f : Nat → Int) (i : Nat) (v : Int) : upd (fun j => zI (f j)) i (zI v) = fun j => zI (va_up f i v j) := by
  funext j
  simp only [upd, va_up]
  split <;> rfl
theorem g_iast (hx : p.tables.exec = Jvm.exec) (hb : c.code = cc) (hK : va_K D vwCl (gTy cy) s) (hG : gH D cy ad jf A u H) (hS : va_S A H0 H locs) (k : Nat) (hk : k < 65) {n : Nat} {z v : Int} (he : gCell cy ad jf u k = .inl (cy 0, n, .inl (fun j => zI (u.2.1 k j)))) (he' : gCell cy ad jf (sF u k (va_up (u.2.1 k) z.toNat v)) k = .inl (cy 0, n, .inl (fun j => zI (va_up (u.2.1 k) z.toNat v j)))) (h1 : 0 ≤ z) (h2 : z < n) (h3 : n < 2147483648) (hdg : decode cc pc = .ok (.iastore, 1)) (kk : ∀ (u' : gS) (H1 : Heap) (locs1 : List Loc), u' = sF u k (va_up (u.2.1 k) z.toNat v) → gH D cy ad jf A u' H1 → va_S A H0 H1 locs1 → W p l e R s m args below meth c H1 locs1 cells slots Q (F0 m (pc + 1) ls rest)) : W p l e R s m args below meth c H locs cells slots Q (F0 m pc ls (.int (zI v) :: .int (zI z) :: .ref (ad k) :: rest)) := by
  refine va_iast hx hb hK hG.1 hG.2 hS k 0 (g_cell hk he) rfl (zI_in h1 h2 h3) hdg (fun H1 locs1 hP hD hS => kk _ H1 locs1 rfl ?_ hS)
  rw [zI_clamp h1 (by omega), g_upd, g_set hk he' gCell_F rfl rfl] at hP hD
  exact ⟨hP, hD⟩
theorem nar_b {v : Int} (h : v = 0 ∨ v = 1) : narrow .boolean (.int (zI v)) = .int (zI v) := by rcases h with rfl | rfl <;> rfl
theorem vp_nar_b {v : Int} (h : v = 0 ∨ v = 1) : vp_nar .boolean (zI v) = zI v := by rcases h with rfl | rfl <;> decide
theorem g_zast (hx : p.tables.exec = Jvm.exec) (hb : c.code = cc) (hK : va_K D vwCl (gTy cy) s) (hG : gH D cy ad jf A u H) (hS : va_S A H0 H locs) (k : Nat) (hk : k < 65) {n : Nat} {z v : Int} (hv : v = 0 ∨ v = 1) (he : gCell cy ad jf u k = .inl (cy 2, n, .inl (fun j => zI (u.2.1 k j)))) (he' : gCell cy ad jf (sF u k (va_up (u.2.1 k) z.toNat v)) k = .inl (cy 2, n, .inl (fun j => zI (va_up (u.2.1 k) z.toNat v j)))) (h1 : 0 ≤ z) (h2 : z < n) (h3 : n < 2147483648) (hdg : decode cc pc = .ok (.bastore, 1)) (kk : ∀ (u' : gS) (H1 : Heap) (locs1 : List Loc), u' = sF u k (va_up (u.2.1 k) z.toNat v) → gH D cy ad jf A u' H1 → va_S A H0 H1 locs1 → W p l e R s m args below meth c H1 locs1 cells slots Q (F0 m (pc + 1) ls rest)) : W p l e R s m args below meth c H locs cells slots Q (F0 m pc ls (.int (zI v) :: .int (zI z) :: .ref (ad k) :: rest)) := by
  refine va_zast hx hb hK hG.1 hG.2 hS k 2 (g_cell hk he) rfl (zI_in h1 h2 h3) hdg (fun H1 locs1 hP hD hS => kk _ H1 locs1 rfl ?_ hS)
  rw [zI_clamp h1 (by omega), vp_nar_b hv, g_upd, g_set hk he' gCell_F rfl rfl] at hP hD
  exact ⟨hP, hD⟩
theorem g_alen (hx : p.tables.exec = Jvm.exec) (hb : c.code = cc) (hK : va_K D vwCl (gTy cy) s) (hG : gH D cy ad jf A u H) (k : Nat) (hk : k < 65) {n : Nat} (he : gCell cy ad jf u k = .inl (cy 0, n, .inl (fun j => zI (u.2.1 k j)))) (hdg : decode cc pc = .ok (.arraylength, 1)) (kk : W p l e R s m args below meth c H locs cells slots Q (F0 m (pc + 1) ls (.int (zI n) :: rest))) : W p l e R s m args below meth c H locs cells slots Q (F0 m pc ls (.ref (ad k) :: rest)) :=
  va_alen hx hb hK hG.1 k 0 (g_cell hk he) rfl (v := zI n) (zI_nat n).symm hdg kk
theorem g_aald (hx : p.tables.exec = Jvm.exec) (hb : c.code = cc) (hK : va_K D vwCl (gTy cy) s) (hG : gH D cy ad jf A u H) (k t0 : Nat) (hk : k < 65) {C : String} {n : Nat} (he : gCell cy ad jf u k = .inl (cy t0, n, .inr (.inr (.inr (.inr (u.2.2.1 k)))))) (ht : (gTy cy)[t0]? = some (cy t0, .object C)) {z : Int} (h1 : 0 ≤ z) (h2 : z < n) (h3 : n < 2147483648) (hdg : decode cc pc = .ok (.aaload, 1)) (kk : W p l e R s m args below meth c H locs cells slots Q (F0 m (pc + 1) ls (va_rf (u.2.2.1 k z.toNat) :: rest))) : W p l e R s m args below meth c H locs cells slots Q (F0 m pc ls (.int (zI z) :: .ref (ad k) :: rest)) :=
  va_aldq hx hb hK hG.1 k t0 (g_cell hk he) ht (zI_in h1 h2 h3) hdg (by rw [zI_clamp h1 (by omega)]; exact kk)
/-- a call's world, and what comes back -/
theorem g_preS (hG : gH D cy ad jf A u H) (hC : gC D cy A s) (hS : va_S A s.heap H locs) {As : List Value} : PreS s H (va_Pc As (gB D cy ad jf A u)) As :=
  ⟨g_blind, fun U hU hW => ⟨rfl, gB.mk' hG hC hS hU hW⟩⟩
theorem g_preV (hG : gH D cy ad jf A u H) (hC : gC D cy A s) (hS : va_S A s.heap H locs) {As : List Value} (k : Nat) (hk : k < 65) {ci : Nat} {fs : List Value} {C : String} {T : u_T} {N : Nat} (he : gCell cy ad jf u k = .inr (ci, fs)) (hc : vwCl[ci]? = some (C, T, N)) : PreV s H C (ad k) (va_Pc (.ref (ad k) :: As) (gB D cy ad jf A u)) As :=
  ⟨g_blind, va_recv hC.1 hG.1 hc (g_cell hk he), fun U hU hW => ⟨rfl, gB.mk' hG hC hS hU hW⟩⟩
variable {st0 : List Value} {a : Array Value} {mc ms : Nat}
theorem g_calli {post : Int32 → gS → Prop} (hr : va_Run p l e R s m args below meth c H locs cells slots mc ms (F0 m pc ls st0) rest (va_Qi post (gB D cy ad jf A) A a) A) (hS : va_S A H0 H locs) (kk : ∀ (r : Int32) (u' : gS) (H1 : Heap) (locs1 : List Loc), post r u' → gH D cy ad jf A u' H1 → va_S A H0 H1 locs1 → W p l e R s m args below meth c H1 locs1 (cells + mc) (slots + ms) Q (F0 m (pc + 3) ls (.int r :: rest))) : W p l e R s m args below meth c H locs cells slots Q (F0 m pc ls st0) :=
  va_calli hr hS (fun _ _ h => h) (fun _ h => h) (fun r u' t H1 locs1 ht _ hp hB _ _ hS => kk r u' H1 locs1 hp (by rw [← ht]; exact hB.1) hS)
theorem g_callv {post : gS → Prop} (hr : va_Run p l e R s m args below meth c H locs cells slots mc ms (F0 m pc ls st0) rest (va_Qv post (gB D cy ad jf A) A a) A) (hS : va_S A H0 H locs) (kk : ∀ (u' : gS) (H1 : Heap) (locs1 : List Loc), post u' → gH D cy ad jf A u' H1 → va_S A H0 H1 locs1 → W p l e R s m args below meth c H1 locs1 (cells + mc) (slots + ms) Q (F0 m (pc + 3) ls rest)) : W p l e R s m args below meth c H locs cells slots Q (F0 m pc ls st0) :=
  va_callv hr hS (fun _ _ h => h) (fun _ h => h) (fun u' t H1 locs1 ht _ hp hB _ _ hS => kk u' H1 locs1 hp (by rw [← ht]; exact hB.1) hS)
theorem g_callq {post : Option Nat → gS → Prop} (hr : va_Run p l e R s m args below meth c H locs cells slots mc ms (F0 m pc ls st0) rest (va_Qq post (gB D cy ad jf A) A a) A) (hS : va_S A H0 H locs) (kk : ∀ (r : Option Nat) (u' : gS) (H1 : Heap) (locs1 : List Loc), post r u' → gH D cy ad jf A u' H1 → va_S A H0 H1 locs1 → W p l e R s m args below meth c H1 locs1 (cells + mc) (slots + ms) Q (F0 m (pc + 3) ls (va_rf r :: rest))) : W p l e R s m args below meth c H locs cells slots Q (F0 m pc ls st0) :=
  va_callq hr hS (fun _ _ h => h) (fun _ h => h) (fun r u' t H1 locs1 ht _ hp hB _ _ hS => kk r u' H1 locs1 hp (by rw [← ht]; exact hB.1) hS)
end GW
