theorem bShort_id {z : Int} (h1 : -32768 ≤ z) (h2 : z ≤ 32767) : bShort z = z := by
  unfold bShort
  rw [Int16.toInt_toInt32, Int32.toInt_toInt16, zI_toInt (by omega) (by omega)]
  exact Int.bmod_eq_of_le (by omega) (by omega)
theorem vp_nar_s {z : Int} (h1 : -32768 ≤ z) (h2 : z ≤ 32767) : vp_nar .short (zI z) = zI z := by
  have h := bShort_id h1 h2
  rw [vp_nar_short, ← zI_of ((zI z).toInt16.toInt32)]
  exact congrArg zI h
theorem fits_s {z : Int} (h1 : -32768 ≤ z) (h2 : z ≤ 32767) : fits .short (.int (zI z)) = true := by
  have h := pk_fs (zI z)
  have e := vp_nar_s h1 h2
  rw [vp_nar_short] at e
  rw [e] at h
  exact h
theorem up_aba {α : Type} (f : Nat → α) (a b : Nat) (x y z : α) : va_up (va_up (va_up f a x) b y) a z = va_up (va_up f b y) a z := by
  funext j
  unfold va_up
  split
  · rfl
  · rfl
theorem up_bab {α : Type} (f : Nat → α) {a b : Nat} (x y z : α) (h : a ≠ b) : va_up (va_up (va_up f b x) a z) b y = va_up (va_up f b y) a z := by
  funext j
  unfold va_up
  by_cases h1 : j = b
  · subst h1
    rw [if_pos rfl, if_neg (fun e => h e.symm), if_pos rfl]
  · rw [if_neg h1]
    by_cases h2 : j = a
    · rw [if_pos h2, if_pos h2]
    · rw [if_neg h2, if_neg h2, if_neg h1, if_neg h1]
/-- a new ROW at q, its items at b -/
def cRow (cy : Nat → ClassId) (u : gS) (q b : Nat) (k : Int) (n : Nat) (g : Nat → Int) : gS := sP u ((u.2.2.2.1 ++ [q]) ++ [b]) (va_up (va_up u.2.2.2.2 b (.inl (cy 1, n, .inl (fun j => zI (g j))))) q (.inr (4, [.int (zI k), .ref b])))
theorem cRow_q {cy : Nat → ClassId} {u : gS} {q b : Nat} {k : Int} {n : Nat} {g : Nat → Int} : q ∈ (cRow cy u q b k n g).2.2.2.1 := List.mem_append_left _ (List.mem_append_right _ List.mem_cons_self)
theorem cRow_b {cy : Nat → ClassId} {u : gS} {q b : Nat} {k : Int} {n : Nat} {g : Nat → Int} : b ∈ (cRow cy u q b k n g).2.2.2.1 := List.mem_append_right _ List.mem_cons_self
theorem cRow_E {cy : Nat → ClassId} {u : gS} {q b : Nat} {k : Int} {n : Nat} {g : Nat → Int} (h : q ≠ b) : (cRow cy u q b k n g).2.2.2.2 b = .inl (cy 1, n, .inl (fun j => zI (g j))) := by
  show va_up (va_up _ b _) q _ b = _
  rw [up_n _ _ (fun e => h e.symm), up_s]
theorem cRow_st {cy : Nat → ClassId} {u : gS} {q b : Nat} {k : Int} {n : Nat} {g g' : Nat → Int} (h : q ≠ b) : sP (cRow cy u q b k n g) (cRow cy u q b k n g).2.2.2.1 (va_up (cRow cy u q b k n g).2.2.2.2 b (.inl (cy 1, n, .inl (fun j => zI (g' j))))) = cRow cy u q b k n g' := by
  unfold cRow
  simp only [up_bab _ _ _ _ h]
/-- what lies on the d-th shelf -/
def slAt (cy : Nat → ClassId) (u : gS) (d : Nat) (k kd nm sp li fd : Int) (b n : Nat) (g : Nat → Int) : Prop := (u.2.2.1 30 d = none ∧ k = 0) ∨ (∃ a, u.2.2.1 30 d = some a ∧ a ∈ u.2.2.2.1 ∧ k = 1 ∧ (0 ≤ kd ∧ kd ≤ 3) ∧ (0 ≤ sp ∧ sp ≤ 20) ∧ (0 ≤ li ∧ li ≤ 400) ∧ (0 ≤ fd ∧ fd ≤ 40) ∧ u.2.2.2.2 a = .inr (kc kd, [.int (zI nm), .int (zI sp), .int (zI li), .int (zI fd)])) ∨ (∃ a, u.2.2.1 30 d = some a ∧ a ∈ u.2.2.2.1 ∧ (k = 3 ∨ k = 4) ∧ u.2.2.2.2 a = .inr (4, [.int (zI k), .ref b]) ∧ b ∈ u.2.2.2.1 ∧ u.2.2.2.2 b = .inl (cy 1, n, .inl (fun j => zI (g j))) ∧ n ≤ 202 ∧ ∀ j, j < n → -32768 ≤ g j ∧ g j ≤ 32767)
section GR
variable {p : Program} {l : Launch} {e : Env} {R : Room} {s : State} {m : MethodId} {args : Array Value} {below : List Frame} {meth : Method} {c : Code} {H : Heap} {locs : List Loc} {cells slots : Nat} {Q : State → Prop}
variable {cc : ByteArray} {pc : Nat} {ls : Array Slot} {rest : List Value} {D : va_G} {cy : Nat → ClassId} {ad : Nat → Nat} {jf : Nat → Int64} {A : Nat → Prop} {u : gS} {H0 : Heap}
theorem g_aastN (hx : p.tables.exec = Jvm.exec) (hb : c.code = cc) (hK : va_K D vwCl (gTy cy) s) (hG : gH D cy ad jf A u H) (hS : va_S A H0 H locs) (k t0 : Nat) (hk : k < 65) (hk2 : k = 12 ∨ k = 21 ∨ k = 30) {n : Nat} {C : String} {z : Int} (he : gCell cy ad jf u k = .inl (cy t0, n, .inr (.inr (.inr (.inr (u.2.2.1 k)))))) (he' : gCell cy ad jf (sR u k (va_up (u.2.2.1 k) z.toNat none)) k = .inl (cy t0, n, .inr (.inr (.inr (.inr (va_up (u.2.2.1 k) z.toNat none)))))) (ht : (gTy cy)[t0]? = some (cy t0, .object C)) (h1 : 0 ≤ z) (h2 : z < n) (h3 : n < 2147483648) (hdg : decode cc pc = .ok (.aastore, 1)) (kk : ∀ (u' : gS) (H1 : Heap) (locs1 : List Loc), u' = sR u k (va_up (u.2.2.1 k) z.toNat none) → gH D cy ad jf A u' H1 → va_S A H0 H1 locs1 → W p l e R s m args below meth c H1 locs1 cells slots Q (F0 m (pc + 1) ls rest)) : W p l e R s m args below meth c H locs cells slots Q (F0 m pc ls (.null :: .int (zI z) :: .ref (ad k) :: rest)) := by
  refine va_astqN hx hb hK hG.1 hG.2 hS k t0 (g_cell hk he) ht (zI_in h1 h2 h3) hdg (fun H1 locs1 hP hD hS => kk _ H1 locs1 rfl ?_ hS)
  rw [zI_clamp h1 (by omega), g_set hk he' (gCell_R hk2) rfl rfl] at hP hD
  exact ⟨hP, hD⟩
theorem g_alenP (hx : p.tables.exec = Jvm.exec) (hb : c.code = cc) (hK : va_K D vwCl (gTy cy) s) (hG : gH D cy ad jf A u H) {b n : Nat} {g : Nat → Int} (ha : b ∈ u.2.2.2.1) (hE : u.2.2.2.2 b = .inl (cy 1, n, .inl (fun j => zI (g j)))) (hdg : decode cc pc = .ok (.arraylength, 1)) (kk : W p l e R s m args below meth c H locs cells slots Q (F0 m (pc + 1) ls (.int (zI (n : Int)) :: rest))) : W p l e R s m args below meth c H locs cells slots Q (F0 m pc ls (.ref b :: rest)) := by
  obtain ⟨k9, hk9⟩ := va_pl_get (X := gFx cy ad jf u) (f := u.2.2.2.2) ha
  exact va_alen (x := (n, .inl (fun j => zI (g j)))) hx hb hK hG.1 k9 1 (hk9.trans (by rw [hE])) rfl (v := zI n) (zI_nat n).symm hdg kk
theorem g_saldP (hx : p.tables.exec = Jvm.exec) (hb : c.code = cc) (hK : va_K D vwCl (gTy cy) s) (hG : gH D cy ad jf A u H) {b n : Nat} {g : Nat → Int} {z : Int} (ha : b ∈ u.2.2.2.1) (hE : u.2.2.2.2 b = .inl (cy 1, n, .inl (fun j => zI (g j)))) (h1 : 0 ≤ z) (h2 : z < n) (h3 : n < 2147483648) (hdg : decode cc pc = .ok (.saload, 1)) (kk : W p l e R s m args below meth c H locs cells slots Q (F0 m (pc + 1) ls (.int (zI (g z.toNat)) :: rest))) : W p l e R s m args below meth c H locs cells slots Q (F0 m pc ls (.int (zI z) :: .ref b :: rest)) := by
  obtain ⟨k9, hk9⟩ := va_pl_get (X := gFx cy ad jf u) (f := u.2.2.2.2) ha
  exact va_sald hx hb hK hG.1 k9 1 (hk9.trans (by rw [hE])) rfl (zI_in h1 h2 h3) hdg (by rw [zI_clamp h1 (by omega)]; exact kk)
theorem g_sastP (hx : p.tables.exec = Jvm.exec) (hb : c.code = cc) (hK : va_K D vwCl (gTy cy) s) (hG : gH D cy ad jf A u H) (hS : va_S A H0 H locs) {b n : Nat} {g : Nat → Int} {z x : Int} (ha : b ∈ u.2.2.2.1) (hE : u.2.2.2.2 b = .inl (cy 1, n, .inl (fun j => zI (g j)))) (h1 : 0 ≤ z) (h2 : z < n) (h3 : n < 2147483648) (hx1 : -32768 ≤ x ∧ x ≤ 32767) (hdg : decode cc pc = .ok (.sastore, 1)) (kk : ∀ (u' : gS) (H1 : Heap) (locs1 : List Loc), u' = sP u u.2.2.2.1 (va_up u.2.2.2.2 b (.inl (cy 1, n, .inl (fun j => zI (va_up g z.toNat x j))))) → gH D cy ad jf A u' H1 → va_S A H0 H1 locs1 → W p l e R s m args below meth c H1 locs1 cells slots Q (F0 m (pc + 1) ls rest)) : W p l e R s m args below meth c H locs cells slots Q (F0 m pc ls (.int (zI x) :: .int (zI z) :: .ref b :: rest)) := by
  obtain ⟨k9, hk9⟩ := va_pl_get (X := gFx cy ad jf u) (f := u.2.2.2.2) ha
  refine va_sast hx hb hK hG.1 hG.2 hS k9 1 (hk9.trans (by rw [hE])) rfl (zI_in h1 h2 h3) hdg (fun H1 locs1 hP hD hS => kk _ H1 locs1 rfl ?_ hS)
  rw [zI_clamp h1 (by omega), vp_nar_s hx1.1 hx1.2, g_upd] at hP hD
  rw [gH, ← gW_set hG.2 ha hk9]
  exact ⟨hP, hD⟩
theorem g_newS (hx : p.tables.exec = Jvm.exec) (hb : c.code = cc) {M : Nat} (harr : (Cond.arrayClass (newarray.typeOf .short)).before args s = true) (hK : va_K D vwCl (gTy cy) s) (hG : gH D cy ad jf A u H) (hS : va_S A H0 H locs) (hA : ∀ q, H0.size ≤ q → A q) {z : Int} (h1 : 0 ≤ z) (h2 : z ≤ M) (h3 : M ≤ 1000) (hcells : cells + 1 ≤ R.cells) (hslots : slots + M ≤ R.slots) (hdg : decode cc pc = .ok (.newarray .short, 2)) (kk : ∀ (q : Nat) (u' : gS) (H1 : Heap), q ∉ u.2.2.2.1 → u' = sP u (u.2.2.2.1 ++ [q]) (va_up u.2.2.2.2 q (.inl (cy 1, z.toNat, .inl (fun _ => zI 0)))) → gH D cy ad jf A u' H1 → va_S A H0 H1 locs → W p l e R s m args below meth c H1 locs (cells + 1) (slots + M) Q (F0 m (pc + 2) ls (.ref q :: rest))) : W p l e R s m args below meth c H locs cells slots Q (F0 m pc ls (.int (zI z) :: rest)) := by
  have hc9 : componentBytes .short ≤ 8 := by decide
  have hb9 : z.toNat * componentBytes .short ≤ 536870912 := Nat.le_trans (Nat.mul_le_mul (show z.toNat ≤ 1000 by omega) hc9) (by decide)
  refine va_newa (a0 := (z.toNat, .inl (fun _ => zI 0))) (N' := z.toNat) hx hb harr rfl hK hG.1 hG.2 hS hA (fun _ => rfl) (by rw [show (0 : Int32) = zI 0 from rfl, zI_lt (by omega) (by omega) (by omega) (by omega)]; omega) (zI_clamp h1 (by omega)) hb9 hcells (Nat.le_trans (by omega) hslots) hdg (fun q cA H1 hK9 hP hD hS => ?_)
  have e1 := va_nm_short (hK9.2 7 (cA, .short) rfl).2
  have e2 := va_nm_short (hK.2 1 (cy 1, .short) rfl).2
  have e3 : cA = cy 1 := Option.some.inj (e1.symm.trans e2)
  rw [e3] at hP hD
  have hq := va_pl_fresh2 hD
  refine W.widen (k := cells + 1) (n := slots + M) (Nat.le_refl _) (by omega) (kk q _ H1 hq rfl ?_ hS)
  rw [gH, ← gW_push hq]
  exact ⟨hP, hD⟩
theorem g_copyP {cc : ByteArray} (hx : p.tables.exec = Jvm.exec) (hb : c.code = cc) (hml : c.maxLocals = ls.size) {own : String} {index : Nat} (hown : s.vm.findClass own = some m.cls) (hlink : (Cond.methodLink own index arraycopyName).before args s = true) (hnat : (Cond.native arraycopyName).before args s = true) (hstat : (Cond.static arraycopyName).before args s = true) (hini : (Cond.initialized "java/lang/System").before args s = true) (hK : va_K D vwCl (gTy cy) s) (hG : gH D cy ad jf A u H) (hS : va_S A H0 H locs) {b0 b1 n0 n1 : Nat} {f g : Nat → Int} {i j n : Int} (ha0 : b0 ∈ u.2.2.2.1) (hE0 : u.2.2.2.2 b0 = .inl (cy 1, n0, .inl (fun j => zI (f j)))) (ha1 : b1 ∈ u.2.2.2.1) (hE1 : u.2.2.2.2 b1 = .inl (cy 1, n1, .inl (fun j => zI (g j)))) (h1 : 0 ≤ i) (h2 : 0 ≤ j) (h3 : 0 ≤ n) (h4 : i + n ≤ n0) (h5 : j + n ≤ n1) (h6 : n0 ≤ 202) (h7 : n1 ≤ 202) (hf : ∀ j, j < n0 → -32768 ≤ f j ∧ f j ≤ 32767) (hframes : 1 ≤ R.frames) (hlocals : (rest.map fun v => v.category).sum + (nativeFrameWords "java/lang/System" "arraycopy" 5 + 11) ≤ R.locals) (hdg : decode cc pc = .ok (.invokestatic index, 3)) (kk : ∀ (u' : gS) (H1 : Heap) (locs1 : List Loc), u' = sP u u.2.2.2.1 (va_up u.2.2.2.2 b1 (.inl (cy 1, n1, .inl (fun k => zI (va_cpy f g i.toNat j.toNat n.toNat k))))) → gH D cy ad jf A u' H1 → va_S A H0 H1 locs1 → W p l e R s m args below meth c H1 locs1 cells slots Q (F0 m (pc + 3) ls rest)) : W p l e R s m args below meth c H locs cells slots Q (F0 m pc ls (.int (zI n) :: .int (zI j) :: .ref b1 :: .int (zI i) :: .ref b0 :: rest)) := by
  obtain ⟨k8, hk8⟩ := va_pl_get (X := gFx cy ad jf u) (f := u.2.2.2.2) ha0
  obtain ⟨k9, hk9⟩ := va_pl_get (X := gFx cy ad jf u) (f := u.2.2.2.2) ha1
  have ng : ∀ {z : Int}, 0 ≤ z → z ≤ 202 → ¬ zI z < 0 := fun {z} q1 q2 => by
    rw [show (0 : Int32) = zI 0 from rfl, zI_lt (by omega) (by omega) (by omega) (by omega)]
    omega
  have ci := zI_clamp (z := i) h1 (by omega)
  have cj := zI_clamp (z := j) h2 (by omega)
  have cn := zI_clamp (z := n) h3 (by omega)
  refine va_copyi hx hb hml hown hlink hnat hstat hini hK hG.1 hG.2 hS k8 k9 1 1 (ty := .short) (hk8.trans (by rw [hE0])) (hk9.trans (by rw [hE1])) rfl rfl rfl (ng h1 (by omega)) (ng h2 (by omega)) (ng h3 (by omega)) (by rw [ci, cn]; omega) (by rw [cj, cn]; omega) (fun t ht => ?_) hframes hlocals hdg (fun H1 locs1 hP hD hS => kk _ H1 locs1 rfl ?_ hS)
  · rw [ci]
    rw [cn] at ht
    have := hf (i.toNat + t) (by omega)
    exact fits_s this.1 this.2
  · rw [ci, cj, cn] at hP hD
    have e9 : va_cpy (fun j => zI (f j)) (fun j => zI (g j)) i.toNat j.toNat n.toNat = fun k => zI (va_cpy f g i.toNat j.toNat n.toNat k) := by
      funext k
      unfold va_cpy
      split <;> rfl
    rw [e9] at hP hD
    rw [gH, ← gW_set hG.2 ha1 hk9]
    exact ⟨hP, hD⟩
variable {a : Nat} {own C nm : String} {index : Nat}
theorem g_instY (hx : p.tables.exec = Jvm.exec) (hb : c.code = cc) (hown : s.vm.findClass own = some m.cls) (hlink : (Cond.classLink own index nm).before args s = true) (hc : va_Nw (.castable C nm) s) (hr : ∃ cell : Cell, H[a]? = some cell ∧ cell.vm.isStatics = false ∧ s.vm.findClass C = some cell.cls) (hdg : decode cc pc = .ok (.instanceof index, 3)) (k : W p l e R s m args below meth c H locs cells slots Q (F0 m (pc + 3) ls (.int (zI 1) :: rest))) : W p l e R s m args below meth c H locs cells slots Q (F0 m pc ls (.ref a :: rest)) :=
  va_instY hx hb hown hlink hc hr hdg k
theorem g_instNo (hx : p.tables.exec = Jvm.exec) (hb : c.code = cc) (hown : s.vm.findClass own = some m.cls) (hlink : (Cond.classLink own index nm).before args s = true) (hc : va_Nc C nm s) (hr : ∃ cell : Cell, H[a]? = some cell ∧ cell.vm.isStatics = false ∧ s.vm.findClass C = some cell.cls) (hdg : decode cc pc = .ok (.instanceof index, 3)) (k : W p l e R s m args below meth c H locs cells slots Q (F0 m (pc + 3) ls (.int (zI 0) :: rest))) : W p l e R s m args below meth c H locs cells slots Q (F0 m pc ls (.ref a :: rest)) :=
  va_instNo hx hb hown hlink hc hr hdg k
theorem g_instS {cC : ClassId} (hx : p.tables.exec = Jvm.exec) (hb : c.code = cc) (hown : s.vm.findClass own = some m.cls) (hlink : (Cond.classLink own index nm).before args s = true) (hc : ClassAt s nm cC) (hr : ∃ cell : Cell, H[a]? = some cell ∧ cell.vm.isStatics = false ∧ s.vm.findClass nm = some cell.cls) (hdg : decode cc pc = .ok (.instanceof index, 3)) (k : W p l e R s m args below meth c H locs cells slots Q (F0 m (pc + 3) ls (.int (zI 1) :: rest))) : W p l e R s m args below meth c H locs cells slots Q (F0 m pc ls (.ref a :: rest)) :=
  va_instS hx hb hown hlink hc hr hdg k
end GR
/-- the places of the latest swim, one behind the other -/
def rowXY (u : gS) (j : Nat) : Int := if j % 2 = 0 then u.2.1 13 (j / 2) else u.2.1 14 (j / 2)
def jBit (a : Int) : Int :=
  let i1 := a - bAnd (bUshr a 1) 1431655765
  let i2 := bAnd i1 858993459 + bAnd (bUshr i1 2) 858993459
  let i3 := bAnd (i2 + bUshr i2 4) 252645135
  let i4 := i3 + bUshr i3 8
  let i5 := i4 + bUshr i4 16
  bAnd i5 63
def cHeft (k sp li fd : Int) : Int := if k = 0 then 10 + sp + fd else if k = 1 then 10 + sp + fd + 100 else if k = 2 then 10 + sp + fd + li else 2 * (10 + sp + fd + 100)
theorem rowXY_st {u : gS} {g : Nat → Int} {t : Int} (ht : 0 ≤ t) (hg : ∀ j : Nat, (j : Int) < 2 * t → g j = rowXY u j) : ∀ j : Nat, (j : Int) < 2 * (t + 1) → va_up (va_up g (2 * t).toNat (u.2.1 13 t.toNat)) (2 * t + 1).toNat (u.2.1 14 t.toNat) j = rowXY u j := by
  intro j hj
  by_cases h1 : j = (2 * t + 1).toNat
  · rw [h1, up_s]
    unfold rowXY
    rw [if_neg (by omega), show (2 * t + 1).toNat / 2 = t.toNat by omega]
  · rw [up_n _ _ h1]
    by_cases h2 : j = (2 * t).toNat
    · rw [h2, up_s]
      unfold rowXY
      rw [if_pos (by omega), show (2 * t).toNat / 2 = t.toNat by omega]
    · rw [up_n _ _ h2]
      exact hg j (by omega)
theorem rowC_st {f g : Nat → Int} {t : Int} (ht : 0 ≤ t) (hg : ∀ j : Nat, (j : Int) < t → g j = f j) : ∀ j : Nat, (j : Int) < t + 1 → va_up g t.toNat (f t.toNat) j = f j := by
  intro j hj
  by_cases h1 : j = t.toNat
  · rw [h1, up_s]
  · rw [up_n _ _ h1]
    exact hg j (by omega)
def cTw (u : gS) (q : Nat) (ci : Nat) (nm sp li fd : Int) : gS := sP u (u.2.2.2.1 ++ [q]) (va_up u.2.2.2.2 q (.inr (ci, [.int (zI nm), .int (zI sp), .int (zI li), .int (zI fd)])))
def cRowN (u : gS) : Int := if 0 < u.1 6 then 2 * (u.1 6 + 1) else 0
def cCount (u : gS) (p : Int) : Int := if p = 0 then u.1 0 else if p = 1 then u.1 4 else if p = 2 then u.1 3 else if p = 3 then u.1 15 else if p = 4 then u.1 17 else if p = 5 then jBit (u.1 18) else -1
def cWeight (HK KD SP LI FD : Nat → Int) (p : Int) : Int := if 0 ≤ p ∧ p ≤ 7 then (if HK p.toNat = 0 then -11 else if HK p.toNat = 1 then cHeft (KD p.toNat) (SP p.toNat) (LI p.toNat) (FD p.toNat) else -12) else -1
