/-! THE LAW'S WALK: what it stands in -/
def lE (p : Program) (l : Launch) (s : State) (m : MethodId) (meth : Method) (c : Code) (b L : Nat) (ys : Nat → Int) (D : va_G) (cy : Nat → ClassId) (A : Nat → Prop) : Prop :=
  p.tables.exec = Jvm.exec ∧ c.code = cL_law ∧ c.maxLocals = 8 ∧ s.vm.findClass RL = some m.cls ∧ (∀ w ∈ wsL_law, w.before #[Value.ref b] s = true) ∧ va_X b L (fun j => zI (ys j)) s s.heap ∧ b < s.heap.size ∧ ¬ A b ∧ gC D cy A s ∧ gT A s ∧ l.stackTraces = false ∧ (∀ j, -2147483648 ≤ ys j ∧ ys j < 2147483648) ∧ L ≤ 3072
def lV (ad : Nat → Nat) (b : Nat) (i : Int) : List (Nat × Value) := [(0, .ref b), (1, .ref (ad 0)), (2, .ref (ad 8)), (3, .ref (ad 64)), (4, .int (zI i))]
section LA
variable {p : Program} {l : Launch} {e : Env} {R : Room} {s : State} {m : MethodId} {args : Array Value} {below : List Frame} {meth : Method} {c : Code} {H : Heap} {locs : List Loc} {cells slots : Nat} {Q : State → Prop}
variable {cc : ByteArray} {pc : Nat} {ls : Array Slot} {rest : List Value} {A : Nat → Prop} {H0 : Heap}
theorem g_sld (hx : p.tables.exec = Jvm.exec) (hb : c.code = cc) {b L : Nat} {ys : Nat → Int} (hX : va_X b L (fun j => zI (ys j)) s H0) (hbl : b < H0.size) (hbA : ¬ A b) (hS : va_S A H0 H locs) {z v : Int} (h1 : 0 ≤ z) (h2 : z < (L : Int)) (h3 : L < 2147483648) (hv : v = ys z.toNat) (hdg : decode cc pc = .ok (.iaload, 1)) (kk : W p l e R s m args below meth c H locs cells slots Q (F0 m (pc + 1) ls (.int (zI v) :: rest))) : W p l e R s m args below meth c H locs cells slots Q (F0 m pc ls (.int (zI z) :: .ref b :: rest)) :=
  va_sld hx hb hX hbl hbA hS (zI_in h1 h2 h3) hdg (by rw [zI_clamp h1 (by omega), ← hv]; exact kk)
theorem l_arg (hx : p.tables.exec = Jvm.exec) (hb : c.code = cc) {b L : Nat} {ys : Nat → Int} (hX : va_X b L (fun j => zI (ys j)) s H0) (hbl : b < H0.size) (hbA : ¬ A b) (hS : va_S A H0 H locs) {nL : Nat} {lv : List (Nat × Value)} (hl : lv_has ls nL lv) {p0 p4 : Nat} {i k v : Int} (h0 : lv[p0]? = some (0, .ref b)) (h4 : lv[p4]? = some (4, .int (zI i))) (h1 : 0 ≤ i + k) (h2 : i + k < (L : Int)) (h3 : L < 2147483648) (hv : v = ys (i + k).toNat) (d1 : decode cc pc = .ok (.aload_n 0, 1)) (d2 : decode cc (pc + 1) = .ok (.iload 4, 2)) (d3 : decode cc (pc + 1 + 2) = .ok (.iconst k, 1)) (d4 : decode cc (pc + 1 + 2 + 1) = .ok (.iadd, 1)) (d5 : decode cc (pc + 1 + 2 + 1 + 1) = .ok (.iaload, 1)) (kk : W p l e R s m args below meth c H locs cells slots Q (F0 m (pc + 1 + 2 + 1 + 1 + 1) ls (.int (zI v) :: rest))) : W p l e R s m args below meth c H locs cells slots Q (F0 m pc ls rest) :=
  lv_aload_n hx hb d1 rfl (lv_at hl p0 h0) (lv_iload hx hb d2 (lv_at hl p4 h4) (z_iconst hx hb d3 (z_iadd hx hb d4 (g_sld hx hb hX hbl hbA hS h1 h2 h3 hv d5 kk))))
end LA
theorem Rel.k0 {cy : Nat → ClassId} {u : gS} (h : Rel cy u) : 0 ≤ u.1 0 ∧ u.1 0 ≤ 10 := by rw [h.e0]; exact h.m.i23
theorem Rel.k1 {cy : Nat → ClassId} {u : gS} (h : Rel cy u) : 0 ≤ u.1 1 ∧ u.1 1 ≤ 20 := by rw [h.e1]; exact h.m.i21
theorem Rel.k2 {cy : Nat → ClassId} {u : gS} (h : Rel cy u) : 1 ≤ u.1 2 ∧ u.1 2 ≤ 60 := by rw [h.e2]; exact h.m.i22
theorem Rel.k3 {cy : Nat → ClassId} {u : gS} (h : Rel cy u) : 0 ≤ u.1 3 ∧ u.1 3 ≤ 8 := by rw [h.e3]; exact h.m.i25
theorem Rel.k15 {cy : Nat → ClassId} {u : gS} (h : Rel cy u) : 0 ≤ u.1 15 ∧ u.1 15 ≤ 60 := ⟨h.tal.1.2.1, h.tal.1.2.2.1⟩
theorem Rel.k16 {cy : Nat → ClassId} {u : gS} (h : Rel cy u) : 0 ≤ u.1 16 ∧ u.1 16 ≤ 6 := ⟨h.tal.2.1.2.1, h.tal.2.1.2.2.1⟩
theorem Rel.k17 {cy : Nat → ClassId} {u : gS} (h : Rel cy u) : 0 ≤ u.1 17 ∧ u.1 17 ≤ 40 := ⟨h.tal.2.2.2.1, h.tal.2.2.2.2.1⟩
theorem Rel.kd9 {cy : Nat → ClassId} {u : gS} (h : Rel cy u) : ∀ j, j < 288 → u.2.1 9 j = 0 ∨ u.2.1 9 j = 1 := fun j hj => by rw [h.f9 j hj]; exact h.m.b31 j hj
theorem Rel.k10 {cy : Nat → ClassId} {u : gS} (h : Rel cy u) : ∀ j, j < 36 → -9 ≤ u.2.1 10 j ∧ u.2.1 10 j ≤ 9 := fun j hj => by rw [h.f10 j hj]; exact h.m.i32 j hj
theorem Rel.k11 {cy : Nat → ClassId} {u : gS} (h : Rel cy u) : ∀ j, j < 36 → -9 ≤ u.2.1 11 j ∧ u.2.1 11 j ≤ 9 := fun j hj => by rw [h.f11 j hj]; exact h.m.i33 j hj
theorem Rel.k13 {cy : Nat → ClassId} {u : gS} (h : Rel cy u) : ∀ j, j < 101 → -1000 ≤ u.2.1 13 j ∧ u.2.1 13 j ≤ 1000 := fun j hj => by have := h.c13 j hj; omega
theorem Rel.k14 {cy : Nat → ClassId} {u : gS} (h : Rel cy u) : ∀ j, j < 101 → -1000 ≤ u.2.1 14 j ∧ u.2.1 14 j ≤ 1000 := fun j hj => by have := h.c14 j hj; omega
theorem lg_cmp_self (x : Int64) : lg_cmp x x = 0 := by
  unfold lg_cmp
  simp
