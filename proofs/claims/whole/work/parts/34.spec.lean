theorem gW_push {cy : Nat → ClassId} {ad : Nat → Nat} {jf : Nat → Int64} {u : gS} {q : Nat} {e : va_E} (hq : q ∉ u.2.2.2.1) : gW cy ad jf u ++ [(q, e)] = gW cy ad jf (sP u (u.2.2.2.1 ++ [q]) (va_up u.2.2.2.2 q e)) := by
  show (gFx cy ad jf u ++ va_pl u.2.2.2.1 u.2.2.2.2) ++ [(q, e)] = gFx cy ad jf u ++ va_pl (u.2.2.2.1 ++ [q]) (va_up u.2.2.2.2 q e)
  rw [List.append_assoc, va_pl_push hq]
section GA
variable {p : Program} {l : Launch} {e : Env} {R : Room} {s : State} {m : MethodId} {args : Array Value} {below : List Frame} {meth : Method} {c : Code} {H : Heap} {locs : List Loc} {cells slots : Nat} {Q : State → Prop}
variable {cc : ByteArray} {pc : Nat} {ls : Array Slot} {rest : List Value} {D : va_G} {cy : Nat → ClassId} {ad : Nat → Nat} {jf : Nat → Int64} {A : Nat → Prop} {u : gS} {H0 : Heap}
theorem g_aast (hx : p.tables.exec = Jvm.exec) (hb : c.code = cc) (hK : va_K D vwCl (gTy cy) s) (hG : gH D cy ad jf A u H) (hS : va_S A H0 H locs) (k t0 : Nat) (hk : k < 65) (hk2 : k = 12 ∨ k = 21 ∨ k = 30) {n qk ci v : Nat} {r : vw_C} {vs : List Value} {z : Int} (he : gCell cy ad jf u k = .inl (cy t0, n, .inr (.inr (.inr (.inr (u.2.2.1 k)))))) (he' : gCell cy ad jf (sR u k (va_up (u.2.2.1 k) z.toNat (some v))) k = .inl (cy t0, n, .inr (.inr (.inr (.inr (va_up (u.2.2.1 k) z.toNat (some v))))))) (ht : (gTy cy)[t0]? = some (cy t0, .object r.1)) (hv : (gW cy ad jf u)[qk]? = some (v, .inr (ci, vs))) (hc : vwCl[ci]? = some r) (h1 : 0 ≤ z) (h2 : z < n) (h3 : n < 2147483648) (hdg : decode cc pc = .ok (.aastore, 1)) (kk : ∀ (u' : gS) (H1 : Heap) (locs1 : List Loc), u' = sR u k (va_up (u.2.2.1 k) z.toNat (some v)) → gH D cy ad jf A u' H1 → va_S A H0 H1 locs1 → W p l e R s m args below meth c H1 locs1 cells slots Q (F0 m (pc + 1) ls rest)) : W p l e R s m args below meth c H locs cells slots Q (F0 m pc ls (.ref v :: .int (zI z) :: .ref (ad k) :: rest)) := by
  refine va_astq hx hb hK hG.1 hG.2 hS k t0 qk ci (g_cell hk he) ht hv hc (zI_in h1 h2 h3) hdg (fun H1 locs1 hP hD hS => kk _ H1 locs1 rfl ?_ hS)
  rw [zI_clamp h1 (by omega), g_set hk he' (gCell_R hk2) rfl rfl] at hP hD
  exact ⟨hP, hD⟩
end GA
def cShipN (u : gS) (q : Nat) (x y e n : Int) : gS := sI (sR (sP u (u.2.2.2.1 ++ [q]) (va_up u.2.2.2.2 q (.inr (6, [.int (zI x), .int (zI y), .int (zI e), .int (zI n)])))) 21 (va_up (u.2.2.1 21) (u.1 3).toNat (some q))) 3 (u.1 3 + 1)
theorem up_up {α : Type} (f : Nat → α) (k : Nat) (v w : α) : va_up (va_up f k v) k w = va_up f k w := by
  funext j
  unfold va_up
  split <;> rfl
