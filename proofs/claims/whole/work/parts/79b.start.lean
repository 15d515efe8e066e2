section PJ
variable {p : Program} {l : Launch} {e : Env} {R : Room} {s : State} {m : MethodId} {args : Array Value} {below : List Frame} {meth : Method} {c : Code} {H : Heap} {locs : List Loc} {cells slots : Nat} {Q : State → Prop}
variable {cc : ByteArray} {pc : Nat} {ls : Array Slot} {rest : List Value} {D : va_G} {cy : Nat → ClassId} {A : Nat → Prop} {u : pS}
theorem p_newJ (hx : p.tables.exec = Jvm.exec) (hb : c.code = cc) (harr : (Cond.arrayClass (newarray.typeOf .long)).before args s = true) (hK : va_K D vwCl (gTy cy) s) (hA : ∀ q : Nat, s.heap.size ≤ q → A q) (hG : pH D A u H) (hS : va_S A s.heap H locs) (hcells : cells + 1 ≤ R.cells) (hslots : slots + 1 ≤ R.slots) (hdg : decode cc pc = .ok (.newarray .long, 2)) (kk : ∀ (q : Nat) (u' : pS) (H1 : Heap), u'.1 = u.1 ++ [q] → u'.2 q = .inl (cy 6, 1, .inr (.inl (fun _ => 0))) → (∀ x, x ∈ u.1 → u'.2 x = u.2 x) → pH D A u' H1 → va_S A s.heap H1 locs → W p l e R s m args below meth c H1 locs (cells + 1) (slots + 1) Q (F0 m (pc + 2) ls (.ref q :: rest))) : W p l e R s m args below meth c H locs cells slots Q (F0 m pc ls (.int (zI 1) :: rest)) := by
  have hc9 : componentBytes .long ≤ 8 := by decide
  have hb9 : 1 * componentBytes .long ≤ 536870912 := Nat.le_trans (Nat.mul_le_mul (Nat.le_refl 1) hc9) (by decide)
  have hn9 : ¬ zI 1 < 0 := by
    rw [show (0 : Int32) = zI 0 from rfl, zI_lt (by omega) (by omega) (by omega) (by omega)]
    omega
  have hN9 : (zI 1).toNatClampNeg = 1 := zI_clamp (z := 1) (by omega) (by omega)
  refine va_newa (ty := .long) (a0 := (1, .inr (.inl (fun _ => 0)))) (N' := 1) hx hb harr rfl hK hG.1 hG.2 hS hA (fun _ => rfl) hn9 hN9 hb9 hcells hslots hdg (fun q cA H1 hK9 hP hD hS => ?_)
  have ecA : cA = cy 6 := Option.some.inj ((va_nm_long (hK9.2 7 (cA, .long) rfl).2).symm.trans (va_nm_long (hK.2 6 (cy 6, .long) rfl).2))
  rw [ecA] at hP hD
  obtain ⟨u', a1, a2, a3, -, a5⟩ := p_push hP hD
  exact kk q u' H1 a1 a2 a3 a5 hS
end PJ
set_option maxHeartbeats 1600000 in
set_option maxRecDepth 100000 in
theorem start_C {p : Program} {l : Launch} {e : Env} {s : State} {m : MethodId} {below : List Frame} {meth : Method} {c : Code} {b L : Nat} {ys : Nat → Int} {D : va_G} {cy : Nat → ClassId} {A : Nat → Prop} (hE : lE p l s m meth c b L ys D cy A) (hr : meth.sig.returnType = ret) (hlocks : meth.locks = false) (hA : ∀ q : Nat, s.heap.size ≤ q → A q) (hAs : ∀ q : Nat, A q → s.heap.size ≤ q) (hts : ∀ w ∈ lw_tbl, w.before #[Value.ref b] s = true) {v2 v4 : pS} {a0 m0 : Nat} {H : Heap} {locs : List Loc} {ls : Array Slot} {cells slots : Nat} (hcp : cPool cy v2 a0) (hmp : mPool cy v4 v2.1 m0) (hsm : ∀ x, x ∈ v2.1 → v4.2 x = v2.2 x) (hG : pH D A v4 H) (hS : va_S A s.heap H locs) (hl : lv_has ls 8 [(2, .ref m0), (1, .ref a0), (0, .ref b)]) (hc1 : cells ≤ 90) (hc2 : slots ≤ 4900) : W p l e room_1 s m #[Value.ref b] below meth c H locs cells slots (lw_Z below #[Value.ref b] s) (F0 m 16 ls []) := by
  have hE2 := hE
  obtain ⟨hx, hb, hml, hown, htw, hX, hbl, hbA, hC, hTh, hl9, hys, hL⟩ := hE2
  have hK := hC.1
  refine z_iconst hx hb dL_law_16 ?_
  refine p_newJ (D := D) (cy := cy) hx hb (hts (.arrayClass .long) (List.mem_append_right _ (List.mem_of_getElem? (i := 1110) (by decide +kernel)))) hK hA hG hS (by show _ ≤ 601024; omega) (by show _ ≤ 7293034; omega) dL_law_17 (fun q64 v5 H h1 h2 h3 hG hS => ?_)
  obtain ⟨ad, hGW, d0, d8, d64⟩ := first_G hcp hmp hsm h1 h2 h3 hG
  refine lv_astore_n (lv' := [(3, .ref q64), (2, .ref m0), (1, .ref a0), (0, .ref b)]) hx hb dL_law_19 rfl hl (by decide) rfl (fun ls hl => ?_)
  refine z_iconst hx hb dL_law_20 ?_
  refine lv_istore (lv' := [(4, .int (zI 0)), (3, .ref q64), (2, .ref m0), (1, .ref a0), (0, .ref b)]) hx hb dL_law_21 hl (by decide) rfl (fun ls hl => ?_)
  refine W.widen (k := 100 + 0) (n := 5000 + 50 * 0) (by omega) (by omega) ?_
  refine law_loop hE hr hlocks hAs (L + 1) 0 u00 (fun _ => 0) H locs ls (by omega) (by omega) (Rel_0 cy) hGW hS ?_
  have hl := lv_sub (l' := [(0, .ref b), (1, .ref a0), (2, .ref m0), (3, .ref q64), (4, .int (zI 0))]) hl [4, 3, 2, 1, 0] rfl
  rw [← d0, ← d8, ← d64] at hl
  exact hl
