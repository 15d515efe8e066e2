theorem gW_jf {cy : Nat → ClassId} {ad : Nat → Nat} {jf jf' : Nat → Int64} {u : gS} : (gW cy ad jf u).set 64 (ad 64, .inl (cy 6, 1, .inr (.inl jf'))) = gW cy ad jf' u := by
  have h1 : 64 < (gFx cy ad jf u).length := by rw [gFx_len]; decide
  have h2 : (gFx cy ad jf u).set 64 (ad 64, .inl (cy 6, 1, .inr (.inl jf'))) = gFx cy ad jf' u := by
    apply List.ext_getElem?
    intro i
    rw [List.getElem?_set]
    by_cases hi : 64 = i
    · subst hi
      simp [gFx, gCell]
    · by_cases h65 : i < 65
      · have h64 : i ≠ 64 := fun h => hi h.symm
        simp [gFx, hi, h65, gCell, h64]
      · simp [gFx, hi, h65]
  rw [gW, gW, List.set_append_left 64 _ h1, h2]
section GJ
variable {p : Program} {l : Launch} {e : Env} {R : Room} {s : State} {m : MethodId} {args : Array Value} {below : List Frame} {meth : Method} {c : Code} {H : Heap} {locs : List Loc} {cells slots : Nat} {Q : State → Prop}
variable {cc : ByteArray} {pc : Nat} {ls : Array Slot} {rest : List Value} {D : va_G} {cy : Nat → ClassId} {ad : Nat → Nat} {jf : Nat → Int64} {A : Nat → Prop} {u : gS} {H0 : Heap}
theorem g_last (hx : p.tables.exec = Jvm.exec) (hb : c.code = cc) (hK : va_K D vwCl (gTy cy) s) (hG : gH D cy ad jf A u H) (hS : va_S A H0 H locs) {v : Int64} (hdg : decode cc pc = .ok (.lastore, 1)) (kk : ∀ (jf' : Nat → Int64) (H1 : Heap) (locs1 : List Loc), jf' 0 = v → gH D cy ad jf' A u H1 → va_S A H0 H1 locs1 → W p l e R s m args below meth c H1 locs1 cells slots Q (F0 m (pc + 1) ls rest)) : W p l e R s m args below meth c H locs cells slots Q (F0 m pc ls (.long v :: .int (zI 0) :: .ref (ad 64) :: rest)) := by
  refine va_last hx hb hK hG.1 hG.2 hS 64 6 (g_cell (by decide) rfl) rfl (i := zI 0) (x := v) (zI_in (by decide) (by decide) (by decide)) hdg (fun H1 locs1 hP hD hS => ?_)
  rw [gW_jf] at hP hD
  exact kk _ H1 locs1 (by simp [vp_updL, show (zI 0).toNatClampNeg = 0 from by decide]) ⟨hP, hD⟩ hS
theorem g_lald (hx : p.tables.exec = Jvm.exec) (hb : c.code = cc) (hK : va_K D vwCl (gTy cy) s) (hG : gH D cy ad jf A u H) (hdg : decode cc pc = .ok (.laload, 1)) (kk : W p l e R s m args below meth c H locs cells slots Q (F0 m (pc + 1) ls (.long (jf 0) :: rest))) : W p l e R s m args below meth c H locs cells slots Q (F0 m pc ls (.int (zI 0) :: .ref (ad 64) :: rest)) :=
  va_lald hx hb hK hG.1 64 6 (g_cell (by decide) rfl) rfl (i := zI 0) (zI_in (by decide) (by decide) (by decide)) hdg kk
end GJ
