/-! THE CLAIM OUT OF ONE WALK OF THE LAW'S BODY. Your part is whole_start (and what it stands on); all else here is the same for every law, but numbers. -/
def R_law : String := "StraitSwimLaw"
def lw_P (b : Addr) (xs : List Int32) (args : Array Value) (s : State) : Prop := args = #[.ref b] ∧ s.IntsAt b xs ∧ xs.length ≤ 3072 ∧ (Jvm.Cond.and given_1 narrow_1).before args s = true
def lw_Q (_ : Array Value) (s : State) (o : Outcome) (t : State) : Prop := o = .returned (some (.int 1)) ∧ Framed s o t [] 601024 7293034
def lw_Z (below : List Frame) (a : Array Value) (s : State) : State → Prop := fun t => ∃ o, t.status = .running ∧ Ended t below o ∧ lw_Q a s o t
/-- the law's own end, with 1 on the stack, nothing written that was there before, its room as the claim has it -/
theorem lw_ret {p : Program} {l : Launch} {e : Env} {s : State} {m : MethodId} {below : List Frame} {meth : Method} {c : Code} {b : Nat} (hx : p.tables.exec = Jvm.exec) (hb : c.code = code) (hr : meth.sig.returnType = ret) (hlocks : meth.locks = false) {pc : Nat} {H : Heap} {ls : Array Slot} (hdg : decode code pc = .ok (.ireturn, 1)) : W p l e room_1 s m #[Value.ref b] below meth c H [] 601024 7293034 (lw_Z below #[Value.ref b] s) (F0 m pc ls [.int 1]) := by
  intro T hT X
  obtain ⟨fs, hret, hrun, hended, hW, hframe⟩ := X.leave (v := some (.int 1)) (hlocks := hlocks) (fun h => by rw [hr] at h; cases h)
  have hmeth' : T.vm.method? m = some meth := X.method'
  refine ⟨T.setFrames fs, ?_, .returned (some (.int 1)), hrun, hended, rfl, ⟨_, rfl⟩, hW, hframe⟩
  jvm_step X.here [X.here.top, hx, hb, hdg, hmeth', hr, ret, narrow_b1]
  (try refine ⟨rfl, ?_⟩); (try refine ⟨rfl, ?_⟩)
  first | (intro acts; rw [hret _ acts rfl rfl rfl]) | rw [hret _ _ rfl rfl rfl]
  exact Steps.refl _
/-- what holds at the law's entry: the machine, the code, the tables' words (any of lw_tbl by 'hts w (by decide +kernel)'), the script of L ints xs at the cell b, what the Statement gives of the start (any of its parts by flat_of_before) -/
def lw_At (p : Program) (s : State) (m : MethodId) (meth : Method) (c : Code) (b L : Nat) (xs : Nat → Int32) : Prop :=
  p.tables.exec = Jvm.exec ∧ c.code = code ∧ meth.sig.returnType = ret ∧ c.maxLocals = 8 ∧ s.vm.findClass R_law = some m.cls ∧ (∀ w ∈ lw_tbl, w.before #[Value.ref b] s = true) ∧ va_X b L xs s s.heap ∧ b < s.heap.size ∧ meth.locks = false ∧ (Jvm.Cond.and given_1 narrow_1).before #[Value.ref b] s = true
set_option maxHeartbeats 4000000 in
set_option maxRecDepth 100000 in
/-- one call of the script: the switch and its cases -/
theorem law_case {p : Program} {l : Launch} {e : Env} {s : State} {m : MethodId} {below : List Frame} {meth : Method} {c : Code} {b L : Nat} {ys : Nat → Int} {D : va_G} {cy : Nat → ClassId} {ad : Nat → Nat} {A : Nat → Prop} {jf : Nat → Int64} {u : gS} {H : Heap} {locs : List Loc} {ls : Array Slot} {cells slots : Nat} {Q : State → Prop} {i z : Int} (E : lE p l s m meth c b L ys D cy A) (hR : Rel cy u) (hG : gH D cy ad jf A u H) (hS : va_S A s.heap H locs) (hl : lv_has ls 8 (lV ad b i)) (hi : 0 ≤ i ∧ i + 6 ≤ (L : Int)) (hcs : cells + 3 ≤ 601024 ∧ slots + 300 ≤ 7293034) (hz : 0 ≤ z ∧ z ≤ 63) (kk : ∀ (u' : gS) (jf' : Nat → Int64) (H' : Heap) (locs' : List Loc) (ls' : Array Slot), Rel cy u' → gH D cy ad jf' A u' H' → va_S A s.heap H' locs' → lv_has ls' 8 (lV ad b i) → W p l e room_1 s m #[Value.ref b] below meth c H' locs' (cells + 3) (slots + 300) Q (F0 m 1602 ls' [])) : W p l e room_1 s m #[Value.ref b] below meth c H locs cells slots Q (F0 m 40 ls [.int (zI z)]) := by
  have hx := E.1
  have hb := E.2.1
  rcases (show z = 0 ∨ z = 1 ∨ z = 2 ∨ z = 3 ∨ z = 4 ∨ z = 5 ∨ z = 6 ∨ z = 7 ∨ z = 8 ∨ z = 9 ∨ z = 10 ∨ z = 11 ∨ z = 12 ∨ z = 13 ∨ z = 14 ∨ z = 15 ∨ z = 16 ∨ z = 17 ∨ z = 18 ∨ z = 19 ∨ z = 20 ∨ z = 21 ∨ z = 22 ∨ z = 23 ∨ z = 24 ∨ z = 25 ∨ z = 26 ∨ z = 27 ∨ z = 28 ∨ z = 29 ∨ z = 30 ∨ z = 31 ∨ z = 32 ∨ z = 33 ∨ 33 < z by omega) with hk | hk | hk | hk | hk | hk | hk | hk | hk | hk | hk | hk | hk | hk | hk | hk | hk | hk | hk | hk | hk | hk | hk | hk | hk | hk | hk | hk | hk | hk | hk | hk | hk | hk | hk
  · subst hk
    refine lv_tableIn (off := 152) (tgt := 192) hx hb dL_law_40 (by decide) (by decide) (by decide) (by decide) ?_
    exact lc_0 E hR hG hS hl hi hcs kk
  · subst hk
    refine lv_tableIn (off := 229) (tgt := 269) hx hb dL_law_40 (by decide) (by decide) (by decide) (by decide) ?_
    exact lc_1 E hR hG hS hl hi hcs kk
  · subst hk
    refine lv_tableIn (off := 266) (tgt := 306) hx hb dL_law_40 (by decide) (by decide) (by decide) (by decide) ?_
    exact lc_2 E hR hG hS hl hi hcs kk
  · subst hk
    refine lv_tableIn (off := 327) (tgt := 367) hx hb dL_law_40 (by decide) (by decide) (by decide) (by decide) ?_
    exact lc_3 E hR hG hS hl hi hcs kk
  · subst hk
    refine lv_tableIn (off := 418) (tgt := 458) hx hb dL_law_40 (by decide) (by decide) (by decide) (by decide) ?_
    exact lc_4 E hR hG hS hl hi hcs kk
  · subst hk
    refine lv_tableIn (off := 455) (tgt := 495) hx hb dL_law_40 (by decide) (by decide) (by decide) (by decide) ?_
    exact lc_5 E hR hG hS hl hi hcs kk
  · subst hk
    refine lv_tableIn (off := 504) (tgt := 544) hx hb dL_law_40 (by decide) (by decide) (by decide) (by decide) ?_
    exact lc_6 E hR hG hS hl hi hcs kk
  · subst hk
    refine lv_tableIn (off := 541) (tgt := 581) hx hb dL_law_40 (by decide) (by decide) (by decide) (by decide) ?_
    exact lc_7 E hR hG hS hl hi hcs kk
  · subst hk
    refine lv_tableIn (off := 590) (tgt := 630) hx hb dL_law_40 (by decide) (by decide) (by decide) (by decide) ?_
    exact lc_8 E hR hG hS hl hi hcs kk
  · subst hk
    refine lv_tableIn (off := 663) (tgt := 703) hx hb dL_law_40 (by decide) (by decide) (by decide) (by decide) ?_
    exact lc_9 E hR hG hS hl hi hcs kk
  · subst hk
    refine lv_tableIn (off := 688) (tgt := 728) hx hb dL_law_40 (by decide) (by decide) (by decide) (by decide) ?_
    exact lc_10 E hR hG hS hl hi hcs kk
  · subst hk
    refine lv_tableIn (off := 713) (tgt := 753) hx hb dL_law_40 (by decide) (by decide) (by decide) (by decide) ?_
    exact lc_11 E hR hG hS hl hi hcs kk
  · subst hk
    refine lv_tableIn (off := 762) (tgt := 802) hx hb dL_law_40 (by decide) (by decide) (by decide) (by decide) ?_
    exact lc_12 E hR hG hS hl hi hcs kk
  · subst hk
    refine lv_tableIn (off := 823) (tgt := 863) hx hb dL_law_40 (by decide) (by decide) (by decide) (by decide) ?_
    exact lc_13 E hR hG hS hl hi hcs kk
  · subst hk
    refine lv_tableIn (off := 884) (tgt := 924) hx hb dL_law_40 (by decide) (by decide) (by decide) (by decide) ?_
    exact lc_14 E hR hG hS hl hi hcs kk
  · subst hk
    refine lv_tableIn (off := 909) (tgt := 949) hx hb dL_law_40 (by decide) (by decide) (by decide) (by decide) ?_
    exact lc_15 E hR hG hS hl hi hcs kk
  · subst hk
    refine lv_tableIn (off := 922) (tgt := 962) hx hb dL_law_40 (by decide) (by decide) (by decide) (by decide) ?_
    exact lc_16 E hR hG hS hl hi hcs kk
  · subst hk
    refine lv_tableIn (off := 947) (tgt := 987) hx hb dL_law_40 (by decide) (by decide) (by decide) (by decide) ?_
    exact lc_17 E hR hG hS hl hi hcs kk
  · subst hk
    refine lv_tableIn (off := 960) (tgt := 1000) hx hb dL_law_40 (by decide) (by decide) (by decide) (by decide) ?_
    exact lc_18 E hR hG hS hl hi hcs kk
  · subst hk
    refine lv_tableIn (off := 997) (tgt := 1037) hx hb dL_law_40 (by decide) (by decide) (by decide) (by decide) ?_
    exact lc_19 E hR hG hS hl hi hcs kk
  · subst hk
    refine lv_tableIn (off := 1022) (tgt := 1062) hx hb dL_law_40 (by decide) (by decide) (by decide) (by decide) ?_
    exact lc_20 E hR hG hS hl hi hcs kk
  · subst hk
    refine lv_tableIn (off := 1047) (tgt := 1087) hx hb dL_law_40 (by decide) (by decide) (by decide) (by decide) ?_
    exact lc_21 E hR hG hS hl hi hcs kk
  · subst hk
    refine lv_tableIn (off := 1072) (tgt := 1112) hx hb dL_law_40 (by decide) (by decide) (by decide) (by decide) ?_
    exact lc_22 E hR hG hS hl hi hcs kk
  · subst hk
    refine lv_tableIn (off := 1085) (tgt := 1125) hx hb dL_law_40 (by decide) (by decide) (by decide) (by decide) ?_
    exact lc_23 E hR hG hS hl hi hcs kk
  · subst hk
    refine lv_tableIn (off := 1138) (tgt := 1178) hx hb dL_law_40 (by decide) (by decide) (by decide) (by decide) ?_
    exact lc_24 E hR hG hS hl hi hcs kk
  · subst hk
    refine lv_tableIn (off := 1199) (tgt := 1239) hx hb dL_law_40 (by decide) (by decide) (by decide) (by decide) ?_
    exact lc_25 E hR hG hS hl hi hcs kk
  · subst hk
    refine lv_tableIn (off := 1212) (tgt := 1252) hx hb dL_law_40 (by decide) (by decide) (by decide) (by decide) ?_
    exact lc_26 E hR hG hS hl hi hcs kk
  · subst hk
    refine lv_tableIn (off := 1249) (tgt := 1289) hx hb dL_law_40 (by decide) (by decide) (by decide) (by decide) ?_
    exact lc_27 E hR hG hS hl hi hcs kk
  · subst hk
    refine lv_tableIn (off := 1274) (tgt := 1314) hx hb dL_law_40 (by decide) (by decide) (by decide) (by decide) ?_
    exact lc_28 E hR hG hS hl hi hcs kk
  · subst hk
    refine lv_tableIn (off := 1323) (tgt := 1363) hx hb dL_law_40 (by decide) (by decide) (by decide) (by decide) ?_
    exact lc_29 E hR hG hS hl hi hcs kk
  · subst hk
    refine lv_tableIn (off := 1372) (tgt := 1412) hx hb dL_law_40 (by decide) (by decide) (by decide) (by decide) ?_
    exact lc_30 E hR hG hS hl hi hcs kk
  · subst hk
    refine lv_tableIn (off := 1439) (tgt := 1479) hx hb dL_law_40 (by decide) (by decide) (by decide) (by decide) ?_
    exact lc_31 E hR hG hS hl hi hcs kk
  · subst hk
    refine lv_tableIn (off := 1512) (tgt := 1552) hx hb dL_law_40 (by decide) (by decide) (by decide) (by decide) ?_
    exact lc_32 E hR hG hS hl hi hcs kk
  · subst hk
    refine lv_tableIn (off := 1537) (tgt := 1577) hx hb dL_law_40 (by decide) (by decide) (by decide) (by decide) ?_
    exact lc_33 E hR hG hS hl hi hcs kk
  · refine lv_tableOut (tgt := 1602) hx hb dL_law_40 (Or.inr (by rw [zI_toInt (by omega) (by omega)]; exact hk)) (by decide) ?_
    exact W.widen (k := cells + 3) (n := slots + 300) (by omega) (by omega) (kk u jf H locs ls hR hG hS hl)
set_option maxHeartbeats 4000000 in
set_option maxRecDepth 100000 in
theorem law_loop {p : Program} {l : Launch} {e : Env} {s : State} {m : MethodId} {below : List Frame} {meth : Method} {c : Code} {b L : Nat} {ys : Nat → Int} {D : va_G} {cy : Nat → ClassId} {ad : Nat → Nat} {A : Nat → Prop} (E : lE p l s m meth c b L ys D cy A) (hr : meth.sig.returnType = ret) (hlocks : meth.locks = false) (hAs : ∀ q, A q → s.heap.size ≤ q) : ∀ (n i : Nat) (u : gS) (jf : Nat → Int64) (H : Heap) (locs : List Loc) (ls : Array Slot), L < i + 6 * n → i ≤ 3100 → Rel cy u → gH D cy ad jf A u H → va_S A s.heap H locs → lv_has ls 8 (lV ad b (i : Int)) → W p l e room_1 s m #[Value.ref b] below meth c H locs (100 + i) (5000 + 50 * i) (lw_Z below #[Value.ref b] s) (F0 m 23 ls []) := by
  intro n
  induction n with
  | zero =>
    intro i u jf H locs ls hn hi3 hR hG hS hl
    obtain ⟨hx, hb, hml, hown, hts, hX, hbl, hbA, hC, hTh, hl9, hys, hL⟩ := E
    have hl : lv_has ls 8 [(0, .ref b), (1, .ref (ad 0)), (2, .ref (ad 8)), (3, .ref (ad 64)), (4, .int (zI (i : Int)))] := hl
    refine lv_iload hx hb dL_law_23 (lv_at hl 4 rfl) ?_
    refine lv_aload_n hx hb dL_law_25 rfl (lv_at hl 0 rfl) ?_
    refine va_slen hx hb hX hbl hbA hS dL_law_26 ?_
    rw [show Int32.ofNat L = zI (L : Int) from (zI_nat L).symm]
    refine z_bipush hx hb dL_law_27 (by decide) ?_
    refine z_isub hx hb dL_law_29 ?_
    refine z_icmp_gt (tgt := 1608) hx hb dL_law_30 (by decide) (by omega) (by omega) (by omega) (by omega) (fun c1 => ?_) (fun c1 => ?_)
    · refine lv_iconst (v := 1) hx hb dL_law_1608 (by decide) ?_
      refine va_forget (fun q hq => hAs _ (hS.2.2 q hq)) ?_
      refine W.widen (k := 601024) (n := 7293034) (by omega) (by omega) ?_
      exact lw_ret hx hb hr hlocks dL_law_1609
    · exfalso
      omega
  | succ n ih =>
    intro i u jf H locs ls hn hi3 hR hG hS hl
    have E2 := E
    obtain ⟨hx, hb, hml, hown, hts, hX, hbl, hbA, hC, hTh, hl9, hys, hL⟩ := E2
    have hl2 := hl
    have hl : lv_has ls 8 [(0, .ref b), (1, .ref (ad 0)), (2, .ref (ad 8)), (3, .ref (ad 64)), (4, .int (zI (i : Int)))] := hl
    refine lv_iload hx hb dL_law_23 (lv_at hl 4 rfl) ?_
    refine lv_aload_n hx hb dL_law_25 rfl (lv_at hl 0 rfl) ?_
    refine va_slen hx hb hX hbl hbA hS dL_law_26 ?_
    rw [show Int32.ofNat L = zI (L : Int) from (zI_nat L).symm]
    refine z_bipush hx hb dL_law_27 (by decide) ?_
    refine z_isub hx hb dL_law_29 ?_
    refine z_icmp_gt (tgt := 1608) hx hb dL_law_30 (by decide) (by omega) (by omega) (by omega) (by omega) (fun c1 => ?_) (fun c1 => ?_)
    · refine lv_iconst (v := 1) hx hb dL_law_1608 (by decide) ?_
      refine va_forget (fun q hq => hAs _ (hS.2.2 q hq)) ?_
      refine W.widen (k := 601024) (n := 7293034) (by omega) (by omega) ?_
      exact lw_ret hx hb hr hlocks dL_law_1609
    · refine lv_aload_n hx hb dL_law_33 rfl (lv_at hl 0 rfl) ?_
      refine lv_iload hx hb dL_law_34 (lv_at hl 4 rfl) ?_
      refine g_sld hx hb hX hbl hbA hS (by omega) (by omega) (by omega) rfl dL_law_36 ?_
      refine z_bipush hx hb dL_law_37 (by decide) ?_
      refine z_iand hx hb dL_law_39 ?_
      refine law_case E hR hG hS hl2 ⟨by omega, by omega⟩ ⟨by omega, by omega⟩ (bAnd_63 _) (fun u' jf' H' locs' ls' hR' hG' hS' hl' => ?_)
      have hl' : lv_has ls' 8 [(0, .ref b), (1, .ref (ad 0)), (2, .ref (ad 8)), (3, .ref (ad 64)), (4, .int (zI (i : Int)))] := hl'
      refine z_iinc (lv' := [(4, .int (zI ((i : Int) + 6))), (0, .ref b), (1, .ref (ad 0)), (2, .ref (ad 8)), (3, .ref (ad 64))]) hx hb dL_law_1602 hl' (k := 4) rfl (by decide) rfl (fun ls9 hl9 => ?_)
      refine lv_goto (tgt := 23) hx hb dL_law_1605 (by decide) ?_
      refine W.widen (k := 100 + (i + 6)) (n := 5000 + 50 * (i + 6)) (by omega) (by omega) ?_
      refine ih (i + 6) u' jf' H' locs' ls9 (by omega) (by omega) hR' hG' hS' ?_
      have e6 : ((i + 6 : Nat) : Int) = (i : Int) + 6 := by omega
      rw [e6]
      exact lv_sub hl9 [1, 2, 3, 4, 0] rfl
