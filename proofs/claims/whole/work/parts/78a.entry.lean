theorem ty_int {args : Array Value} {s : State} (h : (Cond.arrayClass .int).before args s = true) : ∃ cA, ArrOfT s cA .int ∧ va_RA s cA .int := by
  obtain ⟨c, k, comp, h1, h2, h3⟩ := Cond.arrayClass_spec h
  exact ⟨c, fun n z => ⟨fun k h => (by cases h), k, h2, comp, h3⟩, h1⟩
theorem ty_short {args : Array Value} {s : State} (h : (Cond.arrayClass .short).before args s = true) : ∃ cA, ArrOfT s cA .short ∧ va_RA s cA .short := by
  obtain ⟨c, k, comp, h1, h2, h3⟩ := Cond.arrayClass_spec h
  exact ⟨c, fun n z => ⟨fun k h => (by cases h), k, h2, comp, h3⟩, h1⟩
theorem ty_boolean {args : Array Value} {s : State} (h : (Cond.arrayClass .boolean).before args s = true) : ∃ cA, ArrOfT s cA .boolean ∧ va_RA s cA .boolean := by
  obtain ⟨c, k, comp, h1, h2, h3⟩ := Cond.arrayClass_spec h
  exact ⟨c, fun n z => ⟨fun k h => (by cases h), k, h2, comp, h3⟩, h1⟩
theorem ty_long {args : Array Value} {s : State} (h : (Cond.arrayClass .long).before args s = true) : ∃ cA, ArrOfT s cA .long ∧ va_RA s cA .long := by
  obtain ⟨c, k, comp, h1, h2, h3⟩ := Cond.arrayClass_spec h
  exact ⟨c, fun n z => ⟨fun k h => (by cases h), k, h2, comp, h3⟩, h1⟩
theorem ty_obj {C : String} {s : State} (h : va_AO C s) : ∃ cA, ArrOfT s cA (.object C) ∧ va_RA s cA (.object C) := by
  obtain ⟨comp, c, k, h1, -, h3, h4, h5⟩ := Cond.arrayOver_spec h
  exact ⟨c, fun n z => ⟨fun k h => (by cases h), k, h3, comp, h4⟩, k, comp, h3, h4, h1, h5⟩
set_option maxRecDepth 20000 in
theorem en_AO {args : Array Value} {s : State} (hts : ∀ w ∈ lw_tbl, w.before args s = true) : va_AO RX3 s ∧ va_AO RX7 s ∧ va_AO RX1 s := ⟨va_AO.of (hts (.arrayOver (.object RX3)) (List.mem_append_right _ (List.mem_of_getElem? (i := 57) (by decide +kernel)))), va_AO.of (hts (.arrayOver (.object RX7)) (List.mem_append_right _ (List.mem_of_getElem? (i := 98) (by decide +kernel)))), va_AO.of (hts (.arrayOver (.object RX1)) (List.mem_append_right _ (List.mem_of_getElem? (i := 144) (by decide +kernel))))⟩
set_option maxRecDepth 20000 in
theorem en_ty {args : Array Value} {s : State} (hts : ∀ w ∈ lw_tbl, w.before args s = true) : ∃ cy : Nat → ClassId, ∀ (k : Nat) (q : ClassId × FieldType), (gTy cy)[k]? = some q → ArrOfT s q.1 q.2 ∧ va_RA s q.1 q.2 := by
  obtain ⟨a3, a7, a1⟩ := en_AO hts
  obtain ⟨c0, h0⟩ := ty_int (hts (.arrayClass .int) (List.mem_append_right _ (List.mem_of_getElem? (i := 55) (by decide +kernel))))
  obtain ⟨c1, h1⟩ := ty_short (hts (.arrayClass .short) (List.mem_append_right _ (List.mem_of_getElem? (i := 585) (by decide +kernel))))
  obtain ⟨c2, h2⟩ := ty_boolean (hts (.arrayClass .boolean) (List.mem_append_right _ (List.mem_of_getElem? (i := 54) (by decide +kernel))))
  obtain ⟨c3, h3⟩ := ty_obj a1
  obtain ⟨c4, h4⟩ := ty_obj a3
  obtain ⟨c5, h5⟩ := ty_obj a7
  obtain ⟨c6, h6⟩ := ty_long (hts (.arrayClass .long) (List.mem_append_right _ (List.mem_of_getElem? (i := 1110) (by decide +kernel))))
  refine ⟨fun k => if k = 0 then c0 else if k = 1 then c1 else if k = 2 then c2 else if k = 3 then c3 else if k = 4 then c4 else if k = 5 then c5 else c6, ?_⟩
  intro k q hq
  match k, hq with
  | 0, hq => cases hq; exact h0
  | 1, hq => cases hq; exact h1
  | 2, hq => cases hq; exact h2
  | 3, hq => cases hq; exact h3
  | 4, hq => cases hq; exact h4
  | 5, hq => cases hq; exact h5
  | 6, hq => cases hq; exact h6
  | k + 7, hq => simp [gTy] at hq
set_option maxRecDepth 20000 in
theorem en_cl {args : Array Value} {s : State} (hts : ∀ w ∈ lw_tbl, w.before args s = true) : ∃ D : va_G, ∀ (k : Nat) (q : vw_C), vwCl[k]? = some q → u_Kn s q.1 q.2.1 q.2.2 (D.1 k) (D.2 k) := by
  obtain ⟨c0, i0, h0⟩ := u_known (C := RX0) (T := TX0) (N := 4) (n := 4) hts inX0 (hts (.instantiable RX0 4) (List.mem_append_right _ (List.mem_of_getElem? (i := 231) (by decide +kernel))))
  obtain ⟨c1, i1, h1⟩ := u_known (C := RX2) (T := TX2) (N := 7) (n := 7) hts inX2 (hts (.instantiable RX2 7) (List.mem_append_right _ (List.mem_of_getElem? (i := 115) (by decide +kernel))))
  obtain ⟨c2, i2, h2⟩ := u_known (C := RX3) (T := TX3) (N := 4) (n := 4) hts inX3 (hts (.instantiable RX3 4) (List.mem_append_right _ (List.mem_of_getElem? (i := 284) (by decide +kernel))))
  obtain ⟨c3, i3, h3⟩ := u_known (C := RX4) (T := TX4) (N := 4) (n := 4) hts inX4 (hts (.instantiable RX4 4) (List.mem_append_right _ (List.mem_of_getElem? (i := 263) (by decide +kernel))))
  obtain ⟨c4, i4, h4⟩ := u_known (C := RX5) (T := TX5) (N := 2) (n := 2) hts inX5 (hts (.instantiable RX5 2) (List.mem_append_right _ (List.mem_of_getElem? (i := 571) (by decide +kernel))))
  obtain ⟨c5, i5, h5⟩ := u_known (C := RX6) (T := TX6) (N := 4) (n := 4) hts inX6 (hts (.instantiable RX6 4) (List.mem_append_right _ (List.mem_of_getElem? (i := 274) (by decide +kernel))))
  obtain ⟨c6, i6, h6⟩ := u_known (C := RX7) (T := TX7) (N := 4) (n := 4) hts inX7 (hts (.instantiable RX7 4) (List.mem_append_right _ (List.mem_of_getElem? (i := 402) (by decide +kernel))))
  obtain ⟨c7, i7, h7⟩ := u_known (C := RX8) (T := TX8) (N := 4) (n := 4) hts inX8 (hts (.instantiable RX8 4) (List.mem_append_right _ (List.mem_of_getElem? (i := 31) (by decide +kernel))))
  obtain ⟨c8, i8, h8⟩ := u_known (C := RX9) (T := TX9) (N := 9) (n := 9) hts inX9 (hts (.instantiable RX9 9) (List.mem_append_right _ (List.mem_of_getElem? (i := 59) (by decide +kernel))))
  obtain ⟨c9, i9, h9⟩ := u_known (C := RX10) (T := TX10) (N := 2) (n := 2) hts inX10 (hts (.instantiable RX10 2) (List.mem_append_right _ (List.mem_of_getElem? (i := 100) (by decide +kernel))))
  obtain ⟨c10, i10, h10⟩ := u_known (C := RX11) (T := TX11) (N := 14) (n := 14) hts inX11 (hts (.instantiable RX11 14) (List.mem_append_right _ (List.mem_of_getElem? (i := 23) (by decide +kernel))))
  obtain ⟨c11, i11, h11⟩ := u_known (C := RX12) (T := TX12) (N := 42) (n := 42) hts inX12 (hts (.instantiable RX12 42) (List.mem_append_right _ (List.mem_of_getElem? (i := 753) (by decide +kernel))))
  refine ⟨(fun k => if k = 0 then c0 else if k = 1 then c1 else if k = 2 then c2 else if k = 3 then c3 else if k = 4 then c4 else if k = 5 then c5 else if k = 6 then c6 else if k = 7 then c7 else if k = 8 then c8 else if k = 9 then c9 else if k = 10 then c10 else c11, fun k => if k = 0 then i0 else if k = 1 then i1 else if k = 2 then i2 else if k = 3 then i3 else if k = 4 then i4 else if k = 5 then i5 else if k = 6 then i6 else if k = 7 then i7 else if k = 8 then i8 else if k = 9 then i9 else if k = 10 then i10 else i11), ?_⟩
  intro k q hq
  match k, hq with
  | 0, hq => cases hq; exact h0
  | 1, hq => cases hq; exact h1
  | 2, hq => cases hq; exact h2
  | 3, hq => cases hq; exact h3
  | 4, hq => cases hq; exact h4
  | 5, hq => cases hq; exact h5
  | 6, hq => cases hq; exact h6
  | 7, hq => cases hq; exact h7
  | 8, hq => cases hq; exact h8
  | 9, hq => cases hq; exact h9
  | 10, hq => cases hq; exact h10
  | 11, hq => cases hq; exact h11
  | k + 12, hq => simp [vwCl] at hq
set_option maxRecDepth 20000 in
theorem en_N {args : Array Value} {s : State} (hts : ∀ w ∈ lw_tbl, w.before args s = true) (hgv : (Jvm.Cond.and given_1 narrow_1).before args s = true) : gN s := by
  have hfl := flat_of_before _ hgv
  exact ⟨⟨va_Nw.of rfl (hts (.methodLinkNest RX8 26 yX11_isPlace RX11) (List.mem_append_right _ (List.mem_of_getElem? (i := 210) (by decide +kernel)))), va_Nw.of rfl (hts (.methodLinkNest RX9 74 yX11_tideIndex RX11) (List.mem_append_right _ (List.mem_of_getElem? (i := 369) (by decide +kernel)))), va_Nw.of rfl (hts (.methodLinkNest RX9 89 yX11_isPlace RX11) (List.mem_append_right _ (List.mem_of_getElem? (i := 376) (by decide +kernel))))⟩, ⟨va_Nw.of rfl (hts (.fieldLinkNest RX9 77 RX11 "AIM_EAST" "[I" RX11) (List.mem_append_right _ (List.mem_of_getElem? (i := 372) (by decide +kernel)))), va_Nw.of rfl (hts (.fieldLinkNest RX9 83 RX11 "AIM_NORTH" "[I" RX11) (List.mem_append_right _ (List.mem_of_getElem? (i := 374) (by decide +kernel))))⟩, ⟨va_Nw.of rfl (hts (.castable RX0 RX3) (List.mem_append_right _ (List.mem_of_getElem? (i := 1114) (by decide +kernel)))), va_Nw.of rfl (hts (.castable RX4 RX3) (List.mem_append_right _ (List.mem_of_getElem? (i := 1115) (by decide +kernel)))), va_Nw.of rfl (hts (.castable RX6 RX3) (List.mem_append_right _ (List.mem_of_getElem? (i := 1116) (by decide +kernel))))⟩, ⟨va_Nw.of rfl (hts (.castable RX0 RX1) (List.mem_append_right _ (List.mem_of_getElem? (i := 1117) (by decide +kernel)))), va_Nw.of rfl (hts (.castable RX3 RX1) (List.mem_append_right _ (List.mem_of_getElem? (i := 1120) (by decide +kernel)))), va_Nw.of rfl (hts (.castable RX4 RX1) (List.mem_append_right _ (List.mem_of_getElem? (i := 1118) (by decide +kernel)))), va_Nw.of rfl (hts (.castable RX6 RX1) (List.mem_append_right _ (List.mem_of_getElem? (i := 1119) (by decide +kernel)))), va_Nw.of rfl (hts (.castable RX5 RX1) (List.mem_append_right _ (List.mem_of_getElem? (i := 1121) (by decide +kernel))))⟩, ⟨va_Nc.of (hfl (.not (.castable RX5 RX3)) (by decide +kernel)), va_Nc.of (hfl (.not (.castable RX0 RX5)) (by decide +kernel)), va_Nc.of (hfl (.not (.castable RX3 RX5)) (by decide +kernel)), va_Nc.of (hfl (.not (.castable RX4 RX5)) (by decide +kernel)), va_Nc.of (hfl (.not (.castable RX6 RX5)) (by decide +kernel))⟩⟩
set_option maxRecDepth 20000 in
theorem en_I {args : Array Value} {s : State} (hts : ∀ w ∈ lw_tbl, w.before args s = true) : va_Nw (.methodLinkNest RX11 9 yX8_init RX11) s ∧ va_Nw (.methodLinkNest RX11 34 yX9_init RX11) s ∧ va_Nw (.methodLinkNest RX11 68 yX2_init RX11) s := ⟨va_Nw.of rfl (hts (.methodLinkNest RX11 9 yX8_init RX11) (List.mem_append_right _ (List.mem_of_getElem? (i := 32) (by decide +kernel)))), va_Nw.of rfl (hts (.methodLinkNest RX11 34 yX9_init RX11) (List.mem_append_right _ (List.mem_of_getElem? (i := 60) (by decide +kernel)))), va_Nw.of rfl (hts (.methodLinkNest RX11 68 yX2_init RX11) (List.mem_append_right _ (List.mem_of_getElem? (i := 116) (by decide +kernel))))⟩
set_option maxRecDepth 20000 in
theorem en_AIM_EAST {args : Array Value} {s : State} (hts : ∀ w ∈ lw_tbl, w.before args s = true) (hgv : (Jvm.Cond.and given_1 narrow_1).before args s = true) {A : Nat → Prop} (hA : ∀ a : Nat, a < s.heap.size → ¬ A a) : ∃ t, va_Z RX11 "AIM_EAST" "[I" (.ref t) A s s.heap ∧ va_T .int t 8 (fun j => .int (zI (aimE j))) A s s.heap := by
  have hfl := flat_of_before _ hgv
  have hel : ∀ j : Nat, j < 8 → (Term.elem (.static "StraitSwim" "AIM_EAST" "[I") (.int (Int32.ofNat j))).eval args s none [] s = some (.int (zI (aimE j))) := by
    intro j hj
    rcases (show j = 0 ∨ j = 1 ∨ j = 2 ∨ j = 3 ∨ j = 4 ∨ j = 5 ∨ j = 6 ∨ j = 7 by omega) with rfl | rfl | rfl | rfl | rfl | rfl | rfl | rfl
    · exact va_eqt (hfl (.eq (.elem (.static "StraitSwim" "AIM_EAST" "[I") (.int 0)) (.int 1)) (by decide +kernel))
    · exact va_eqt (hfl (.eq (.elem (.static "StraitSwim" "AIM_EAST" "[I") (.int 1)) (.int 1)) (by decide +kernel))
    · exact va_eqt (hfl (.eq (.elem (.static "StraitSwim" "AIM_EAST" "[I") (.int 2)) (.int 0)) (by decide +kernel))
    · exact va_eqt (hfl (.eq (.elem (.static "StraitSwim" "AIM_EAST" "[I") (.int 3)) (.int (-1))) (by decide +kernel))
    · exact va_eqt (hfl (.eq (.elem (.static "StraitSwim" "AIM_EAST" "[I") (.int 4)) (.int (-1))) (by decide +kernel))
    · exact va_eqt (hfl (.eq (.elem (.static "StraitSwim" "AIM_EAST" "[I") (.int 5)) (.int (-1))) (by decide +kernel))
    · exact va_eqt (hfl (.eq (.elem (.static "StraitSwim" "AIM_EAST" "[I") (.int 6)) (.int 0)) (by decide +kernel))
    · exact va_eqt (hfl (.eq (.elem (.static "StraitSwim" "AIM_EAST" "[I") (.int 7)) (.int 1)) (by decide +kernel))
  obtain ⟨t, h1, h2⟩ := va_Tof (tm := (.static "StraitSwim" "AIM_EAST" "[I")) (N := 8) (f := fun j => .int (zI (aimE j))) (A := A) (by decide) (hfl (.arrayOf (.static "StraitSwim" "AIM_EAST" "[I") .int) (by decide +kernel)) (va_eqt (hfl (.eq (.length (.static "StraitSwim" "AIM_EAST" "[I")) (.int 8)) (by decide +kernel))) hel hA
  exact ⟨t, va_Zof (hts (.laysStatic RX11 "AIM_EAST" "[I") (List.mem_append_right _ (List.mem_of_getElem? (i := 373) (by decide +kernel)))) (hts (.initialized RX11) (List.mem_append_right _ (List.mem_of_getElem? (i := 1) (by decide +kernel)))) h1 hA, h2⟩
set_option maxRecDepth 20000 in
theorem en_AIM_NORTH {args : Array Value} {s : State} (hts : ∀ w ∈ lw_tbl, w.before args s = true) (hgv : (Jvm.Cond.and given_1 narrow_1).before args s = true) {A : Nat → Prop} (hA : ∀ a : Nat, a < s.heap.size → ¬ A a) : ∃ t, va_Z RX11 "AIM_NORTH" "[I" (.ref t) A s s.heap ∧ va_T .int t 8 (fun j => .int (zI (aimN j))) A s s.heap := by
  have hfl := flat_of_before _ hgv
  have hel : ∀ j : Nat, j < 8 → (Term.elem (.static "StraitSwim" "AIM_NORTH" "[I") (.int (Int32.ofNat j))).eval args s none [] s = some (.int (zI (aimN j))) := by
    intro j hj
    rcases (show j = 0 ∨ j = 1 ∨ j = 2 ∨ j = 3 ∨ j = 4 ∨ j = 5 ∨ j = 6 ∨ j = 7 by omega) with rfl | rfl | rfl | rfl | rfl | rfl | rfl | rfl
    · exact va_eqt (hfl (.eq (.elem (.static "StraitSwim" "AIM_NORTH" "[I") (.int 0)) (.int 0)) (by decide +kernel))
    · exact va_eqt (hfl (.eq (.elem (.static "StraitSwim" "AIM_NORTH" "[I") (.int 1)) (.int 1)) (by decide +kernel))
    · exact va_eqt (hfl (.eq (.elem (.static "StraitSwim" "AIM_NORTH" "[I") (.int 2)) (.int 1)) (by decide +kernel))
    · exact va_eqt (hfl (.eq (.elem (.static "StraitSwim" "AIM_NORTH" "[I") (.int 3)) (.int 1)) (by decide +kernel))
    · exact va_eqt (hfl (.eq (.elem (.static "StraitSwim" "AIM_NORTH" "[I") (.int 4)) (.int 0)) (by decide +kernel))
    · exact va_eqt (hfl (.eq (.elem (.static "StraitSwim" "AIM_NORTH" "[I") (.int 5)) (.int (-1))) (by decide +kernel))
    · exact va_eqt (hfl (.eq (.elem (.static "StraitSwim" "AIM_NORTH" "[I") (.int 6)) (.int (-1))) (by decide +kernel))
    · exact va_eqt (hfl (.eq (.elem (.static "StraitSwim" "AIM_NORTH" "[I") (.int 7)) (.int (-1))) (by decide +kernel))
  obtain ⟨t, h1, h2⟩ := va_Tof (tm := (.static "StraitSwim" "AIM_NORTH" "[I")) (N := 8) (f := fun j => .int (zI (aimN j))) (A := A) (by decide) (hfl (.arrayOf (.static "StraitSwim" "AIM_NORTH" "[I") .int) (by decide +kernel)) (va_eqt (hfl (.eq (.length (.static "StraitSwim" "AIM_NORTH" "[I")) (.int 8)) (by decide +kernel))) hel hA
  exact ⟨t, va_Zof (hts (.laysStatic RX11 "AIM_NORTH" "[I") (List.mem_append_right _ (List.mem_of_getElem? (i := 375) (by decide +kernel)))) (hts (.initialized RX11) (List.mem_append_right _ (List.mem_of_getElem? (i := 1) (by decide +kernel)))) h1 hA, h2⟩
set_option maxRecDepth 20000 in
theorem en_T {args : Array Value} {s : State} (hts : ∀ w ∈ lw_tbl, w.before args s = true) (hgv : (Jvm.Cond.and given_1 narrow_1).before args s = true) {A : Nat → Prop} (hA : ∀ a : Nat, a < s.heap.size → ¬ A a) : gT A s := by
  have hfl := flat_of_before _ hgv
  refine ⟨⟨vx_Zqof (hts (.laysStatic Bundle.tN "UNASSIGNED_STACK" Bundle.steD) (List.mem_append_right _ (List.mem_of_getElem? (i := 668) (by decide +kernel)))) (hts (.initialized Bundle.tN) (List.mem_append_right _ (List.mem_of_getElem? (i := 7) (by decide +kernel)))) (hfl (.isRef (.static Bundle.tN "UNASSIGNED_STACK" Bundle.steD)) (by decide +kernel)) hA, vx_Zqof (hts (.laysStatic Bundle.tN "SUPPRESSED_SENTINEL" Bundle.listD) (List.mem_append_right _ (List.mem_of_getElem? (i := 670) (by decide +kernel)))) (hts (.initialized Bundle.tN) (List.mem_append_right _ (List.mem_of_getElem? (i := 7) (by decide +kernel)))) (hfl (.isRef (.static Bundle.tN "SUPPRESSED_SENTINEL" Bundle.listD)) (by decide +kernel)) hA⟩, ⟨⟨_, vk_R.of (hts (.stringRef RX11 99 "no such place, quarter or side") (List.mem_append_right _ (List.mem_of_getElem? (i := 733) (by decide +kernel)))) (Cond.exactly_spec (hfl (.exactly (.string RX11 99) "java/lang/String") (by decide +kernel))).choose_spec.choose_spec.choose_spec.choose_spec.1⟩, ⟨_, vk_R.of (hts (.stringRef RX11 231 "no such shelf") (List.mem_append_right _ (List.mem_of_getElem? (i := 749) (by decide +kernel)))) (Cond.exactly_spec (hfl (.exactly (.string RX11 231) "java/lang/String") (by decide +kernel))).choose_spec.choose_spec.choose_spec.choose_spec.1⟩, ⟨_, vk_R.of (hts (.stringRef RX11 238 "no row, or no such place in it") (List.mem_append_right _ (List.mem_of_getElem? (i := 750) (by decide +kernel)))) (Cond.exactly_spec (hfl (.exactly (.string RX11 238) "java/lang/String") (by decide +kernel))).choose_spec.choose_spec.choose_spec.choose_spec.1⟩, ⟨_, vk_R.of (hts (.stringRef RX0 24 "the grease is off") (List.mem_append_right _ (List.mem_of_getElem? (i := 681) (by decide +kernel)))) (Cond.exactly_spec (hfl (.exactly (.string RX0 24) "java/lang/String") (by decide +kernel))).choose_spec.choose_spec.choose_spec.choose_spec.1⟩, ⟨_, vk_R.of (hts (.stringRef RX4 30 "too quick at first") (List.mem_append_right _ (List.mem_of_getElem? (i := 712) (by decide +kernel)))) (Cond.exactly_spec (hfl (.exactly (.string RX4 30) "java/lang/String") (by decide +kernel))).choose_spec.choose_spec.choose_spec.choose_spec.1⟩⟩, ⟨va_Nw.of rfl (hts (.declares (Bundle.initS "java/lang/RuntimeException")) (List.mem_append_right _ (List.mem_of_getElem? (i := 645) (by decide +kernel)))), va_Nw.of rfl (hts (.declares (Bundle.initS "java/lang/Exception")) (List.mem_append_right _ (List.mem_of_getElem? (i := 647) (by decide +kernel)))), va_Nw.of rfl (hts (.declares (Bundle.initS Bundle.tN)) (List.mem_append_right _ (List.mem_of_getElem? (i := 649) (by decide +kernel))))⟩, ⟨va_Nw.of rfl (hts (.castable xIA xIA) (List.mem_append_right _ (List.mem_of_getElem? (i := 726) (by decide +kernel)))), va_Nw.of rfl (hts (.castable xIS xIS) (List.mem_append_right _ (List.mem_of_getElem? (i := 643) (by decide +kernel)))), va_Nc.of (hfl (.not (.castable xIS xIA)) (by decide +kernel))⟩⟩
