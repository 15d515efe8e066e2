/-! WHAT A THROW WANTS of the world beside gB: two statics of Throwable, the texts, words on the exceptions -/
abbrev xIA : String := "java/lang/IllegalArgumentException"
abbrev xIS : String := "java/lang/IllegalStateException"
abbrev xNs : List String := ["java/lang/RuntimeException", "java/lang/Exception"]
def gT (A : Nat → Prop) (t : State) : Prop := (vx_Zq Bundle.tN "UNASSIGNED_STACK" Bundle.steD A t t.heap ∧ vx_Zq Bundle.tN "SUPPRESSED_SENTINEL" Bundle.listD A t t.heap) ∧ ((∃ q, vk_R RX11 99 "no such place, quarter or side" q t) ∧ (∃ q, vk_R RX11 231 "no such shelf" q t) ∧ (∃ q, vk_R RX11 238 "no row, or no such place in it" q t) ∧ (∃ q, vk_R RX0 24 "the grease is off" q t) ∧ ∃ q, vk_R RX4 30 "too quick at first" q t) ∧ (va_Nw (.declares (Bundle.initS "java/lang/RuntimeException")) t ∧ va_Nw (.declares (Bundle.initS "java/lang/Exception")) t ∧ va_Nw (.declares (Bundle.initS Bundle.tN)) t) ∧ (va_Nw (.castable xIA xIA) t ∧ va_Nw (.castable xIS xIS) t ∧ va_Nc xIS xIA t)
theorem gT.mk' {A : Nat → Prop} {s t : State} {H : Heap} {locs : List Loc} (hT : gT A s) (hS : va_S A s.heap H locs) (ht : t.heap = H) (hW : s.WarmedH t.vm) : gT A t := by
  obtain ⟨⟨a1, a2⟩, ⟨⟨q1, b1⟩, ⟨q2, b2⟩, ⟨q3, b3⟩, ⟨q4, b4⟩, ⟨q5, b5⟩⟩, ⟨c1, c2, c3⟩, ⟨d1, d2, d3⟩⟩ := hT
  refine ⟨⟨?_, ?_⟩, ⟨⟨q1, b1.warm hW⟩, ⟨q2, b2.warm hW⟩, ⟨q3, b3.warm hW⟩, ⟨q4, b4.warm hW⟩, ⟨q5, b5.warm hW⟩⟩, ⟨c1.warmD hW, c2.warmD hW, c3.warmD hW⟩, ⟨d1.warmC hW, d2.warmC hW, d3.moved hW.alike⟩⟩
  · rw [ht]
    exact (a1.kept hS.2.1).moved hW.alike
  · rw [ht]
    exact (a2.kept hS.2.1).moved hW.alike
theorem gT.same {A : Nat → Prop} {U V : State} (hh : V.heap = U.heap) (hv : U.vm = V.vm) (hT : gT A U) : gT A V := by
  have hA : U.vm.Alike V.vm := by rw [hv]; exact Vm.Alike.refl _
  obtain ⟨⟨a1, a2⟩, ⟨⟨q1, b1⟩, ⟨q2, b2⟩, ⟨q3, b3⟩, ⟨q4, b4⟩, ⟨q5, b5⟩⟩, ⟨c1, c2, c3⟩, ⟨d1, d2, d3⟩⟩ := hT
  refine ⟨⟨?_, ?_⟩, ⟨⟨q1, b1.same hv.symm⟩, ⟨q2, b2.same hv.symm⟩, ⟨q3, b3.same hv.symm⟩, ⟨q4, b4.same hv.symm⟩, ⟨q5, b5.same hv.symm⟩⟩, ⟨c1.same rfl hv, c2.same rfl hv, c3.same rfl hv⟩, ⟨d1.same rfl hv, d2.same rfl hv, d3.moved hA⟩⟩
  · rw [hh]
    exact a1.moved hA
  · rw [hh]
    exact a2.moved hA
def gBX (D : va_G) (cy : Nat → ClassId) (ad : Nat → Nat) (jf : Nat → Int64) (A : Nat → Prop) (u : gS) (t : State) : Prop := gB D cy ad jf A u t ∧ gT A t
theorem gX_blind {D : va_G} {cy : Nat → ClassId} {ad : Nat → Nat} {jf : Nat → Int64} {A : Nat → Prop} {u : gS} {av : List Value} : FrameBlind (va_Pc av (gBX D cy ad jf A u)) := fun a U g mk q => ⟨q.1, ⟨q.2.1.1, q.2.1.2.same rfl rfl⟩, q.2.2.same rfl rfl⟩
section GX
variable {p : Program} {l : Launch} {e : Env} {R : Room} {s : State} {m : MethodId} {args : Array Value} {below : List Frame} {meth : Method} {c : Code} {H : Heap} {locs : List Loc} {cells slots : Nat} {Q : State → Prop}
variable {cc : ByteArray} {pc : Nat} {ls : Array Slot} {rest : List Value} {D : va_G} {cy : Nat → ClassId} {ad : Nat → Nat} {jf : Nat → Int64} {A : Nat → Prop} {u : gS} {H0 : Heap}
theorem gX_preS (hG : gH D cy ad jf A u H) (hC : gC D cy A s) (hT : gT A s) (hS : va_S A s.heap H locs) {As : List Value} : PreS s H (va_Pc As (gBX D cy ad jf A u)) As :=
  ⟨gX_blind, fun U hU hW => ⟨rfl, gB.mk' hG hC hS hU hW, hT.mk' hS hU hW⟩⟩
theorem gX_preV (hG : gH D cy ad jf A u H) (hC : gC D cy A s) (hT : gT A s) (hS : va_S A s.heap H locs) {As : List Value} (k : Nat) (hk : k < 65) {ci : Nat} {fs : List Value} {C : String} {T : u_T} {N : Nat} (he : gCell cy ad jf u k = .inr (ci, fs)) (hc : vwCl[ci]? = some (C, T, N)) : PreV s H C (ad k) (va_Pc (.ref (ad k) :: As) (gBX D cy ad jf A u)) As :=
  ⟨gX_blind, va_recv hC.1 hG.1 hc (g_cell hk he), fun U hU hW => ⟨rfl, gB.mk' hG hC hS hU hW, hT.mk' hS hU hW⟩⟩
theorem gX_preD (hG : gH D cy ad jf A u H) (hC : gC D cy A s) (hT : gT A s) (hS : va_S A s.heap H locs) {As : List Value} {k a : Nat} {ci : Nat} {fs : List Value} {C : String} {T : u_T} {N : Nat} (he : (gW cy ad jf u)[k]? = some (a, .inr (ci, fs))) (hc : vwCl[ci]? = some (C, T, N)) : PreV s H C a (va_Pc (.ref a :: As) (gBX D cy ad jf A u)) As :=
  ⟨gX_blind, va_recv hC.1 hG.1 hc he, fun U hU hW => ⟨rfl, gB.mk' hG hC hS hU hW, hT.mk' hS hU hW⟩⟩
/-- the world after a throw: what was there is there -/
theorem gH.grown {H1 : Heap} (hG : gH D cy ad jf A u H) (h : ∀ q : Nat, q < H.size → H1[q]? = H[q]?) : gH D cy ad jf A u H1 := ⟨hG.1.kept (fun k x hx => h x.1 (vx_lt hG.1 hx)), hG.2⟩
end GX
/-- how a method of ours throws: the exception's name, the world as it was -/
def gXC (PX : String → Prop) (D : va_G) (cy : Nat → ClassId) (ad : Nat → Nat) (jf : Nat → Int64) (A : Nat → Prop) (px : gS → Prop) : String → State → State → Prop := vx_X px (fun E v t => PX E ∧ gH D cy ad jf A v t.heap) A
theorem gXC.mk {PX : String → Prop} {X : String} {D : va_G} {cy : Nat → ClassId} {ad : Nat → Nat} {jf : Nat → Int64} {A : Nat → Prop} {px : gS → Prop} {u : gS} {s : State} {H : Heap} {locs : List Loc} (hX : PX X) (hp : px u) (hG : gH D cy ad jf A u H) (hS : va_S A s.heap H locs) : ∀ t : State, s.vm.Alike t.vm → H.size ≤ t.heap.size → (∀ q : Nat, q < H.size → t.heap[q]? = H[q]?) → gXC PX D cy ad jf A px X s t := fun t _ hz hq => ⟨u, hp, ⟨hX, hG.grown hq⟩, Nat.le_trans hS.1 hz, fun q h1 h2 => (hq q (Nat.lt_of_lt_of_le h1 hS.1)).trans (hS.2.1 q h1 h2)⟩
def xB (X : String) : List Cond := [.declares (Bundle.initS "java/lang/RuntimeException"), .declares (Bundle.initS "java/lang/Exception"), .declares (Bundle.initS Bundle.tN), .castable X X]
theorem xB_IA {A : Nat → Prop} {args : Array Value} {s : State} (h : gT A s) : ∀ w ∈ xB xIA, w.before args s = true := vx_c (va_Nw.use rfl h.2.2.1.1) (vx_c (va_Nw.use rfl h.2.2.1.2.1) (vx_c (va_Nw.use rfl h.2.2.1.2.2) (vx_c (va_Nw.use rfl h.2.2.2.1) vx_n)))
theorem xB_IS {A : Nat → Prop} {args : Array Value} {s : State} (h : gT A s) : ∀ w ∈ xB xIS, w.before args s = true := vx_c (va_Nw.use rfl h.2.2.1.1) (vx_c (va_Nw.use rfl h.2.2.1.2.1) (vx_c (va_Nw.use rfl h.2.2.1.2.2) (vx_c (va_Nw.use rfl h.2.2.2.2.1) vx_n)))
theorem xg_0 : ∀ w ∈ Cond.classLink RX11 97 xIA :: Cond.initialized xIA :: vx_atS RX11 101 xIA xNs, vx_ot w = true := by decide +kernel
theorem xg_1 : ∀ w ∈ Cond.classLink RX11 236 xIS :: Cond.initialized xIS :: vx_atS RX11 240 xIS xNs, vx_ot w = true := by decide +kernel
theorem xg_2 : ∀ w ∈ Cond.classLink RX0 22 xIS :: Cond.initialized xIS :: vx_atS RX0 26 xIS xNs, vx_ot w = true := by decide +kernel
theorem xg_3 : ∀ w ∈ Cond.classLink RX4 28 xIS :: Cond.initialized xIS :: vx_atS RX4 32 xIS xNs, vx_ot w = true := by decide +kernel
theorem xb_0 : ∀ w ∈ (vx_atS RX11 101 xIA xNs).filter (fun w => !goodWord w), w ∈ xB xIA := by decide +kernel
theorem xb_1 : ∀ w ∈ (vx_atS RX11 240 xIS xNs).filter (fun w => !goodWord w), w ∈ xB xIS := by decide +kernel
theorem xb_2 : ∀ w ∈ (vx_atS RX0 26 xIS xNs).filter (fun w => !goodWord w), w ∈ xB xIS := by decide +kernel
theorem xb_3 : ∀ w ∈ (vx_atS RX4 32 xIS xNs).filter (fun w => !goodWord w), w ∈ xB xIS := by decide +kernel
section GXU
variable {p : Program} {l : Launch} {e : Env} {R : Room} {s : State} {m : MethodId} {args : Array Value} {below : List Frame} {meth : Method} {c : Code} {H : Heap} {locs : List Loc} {cells slots : Nat}
theorem vx_callVU {T : State} (X : Stand p l e R s m args below meth c T locs cells slots) (hexec : p.tables.exec = Jvm.exec) {own C owner : String} {index : Nat} {x y : MethodName} {bytes : ByteArray} {maxL : Nat} {ret : Option FieldType}
    (hown : s.vm.findClass own = some m.cls) (hlink : (Cond.methodLink own index x).before args s = true) (hsame : (Cond.sameMethod x.cls owner x.name x.desc).before args s = true)
    (hd0 : va_Decl s ⟨owner, x.name, x.desc⟩) (howner : owner ≠ "java/lang/invoke/MethodHandle" ∧ owner ≠ "java/lang/invoke/VarHandle")
    (hsel : (Cond.selects C x y).before args s = true) (hinst : (Cond.instanceMethod y).before args s = true) (hcode : (Cond.code y bytes maxL ret).before args s = true)
    {W9 : Nat} {Pre : Pt → Array Value → Prop} {Post : Pt → Array Value → Option Value → Pt → Prop} {PostX : Pt → Array Value → Addr → Pt → Prop} (hK : vx_Back l R p e below s args y 3 W9 Pre Post PostX)
    {b : Addr} {cellB : Cell} (hcell : T.heap[b]? = some cellB) (hobj : cellB.vm.isStatics = false) (hcls : s.vm.findClass C = some cellB.cls)
    {g : JFrame} (hg : g.method = m) (hsize : g.locals.size = c.maxLocals) {argsL rest : List Value} (hlen : ∀ sig, parseMethodDescriptor x.desc = some sig → argsL.length = sig.parameters.length)
    (hstack : g.stack = argsL.reverse ++ .ref b :: rest) (hW : 2 * g.monitorRoom + (rest.map fun v => v.category).sum ≤ W9) (hdg : decode c.code g.pc = .ok (.invokevirtual index, 3))
    (hpre : ∀ vm₁, s.WarmedH vm₁ → Pre ⟨T.setVm vm₁, locs, cells, slots⟩ (Value.ref b :: argsL).toArray) :
    (∃ (v : Option Value) (vm₁ : Vm) (B : Pt), s.WarmedH vm₁ ∧ Stand p l e R s m args below meth c B.U B.locs B.cells B.slots ∧ Post ⟨T.setVm vm₁, locs, cells, slots⟩ (Value.ref b :: argsL).toArray v B ∧
      ∀ target, Steps p.tables e below (B.U.setTop { g with pc := g.pc + 3, stack := v.toList ++ rest }) target → Steps p.tables e below (T.setTop g) target) ∨
    (∃ (q : Addr) (vm₁ : Vm) (B : Pt), s.WarmedH vm₁ ∧ Stand p l e R s m args below meth c B.U B.locs B.cells B.slots ∧ PostX ⟨T.setVm vm₁, locs, cells, slots⟩ (Value.ref b :: argsL).toArray q B ∧
      Steps p.tables e below (T.setTop g) ((B.U.setTop { g with stack := rest }).pushFrame (.throwing q))) := by
  obtain ⟨r0, r, hn, hrm, hstR, hsigR⟩ := hd0
  obtain ⟨cn, ck, r1, hcn, hck, hni, hf, hn1⟩ := Cond.sameMethod_found hsame
  cases hn.symm.trans hn1
  obtain ⟨mk, methM, hnamed, hmethM, -, habM⟩ := Cond.instanceMethod_spec hinst
  obtain ⟨c2, r2, m2, q1, q2, q3, q4, kP, hkP, hkPi⟩ := Cond.selects_spec hsel
  cases hcls.symm.trans q1
  cases hf.symm.trans q2
  cases hnamed.symm.trans q3
  have hselP : selectMethod e.platform s.vm cellB.cls r0 = .method mk := by rw [Launch.admits_selectMethod X.admits]; exact q4
  obtain ⟨vm₁, X₁, hstep₁⟩ := X.invokevirtualUp hexec hown hlink hsame howner hn hrm hstR (a := b) (cell := cellB) hcell
    (fun z h => by rw [h] at hobj; cases hobj) hselP hmethM habM hkP hkPi (g := g) hg (argsL := argsL) (rest := rest) (hlen _ hsigR) hstack hdg
  rcases hK m meth c ⟨T.setVm vm₁, locs, cells, slots⟩ { g with stack := rest } (.invokevirtual index) mk (Value.ref b :: argsL).toArray X₁ hg hsize hdg hW (X₁.named hnamed) (hpre vm₁ X₁.warmed) with ⟨v, B, X', hpost, hsteps⟩ | ⟨q, B, X', hpost, hsteps⟩
  · exact Or.inl ⟨v, vm₁, B, X₁.warmed, X', hpost, fun target h => hstep₁ _ fun acts => by rw [doInvoke_state]; exact hsteps.trans h⟩
  · exact Or.inr ⟨q, vm₁, B, X₁.warmed, X', hpost, hstep₁ _ fun acts => by rw [doInvoke_state]; exact hsteps⟩
theorem vx_runU {x y : MethodName} {bytes cc : ByteArray} {maxL nL mc ms n index : Nat} {ret : Option FieldType} {ws : List Cond} {rm : Room} {Pc : Array Value → State → Prop} {Qc : Array Value → State → Outcome → State → Prop} {XC : String → State → State → Prop} {free : Addr → Prop} {Ts : List Cond} {own C owner : String} {b : Addr} {As rest : List Value} {g : JFrame}
    (S : CallFix p m c cc nL s args Ts own) (hM : vx_Met l y ws rm Pc Qc XC mc ms free) (cw : va_CU R s args own C owner index x y bytes maxL ret ws rm mc ms n) (hp : PreV s H C b Pc As)
    (hg : g.method = m) (hn : As.length = n) (hsize : g.locals.size = nL) (hstack : g.stack = As.reverse ++ .ref b :: rest) (hW : 2 * g.monitorRoom + (rest.map fun v => v.category).sum ≤ 8) (hdg : decode cc g.pc = .ok (.invokevirtual index, 3)) (hf : cells + mc ≤ R.cells ∧ slots + ms ≤ R.slots) :
    vx_Run p l e R s m args below meth c H locs cells slots mc ms g rest (Qc (Value.ref b :: As).toArray) XC free := by
  obtain ⟨hrc, hrs, hfr, hlo, hws, hcw⟩ := cw.back
  have hini := cw.init
  have hK : vx_Back l R p e below s args y 3 8 (PreOf R mc ms Pc) (PostOf Qc mc ms free) (vx_Post XC mc ms free) := vx_back (bytes := bytes) (maxL := maxL) (ret := ret) hM hp.1 hrc hrs hfr hlo hws hcw (fun a' U hW => word_at hW (Or.inl (by first | rfl | simp [Cond.onTables, Cond.keeps, Cond.steady])) hini)
  obtain ⟨hx, hb, hml, ho, -⟩ := S
  obtain ⟨-, ⟨cellB, hcB, hoB, hclB⟩, hPc⟩ := hp
  intro T hT X
  rcases vx_callVU X hx (C := C) (owner := owner) (bytes := bytes) (maxL := maxL) (ret := ret) ho cw.link cw.same cw.decl cw.notMH cw.sel cw.inst cw.code hK (by rw [hT]; exact hcB) hoB hclB hg (hsize.trans hml.symm) (argsL := As) (rest := rest) (fun sig h => hn.trans (cw.len sig h)) hstack hW (by rw [hb]; exact hdg)
    (fun vm₁ hW₁ => ⟨hf.1, hf.2, hPc (T.setVm vm₁) hT hW₁⟩) with ⟨v, vm₁, ⟨U', l2, c2, s2⟩, hW₁, X', ⟨g', mk, t, L, e1, e2, hq, h1, hL, h2, h3⟩, st⟩ | ⟨q, vm₁, ⟨U', l2, c2, s2⟩, hW₁, X', ⟨g', mk, t, L, E, ce, e1, e2, hq, hce, hcv, hcl, h1, hL, h2, h3⟩, st⟩
  · dsimp only [Pt.U, Pt.locs, Pt.cells, Pt.slots] at X' e1 e2 h1 h2 h3 st
    subst h1; subst h2; subst h3
    exact Or.inl ⟨v, (T.setVm vm₁).calling g' mk (Value.ref b :: As).toArray, t, U', L, hT, X', hL, e1, e2, hq, st⟩
  · dsimp only [Pt.U, Pt.locs, Pt.cells, Pt.slots] at X' e1 e2 h1 h2 h3 st hcl
    subst h1; subst h2; subst h3
    exact Or.inr ⟨q, (T.setVm vm₁).calling g' mk (Value.ref b :: As).toArray, t, U', L, E, ce, hT, X', hL, e1, e2, hq, hce, hcv, vx_cls hW₁ hcl, st⟩
end GXU
def cCarry (u : gS) (y q s : Int) : Int := if s = 0 then u.2.1 10 (y / 40 * 12 + q / 4 % 12).toNat else u.2.1 11 (y / 40 * 12 + q / 4 % 12).toNat
def cToss (HK KD NM : Nat → Int) (p : Int) : Int := if 0 ≤ p ∧ p ≤ 7 then (if HK p.toNat = 0 then -11 else if HK p.toNat = 1 then (if KD p.toNat = 0 then -15 else NM p.toNat) else -12) else -1
def okCarry (x y q s : Int) : Prop := ((0 ≤ x ∧ x ≤ 239) ∧ (0 ≤ y ∧ y ≤ 119)) ∧ (0 ≤ q ∧ q ≤ 199) ∧ (0 ≤ s ∧ s ≤ 1)
def cEle (GG : Nat → Nat → Int) (d i : Int) : Int := GG d.toNat i.toNat
def okEle (HK : Nat → Int) (NN : Nat → Nat) (d i : Int) : Prop := (HK d.toNat = 3 ∨ HK d.toNat = 4) ∧ (0 ≤ i ∧ i < NN d.toNat)
