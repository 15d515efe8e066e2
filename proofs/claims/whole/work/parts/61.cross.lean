/-- what ready() has reckoned, as the crossing uses it -/
def RdF (sd cl rc tc : Nat) (K sp li fd ch : Int) (w : gS) : Prop := ∃ R : Nat, (w.1 rc = (R : Int) ∧ 1 ≤ R ∧ R ≤ 100) ∧ (∀ j, j < R → w.2.1 sd j = spPace K sp fd j) ∧ (∀ j, j ≤ R → w.2.1 cl j = coldF K fd ch j) ∧ (∀ j, j + 1 < R → coldF K fd ch (j + 1) < li) ∧ ((w.1 tc = 1 ∧ li ≤ coldF K fd ch R) ∨ (w.1 tc = 0 ∧ R = 100 ∧ coldF K fd ch 100 < li))
theorem RdOk.fact {sd cl rc tc : Nat} {K sp li fd ch : Int} {w w' : gS} (h : RdOk sd cl rc tc K sp li fd ch w w') : RdF sd cl rc tc K sp li fd ch w' := by
  obtain ⟨R, a, b, c, d, e, _⟩ := h
  exact ⟨R, a, b, c, d, e⟩
theorem RdF.kept {sd cl rc tc : Nat} {K sp li fd ch : Int} {w w' : gS} (h : RdF sd cl rc tc K sp li fd ch w) (h1 : w'.2.1 sd = w.2.1 sd) (h2 : w'.2.1 cl = w.2.1 cl) (h3 : w'.1 rc = w.1 rc) (h4 : w'.1 tc = w.1 tc) : RdF sd cl rc tc K sp li fd ch w' := by
  obtain ⟨R, a, b, c, d, e⟩ := h
  exact ⟨R, by rw [h3]; exact a, by rw [h1]; exact b, by rw [h2]; exact c, d, by rw [h4]; exact e⟩
theorem cReady_ok {u : gS} {sd cl nu rc tc : Nat} (h1 : sd ≠ cl) (h2 : rc ≠ tc) {K nm sp li fd ch : Int} (h0 : u.2.1 cl 0 = 0) : RdOk sd cl rc tc K sp li fd ch (sI (sI (sI u nu nm) rc 0) tc 0) (cReady u sd cl nu rc tc K nm sp li fd ch) := by
  have := cRdL_ok (sd := sd) (cl := cl) (rc := rc) (tc := tc) h1 h2 (K := K) (sp := sp) (li := li) (fd := fd) (ch := ch) 101 0 (sI (sI (sI u nu nm) rc 0) tc 0) rfl (by omega) (by
    show va_up (va_up (va_up u.1 nu nm) rc 0) tc 0 rc = _
    rw [up_n _ _ h2, up_s]
    rfl) (by
    show va_up (va_up (va_up u.1 nu nm) rc 0) tc 0 tc = _
    rw [up_s]) (fun j hj => absurd hj (Nat.not_lt_zero j)) (fun j hj => by
    rw [show j = 0 by omega]
    exact h0) (fun j hj => absurd hj (Nat.not_lt_zero j))
  exact this
/-- a crossing of the class and one of the reference's, from the same place and hour with the same aim -/
def CrE (xs ys qi co r : Nat) (a b : Int × gS) : Prop := a.1 = b.1 ∧ ∃ Q : Nat, (1 ≤ Q ∧ Q ≤ 100) ∧ a.2.1 qi = (Q : Int) ∧ b.2.2.1 40 r = (Q : Int) ∧ (∀ j, j ≤ Q → a.2.2.1 xs j = b.2.2.1 38 (101 * r + j) ∧ a.2.2.1 ys j = b.2.2.1 39 (101 * r + j) ∧ (0 ≤ a.2.2.1 xs j ∧ a.2.2.1 xs j ≤ 239) ∧ (0 ≤ a.2.2.1 ys j ∧ a.2.2.1 ys j ≤ 119)) ∧ a.2.1 co = b.2.2.1 41 r
theorem cross_eq {xs ys sd cl qi co rc tc : Nat} (hxy : xs ≠ ys) (hx : sd ≠ xs ∧ 9 ≠ xs ∧ 10 ≠ xs ∧ 11 ≠ xs) (hy : sd ≠ ys ∧ 9 ≠ ys ∧ 10 ≠ ys ∧ 11 ≠ ys) (hcl : cl ≠ xs ∧ cl ≠ ys) (hrq : rc ≠ qi) (hcq : qi ≠ co) {r : Nat} (hr : r < 2) {s x y q aim K sp li fd ch : Int} {w m : gS} (hch : 0 ≤ ch) (hq0 : 0 ≤ q) (hx0 : 0 ≤ x ∧ x ≤ 239) (hy0 : 0 ≤ y ∧ y ≤ 119) (hF : RdF sd cl rc tc K sp li fd ch w) (hm : m.2.1 34 s.toNat = K ∧ m.2.1 35 s.toNat = sp ∧ m.2.1 36 s.toNat = li ∧ m.2.1 37 s.toNat = fd ∧ m.1 21 = ch) (ht : (∀ j, j < 36 → w.2.1 10 j = m.2.1 32 j) ∧ (∀ j, j < 36 → w.2.1 11 j = m.2.1 33 j) ∧ ∀ j, j < 288 → w.2.1 9 j = m.2.1 31 j) : CrE xs ys qi co r (cCross w xs ys sd cl qi co rc tc x y q aim) (mStepA m (r : Int) s x y q aim) := by
  obtain ⟨R, ⟨f1, f2, f3⟩, f4, f5, f6, f7⟩ := hF
  have tr : ((r : Int)).toNat = r := Int.toNat_natCast r
  have tr2 : (101 * (r : Int)).toNat = 101 * r := by omega
  have e0x : (cCr0 w xs ys qi x y).2.1 xs = va_up (w.2.1 xs) 0 x := by
    show va_up (va_up w.2.1 xs _) ys _ xs = _
    rw [up_n _ _ hxy, up_s]
  have e0y : (cCr0 w xs ys qi x y).2.1 ys = va_up (w.2.1 ys) 0 y := by
    show va_up (va_up w.2.1 xs _) ys _ ys = _
    rw [up_s]
  have e0o : ∀ i, i ≠ xs → i ≠ ys → (cCr0 w xs ys qi x y).2.1 i = w.2.1 i := fun i h1 h2 => by
    show va_up (va_up w.2.1 xs _) ys _ i = _
    rw [up_n _ _ h2, up_n _ _ h1]
  have m38 : (mSt0 m (r : Int) x y).2.1 38 = va_up (m.2.1 38) (101 * r) x := by
    show va_up (m.2.1 38) (101 * (r : Int)).toNat x = _
    rw [tr2]
  have m39 : (mSt0 m (r : Int) x y).2.1 39 = va_up (m.2.1 39) (101 * r) y := by
    show va_up (m.2.1 39) (101 * (r : Int)).toNat y = _
    rw [tr2]
  have m41 : (mSt0 m (r : Int) x y).2.1 41 r = 0 := by
    show va_up (m.2.1 41) ((r : Int)).toNat 0 r = _
    rw [tr, up_s]
  have he : ((if w.1 tc = 0 then (3 : Int) else 1) = 1 ∧ li ≤ coldF K fd ch R) ∨ ((if w.1 tc = 0 then (3 : Int) else 1) = 3 ∧ R = 100 ∧ coldF K fd ch 100 < li) := by
    rcases f7 with ⟨h, g⟩ | ⟨h, g⟩
    · rw [if_neg (by omega)]
      exact Or.inl ⟨rfl, g⟩
    · rw [if_pos h]
      exact Or.inr ⟨rfl, g⟩
  have hs := sim (s := s) (q := q) (aim := aim) (sp := sp) (r := r) hxy hx hy hrq f3 hch hq0 f6 he 101 0 (cCr0 w xs ys qi x y) (mSt0 m (r : Int) x y) rfl (by omega) ⟨⟨by
      show va_up w.1 qi 0 rc = _
      rw [up_n _ _ hrq, f1], fun j hj => by rw [e0o sd hx.1 hy.1]; exact f4 j hj⟩, hm, ⟨fun j hj => by rw [e0o 10 hx.2.2.1 hy.2.2.1]; exact ht.1 j hj, fun j hj => by rw [e0o 11 hx.2.2.2 hy.2.2.2]; exact ht.2.1 j hj, fun j hj => by rw [e0o 9 hx.2.1 hy.2.1]; exact ht.2.2 j hj⟩, fun j hj => by
      rw [show j = 0 by omega, e0x, e0y, m38, m39, up_s, up_s, Nat.add_zero, up_s, up_s]
      exact ⟨rfl, rfl, hx0, hy0⟩, m41⟩
  have hk := cCrL_keep xs ys sd qi rc q aim (if w.1 tc = 0 then 3 else 1) 101 0 (cCr0 w xs ys qi x y)
  rw [show ((101 * r + 0 : Nat) : Int) = 101 * (r : Int) by omega] at hs
  obtain ⟨g1, Q, g2, g3, g4, g5, g6⟩ := hs
  have g1 : (cCrL xs ys sd qi rc q aim (if w.1 tc = 0 then 3 else 1) 101 0 (cCr0 w xs ys qi x y)).1 = (mStepA m (r : Int) s x y q aim).1 := g1
  refine ⟨g1, Q, ⟨g2.1, by omega⟩, ?_, g4, g5, ?_⟩
  · show va_up (cCrL xs ys sd qi rc q aim (if w.1 tc = 0 then 3 else 1) 101 0 (cCr0 w xs ys qi x y)).2.1 co _ qi = _
    rw [up_n _ _ hcq]
    exact g3
  · show va_up (cCrL xs ys sd qi rc q aim (if w.1 tc = 0 then 3 else 1) 101 0 (cCr0 w xs ys qi x y)).2.1 co _ co = _
    rw [up_s, hk.1 cl hcl, e0o cl hcl.1 hcl.2]
    have g3 : (cCrL xs ys sd qi rc q aim (if w.1 tc = 0 then 3 else 1) 101 0 (cCr0 w xs ys qi x y)).2.1 qi = (Q : Int) := g3
    have g6 : (mStepA m (r : Int) s x y q aim).2.2.1 41 r = coldF K fd ch (if (cCrL xs ys sd qi rc q aim (if w.1 tc = 0 then 3 else 1) 101 0 (cCr0 w xs ys qi x y)).1 = 2 then Q - 1 else Q) := g6
    rw [g6, g3]
    by_cases h2 : (cCrL xs ys sd qi rc q aim (if w.1 tc = 0 then 3 else 1) 101 0 (cCr0 w xs ys qi x y)).1 = 2
    · rw [if_pos h2, if_pos h2, show ((Q : Int) - 1).toNat = Q - 1 by omega]
      exact f5 (Q - 1) (by omega)
    · rw [if_neg h2, if_neg h2, Int.toNat_natCast]
      exact f5 Q g2.2
