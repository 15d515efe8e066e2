/-! CALM DAYS: bits of the class, a row of the reference -/
theorem tb_calm {u : gS} {d b : Int} {e : Nat} (h1 : 0 ≤ d) (h2 : d < 32) (he : e < 32) : tb (cCalmV u d b) e = if (e : Int) = d then decide (b ≠ 0) else tb (u.1 18) e := by
  unfold cCalmV
  by_cases hb : b = 0
  · rw [if_pos hb, tb_and, tb_xor, tb_m1 he, tb_shl1 h1 h2 he]
    by_cases q : (e : Int) = d
    · rw [if_pos q, decide_eq_true q, decide_eq_false (fun z => z hb)]
      simp
    · rw [if_neg q, decide_eq_false q]
      simp
  · rw [if_neg hb, tb_or, tb_shl1 h1 h2 he]
    by_cases q : (e : Int) = d
    · rw [if_pos q, decide_eq_true q, decide_eq_true hb]
      simp
    · rw [if_neg q, decide_eq_false q]
      simp
theorem tb_hi {x : Int} (h : 0 ≤ x ∧ x ≤ 65535) {e : Nat} (he : 16 ≤ e) : tb x e = false := by
  have := tb_nat (N := x.toNat) (d := e) (by omega)
  rw [show ((x.toNat : Nat) : Int) = x by omega] at this
  rw [this, Nat.div_eq_of_lt (Nat.lt_of_lt_of_le (show x.toNat < 2 ^ 16 by omega) (Nat.pow_le_pow_right (by decide) he))]
  rfl
theorem tb_range {x : Int} (h1 : -2147483648 ≤ x) (h2 : x < 2147483648) (h : ∀ e, 16 ≤ e → e < 32 → tb x e = false) : 0 ≤ x ∧ x ≤ 65535 := by
  have hl : (zI x).toBitVec.toNat < 2 ^ 16 := Nat.lt_pow_two_of_testBit _ (fun i hi => by
    by_cases q : i < 32
    · exact h i hi q
    · exact tb_ge (x := x) (Nat.le_of_not_lt q))
  have hd := zI_toInt h1 h2
  have ht : (zI x).toInt = (zI x).toBitVec.toInt := rfl
  rw [BitVec.toInt_eq_toNat_cond, if_pos (by omega)] at ht
  omega
theorem cCalmV_bnd (u : gS) (d b : Int) : -2147483648 ≤ cCalmV u d b ∧ cCalmV u d b < 2147483648 := by
  unfold cCalmV
  split
  · exact bAnd_bnd _ _
  · exact bOr_bnd _ _
theorem cCalmV_in {u : gS} {d b : Int} (h1 : 0 ≤ d) (h2 : d ≤ 15) (h : 0 ≤ u.1 18 ∧ u.1 18 ≤ 65535) : 0 ≤ cCalmV u d b ∧ cCalmV u d b ≤ 65535 := tb_range (cCalmV_bnd u d b).1 (cCalmV_bnd u d b).2 (fun e h3 h4 => by
  rw [tb_calm h1 (by omega) h4, if_neg (by omega)]
  exact tb_hi h h3)
/-- the answers of calm() agree -/
theorem calm_eq {u : gS} (h : rN u) (hr : 0 ≤ u.1 18 ∧ u.1 18 ≤ 65535) (h01 : ∀ j, j < 16 → u.2.1 49 j = 0 ∨ u.2.1 49 j = 1) {d b : Int} (hb : b = 0 ∨ b = 1) : (cCalm u d b).1 = (mCalm u d b).1 := by
  unfold cCalm mCalm
  by_cases q : 0 ≤ d ∧ d ≤ 15
  · rw [if_pos q, if_pos q]
    have hd := h.1 d.toNat (by omega)
    have h2 := h01 d.toNat (by omega)
    have key : cCalmV u d b = u.1 18 ↔ u.2.1 49 d.toNat = b := by
      constructor
      · intro e
        have t := tb_calm (u := u) (b := b) (e := d.toNat) q.1 (by omega) (by omega)
        rw [e, if_pos (by omega), hd] at t
        have t2 := decide_eq_decide.mp t
        omega
      · intro e
        refine tb_ext (cCalmV_bnd u d b) ⟨by omega, by omega⟩ (fun j hj => ?_)
        rw [tb_calm q.1 (by omega) hj]
        by_cases z : (j : Int) = d
        · rw [if_pos z, show j = d.toNat by omega, hd]
          exact decide_eq_decide.mpr (by omega)
        · rw [if_neg z]
    show (if cCalmV u d b = u.1 18 then (0 : Int) else 1) = if u.2.1 49 d.toNat = b then 0 else 1
    by_cases e : cCalmV u d b = u.1 18
    · rw [if_pos e, if_pos (key.mp e)]
    · rw [if_neg e, if_neg (fun z => e (key.mpr z))]
  · rw [if_neg q, if_neg q]
/-- the bits and the row go on agreeing -/
theorem calm_bits {u : gS} (h : ∀ e, e < 16 → tb (u.1 18) e = decide (u.2.1 49 e = 1)) {d b : Int} (hb : b = 0 ∨ b = 1) (h1 : 0 ≤ d) (h2 : d ≤ 15) : ∀ e, e < 16 → tb (cCalmV u d b) e = decide (va_up (u.2.1 49) d.toNat b e = 1) := fun e he => by
  rw [tb_calm h1 (by omega) (by omega)]
  by_cases z : (e : Int) = d
  · rw [if_pos z, show e = d.toNat by omega, up_s]
    exact decide_eq_decide.mpr (by omega)
  · rw [if_neg z, up_n _ _ (by omega)]
    exact h e he
