/-! BITS of an int -/
def tb (x : Int) (d : Nat) : Bool := (zI x).toBitVec.getLsbD d
theorem tb_and (a b : Int) (d : Nat) : tb (bAnd a b) d = (tb a d && tb b d) := by
  unfold tb bAnd
  rw [zI_of, Int32.toBitVec_and, BitVec.getLsbD_and]
theorem tb_or (a b : Int) (d : Nat) : tb (bOr a b) d = (tb a d || tb b d) := by
  unfold tb bOr
  rw [zI_of, Int32.toBitVec_or, BitVec.getLsbD_or]
theorem tb_xor (a b : Int) (d : Nat) : tb (bXor a b) d = (tb a d ^^ tb b d) := by
  unfold tb bXor
  rw [zI_of, Int32.toBitVec_xor, BitVec.getLsbD_xor]
theorem tb_m1 {d : Nat} (h : d < 32) : tb (-1) d = true := (show ∀ d : Fin 32, tb (-1) d.val = true by decide +kernel) ⟨d, h⟩
theorem tb_0 (d : Nat) : tb 0 d = false := by
  unfold tb
  rw [show (zI 0).toBitVec = 0#32 from rfl, BitVec.getLsbD_zero]
theorem tb_shl1 {k : Int} {d : Nat} (h1 : 0 ≤ k) (h2 : k < 32) (h : d < 32) : tb (bShl 1 k) d = decide ((d : Int) = k) := by
  have := (show ∀ (k d : Fin 32), tb (bShl 1 (k.val : Int)) d.val = decide (d.val = k.val) by decide +kernel) ⟨k.toNat, by omega⟩ ⟨d, h⟩
  rw [show ((k.toNat : Nat) : Int) = k by omega] at this
  rw [this]
  simp only [decide_eq_decide]
  omega
theorem tb_shlm {k : Int} {d : Nat} (h1 : 0 ≤ k) (h2 : k < 32) (h : d < 32) : tb (bShl (-1) k) d = decide (k ≤ (d : Int)) := by
  have := (show ∀ (k d : Fin 32), tb (bShl (-1) (k.val : Int)) d.val = decide (k.val ≤ d.val) by decide +kernel) ⟨k.toNat, by omega⟩ ⟨d, h⟩
  rw [show ((k.toNat : Nat) : Int) = k by omega] at this
  rw [this]
  simp only [decide_eq_decide]
  omega
theorem tb_ext {a b : Int} (ha : -2147483648 ≤ a ∧ a < 2147483648) (hb : -2147483648 ≤ b ∧ b < 2147483648) (h : ∀ d, d < 32 → tb a d = tb b d) : a = b := by
  have : zI a = zI b := Int32.toBitVec_inj.mp (BitVec.eq_of_getLsbD_eq fun i hi => h i hi)
  rw [← zI_toInt ha.1 ha.2, ← zI_toInt hb.1 hb.2, this]
theorem bAnd_bit {x k : Int} (h1 : 0 ≤ k) (h2 : k < 32) : bAnd x (bShl 1 k) = 0 ↔ tb x k.toNat = false := by
  constructor
  · intro h
    have := tb_and x (bShl 1 k) k.toNat
    rw [h, tb_0, tb_shl1 h1 h2 (by omega), decide_eq_true (by omega), Bool.and_true] at this
    exact this.symm
  · intro h
    refine tb_ext ⟨?_, ?_⟩ ⟨by decide, by decide⟩ (fun d hd => ?_)
    · have := (zI x &&& zI (bShl 1 k)).le_toInt
      unfold bAnd
      omega
    · have := (zI x &&& zI (bShl 1 k)).toInt_lt
      unfold bAnd
      omega
    · rw [tb_and, tb_0, tb_shl1 h1 h2 hd]
      by_cases q : (d : Int) = k
      · rw [show d = k.toNat by omega, h, Bool.false_and]
      · rw [decide_eq_false q, Bool.and_false]
theorem smod_k : ∀ k : Fin 32, ((zI (k.val : Int) &&& 31).toBitVec.smod 32).toNat = k.val := by decide +kernel
theorem bShr_1 {a k : Int} (h1 : 0 ≤ k) (h2 : k < 32) : bAnd (bShr a k) 1 = if tb a k.toNat = true then 1 else 0 := by
  have e1 : ∀ d, d < 32 → tb 1 d = decide (d = 0) := fun d hd => (show ∀ d : Fin 32, tb 1 d.val = decide (d.val = 0) by decide +kernel) ⟨d, hd⟩
  have e0 : tb (bShr a k) 0 = tb a k.toNat := by
    unfold tb bShr
    have hk := smod_k ⟨k.toNat, by omega⟩
    rw [show ((k.toNat : Nat) : Int) = k by omega] at hk
    rw [zI_of, Int32.toBitVec_shiftRight, BitVec.sshiftRight', hk, BitVec.getLsbD_sshiftRight]
    simp only [Nat.add_zero]
    rw [if_pos (by omega)]
    simp
  refine tb_ext ⟨?_, ?_⟩ (by split <;> decide) (fun d hd => ?_)
  · have := (zI (bShr a k) &&& zI 1).le_toInt
    unfold bAnd
    omega
  · have := (zI (bShr a k) &&& zI 1).toInt_lt
    unfold bAnd
    omega
  · rw [tb_and, e1 d hd]
    by_cases q : d = 0
    · rw [q, e0]
      by_cases r : tb a k.toNat = true
      · rw [if_pos r, r, e1 0 (by omega)]
        decide
      · have r2 : tb a k.toNat = false := Bool.eq_false_iff.mpr r
        rw [if_neg r, tb_0, r2]
        rfl
    · rw [decide_eq_false q, Bool.and_false]
      split
      · rw [e1 d hd, decide_eq_false q]
      · rw [tb_0]
theorem tb_ge {x : Int} {d : Nat} (h : 32 ≤ d) : tb x d = false := BitVec.getLsbD_of_ge _ _ h
theorem tb_set {x i : Int} {e : Nat} (h1 : 0 ≤ i) (h2 : i < 32) : tb (bOr x (bShl 1 i)) e = true ↔ tb x e = true ∨ e = i.toNat := by
  by_cases h : e < 32
  · rw [tb_or, tb_shl1 h1 h2 h, Bool.or_eq_true, decide_eq_true_iff]
    constructor
    · rintro (q | q)
      · exact Or.inl q
      · exact Or.inr (by omega)
    · rintro (q | q)
      · exact Or.inl q
      · exact Or.inr (by omega)
  · rw [tb_ge (by omega), tb_ge (by omega)]
    constructor
    · intro q
      exact absurd q (by decide)
    · rintro (q | q)
      · exact q
      · omega
theorem fd_bit {x op tr i : Int} (h1 : 0 ≤ i) (h2 : i < 32) : bAnd (bAnd (bAnd x op) (bXor tr (-1))) (bShl 1 i) = 0 ↔ ((tb x i.toNat && tb op i.toNat) = true → tb tr i.toNat = true) := by
  rw [bAnd_bit h1 h2, tb_and, tb_and, tb_xor, tb_m1 (by omega)]
  cases tb x i.toNat && tb op i.toNat <;> cases tb tr i.toNat <;> decide
