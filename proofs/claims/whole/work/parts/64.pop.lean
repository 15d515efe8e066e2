/-! COUNTING BITS: Integer.bitCount of a number below 65536 -/
theorem bAnd_nn {a b : Nat} (ha : a < 2147483648) (hb : b < 2147483648) : bAnd (a : Int) (b : Int) = ((a &&& b : Nat) : Int) := by
  have hab : a &&& b < 2147483648 := Nat.lt_of_le_of_lt Nat.and_le_left ha
  have e : nI a &&& nI b = nI (a &&& b) := Int32.toBitVec_inj.mp (BitVec.eq_of_toNat_eq (by
    rw [Int32.toBitVec_and, BitVec.toNat_and, pk_tn (by omega), pk_tn (by omega), pk_tn (by omega)]))
  unfold bAnd
  rw [zI_nat, zI_nat, e, nI_toInt hab]
def jBitF (a : Nat) : Nat :=
  let i1 := a - Nat.land (a / 2) 1431655765
  let i2 := Nat.land i1 858993459 + Nat.land (i1 / 4) 858993459
  let i3 := Nat.land (i2 + i2 / 16) 252645135
  let i4 := i3 + i3 / 256
  let i5 := i4 + i4 / 65536
  Nat.land i5 63
def pcN : Nat → Nat → Nat
  | 0, _ => 0
  | n + 1, a => a % 2 + pcN n (a / 2)
theorem jBit_F {N : Nat} (h : N < 65536) : jBit (N : Int) = (jBitF N : Int) := by
  have l1 : ∀ a b : Nat, Nat.land a b = a &&& b := fun _ _ => rfl
  have u1 := bUshr_nn (N := N) (k := 1) (by omega) (by decide)
  have e1 : bAnd (bUshr (N : Int) 1) 1431655765 = ((N / 2 &&& 1431655765 : Nat) : Int) := by
    rw [show (1 : Int) = ((1 : Nat) : Int) from rfl, u1, Nat.pow_one]
    exact bAnd_nn (by omega) (by decide)
  have h1 : N / 2 &&& 1431655765 ≤ N / 2 := Nat.and_le_left
  have e2 : (N : Int) - bAnd (bUshr (N : Int) 1) 1431655765 = ((N - (N / 2 &&& 1431655765) : Nat) : Int) := by
    rw [e1]
    omega
  generalize hi1 : N - (N / 2 &&& 1431655765) = i1 at e2
  have b1 : i1 < 65536 := by omega
  have e3 : bAnd (i1 : Int) 858993459 = ((i1 &&& 858993459 : Nat) : Int) := bAnd_nn (by omega) (by decide)
  have e4 : bAnd (bUshr (i1 : Int) 2) 858993459 = ((i1 / 4 &&& 858993459 : Nat) : Int) := by
    have := bUshr_nn (N := i1) (k := 2) (by omega) (by decide)
    rw [show (2 : Int) = ((2 : Nat) : Int) from rfl, this]
    exact bAnd_nn (Nat.lt_of_le_of_lt (Nat.div_le_self _ _) (by omega)) (by decide)
  have h3 : i1 &&& 858993459 ≤ i1 := Nat.and_le_left
  have h4 : i1 / 4 &&& 858993459 ≤ i1 / 4 := Nat.and_le_left
  have e5 : bAnd (i1 : Int) 858993459 + bAnd (bUshr (i1 : Int) 2) 858993459 = (((i1 &&& 858993459) + (i1 / 4 &&& 858993459) : Nat) : Int) := by
    rw [e3, e4]
    omega
  generalize hi2 : (i1 &&& 858993459) + (i1 / 4 &&& 858993459) = i2 at e5
  have b2 : i2 < 131072 := by omega
  have e6 : (i2 : Int) + bUshr (i2 : Int) 4 = ((i2 + i2 / 16 : Nat) : Int) := by
    have := bUshr_nn (N := i2) (k := 4) (by omega) (by decide)
    rw [show (4 : Int) = ((4 : Nat) : Int) from rfl, this, show (2 : Nat) ^ 4 = 16 from rfl]
    omega
  have e7 : bAnd ((i2 : Int) + bUshr (i2 : Int) 4) 252645135 = ((i2 + i2 / 16 &&& 252645135 : Nat) : Int) := by
    rw [e6]
    exact bAnd_nn (by omega) (by decide)
  have h7 : i2 + i2 / 16 &&& 252645135 ≤ i2 + i2 / 16 := Nat.and_le_left
  generalize hi3 : (i2 + i2 / 16 &&& 252645135) = i3 at e7 h7
  have e8 : (i3 : Int) + bUshr (i3 : Int) 8 = ((i3 + i3 / 256 : Nat) : Int) := by
    have := bUshr_nn (N := i3) (k := 8) (by omega) (by decide)
    rw [show (8 : Int) = ((8 : Nat) : Int) from rfl, this, show (2 : Nat) ^ 8 = 256 from rfl]
    omega
  generalize hi4 : i3 + i3 / 256 = i4 at e8
  have e9 : (i4 : Int) + bUshr (i4 : Int) 16 = ((i4 + i4 / 65536 : Nat) : Int) := by
    have := bUshr_nn (N := i4) (k := 16) (by omega) (by decide)
    rw [show (16 : Int) = ((16 : Nat) : Int) from rfl, this, show (2 : Nat) ^ 16 = 65536 from rfl]
    omega
  have e10 : bAnd ((i4 : Int) + bUshr (i4 : Int) 16) 63 = ((i4 + i4 / 65536 &&& 63 : Nat) : Int) := by
    rw [e9]
    exact bAnd_nn (by omega) (by decide)
  unfold jBit jBitF
  simp only [l1]
  rw [e2, e5, e7, e8, e10, hi1, hi2, hi3, hi4]
def okPop (k : Nat) : Bool := (List.range 4096).all (fun b => Nat.beq (jBitF (4096 * k + b)) (pcN 16 (4096 * k + b)))
set_option maxRecDepth 100000 in
theorem okPop_0 : okPop 0 = true := by decide +kernel
set_option maxRecDepth 100000 in
theorem okPop_1 : okPop 1 = true := by decide +kernel
set_option maxRecDepth 100000 in
theorem okPop_2 : okPop 2 = true := by decide +kernel
set_option maxRecDepth 100000 in
theorem okPop_3 : okPop 3 = true := by decide +kernel
set_option maxRecDepth 100000 in
theorem okPop_4 : okPop 4 = true := by decide +kernel
set_option maxRecDepth 100000 in
theorem okPop_5 : okPop 5 = true := by decide +kernel
set_option maxRecDepth 100000 in
theorem okPop_6 : okPop 6 = true := by decide +kernel
set_option maxRecDepth 100000 in
theorem okPop_7 : okPop 7 = true := by decide +kernel
set_option maxRecDepth 100000 in
theorem okPop_8 : okPop 8 = true := by decide +kernel
set_option maxRecDepth 100000 in
theorem okPop_9 : okPop 9 = true := by decide +kernel
set_option maxRecDepth 100000 in
theorem okPop_10 : okPop 10 = true := by decide +kernel
set_option maxRecDepth 100000 in
theorem okPop_11 : okPop 11 = true := by decide +kernel
set_option maxRecDepth 100000 in
theorem okPop_12 : okPop 12 = true := by decide +kernel
set_option maxRecDepth 100000 in
theorem okPop_13 : okPop 13 = true := by decide +kernel
set_option maxRecDepth 100000 in
theorem okPop_14 : okPop 14 = true := by decide +kernel
set_option maxRecDepth 100000 in
theorem okPop_15 : okPop 15 = true := by decide +kernel
theorem okPop_N {k b : Nat} (h : okPop k = true) (hb : b < 4096) : jBitF (4096 * k + b) = pcN 16 (4096 * k + b) := Nat.eq_of_beq_eq_true (List.all_eq_true.mp h b (List.mem_range.mpr hb))
theorem jBitF_pc {N : Nat} (h : N < 65536) : jBitF N = pcN 16 N := by
  have e : N = 4096 * (N / 4096) + N % 4096 := by omega
  have hb : N % 4096 < 4096 := Nat.mod_lt _ (by decide)
  rw [e]
  rcases (show N / 4096 = 0 ∨ N / 4096 = 1 ∨ N / 4096 = 2 ∨ N / 4096 = 3 ∨ N / 4096 = 4 ∨ N / 4096 = 5 ∨ N / 4096 = 6 ∨ N / 4096 = 7 ∨ N / 4096 = 8 ∨ N / 4096 = 9 ∨ N / 4096 = 10 ∨ N / 4096 = 11 ∨ N / 4096 = 12 ∨ N / 4096 = 13 ∨ N / 4096 = 14 ∨ N / 4096 = 15 by omega) with q | q | q | q | q | q | q | q | q | q | q | q | q | q | q | q
  · rw [q]; exact okPop_N okPop_0 hb
  · rw [q]; exact okPop_N okPop_1 hb
  · rw [q]; exact okPop_N okPop_2 hb
  · rw [q]; exact okPop_N okPop_3 hb
  · rw [q]; exact okPop_N okPop_4 hb
  · rw [q]; exact okPop_N okPop_5 hb
  · rw [q]; exact okPop_N okPop_6 hb
  · rw [q]; exact okPop_N okPop_7 hb
  · rw [q]; exact okPop_N okPop_8 hb
  · rw [q]; exact okPop_N okPop_9 hb
  · rw [q]; exact okPop_N okPop_10 hb
  · rw [q]; exact okPop_N okPop_11 hb
  · rw [q]; exact okPop_N okPop_12 hb
  · rw [q]; exact okPop_N okPop_13 hb
  · rw [q]; exact okPop_N okPop_14 hb
  · rw [q]; exact okPop_N okPop_15 hb
/-- a row of 16 that holds the bits of N is counted as its bits are -/
theorem spCnt_pc {F : Nat → Int} {N : Nat} (hF : ∀ d, d < 16 → F d = ((N / 2 ^ d % 2 : Nat) : Int)) : ∀ (n i : Nat) (k : Int), i + n = 17 → i ≤ 16 → spCnt F 16 n (i : Int) k = k + (pcN (16 - i) (N / 2 ^ i) : Int)
  | 0, i, k, h1, h2 => by omega
  | n + 1, i, k, h1, h2 => by
    unfold spCnt
    by_cases h : (i : Int) < 16
    · rw [if_pos h, Int.toNat_natCast, hF i (by omega), show 16 - i = (16 - (i + 1)) + 1 by omega]
      have ep : pcN (16 - (i + 1) + 1) (N / 2 ^ i) = N / 2 ^ i % 2 + pcN (16 - (i + 1)) (N / 2 ^ (i + 1)) := by
        show N / 2 ^ i % 2 + pcN (16 - (i + 1)) (N / 2 ^ i / 2) = _
        rw [Nat.div_div_eq_div_mul, ← Nat.pow_succ]
      have hi := fun k' : Int => spCnt_pc hF n (i + 1) k' (by omega) (by omega)
      rw [show ((i + 1 : Nat) : Int) = (i : Int) + 1 by omega] at hi
      rw [ep]
      by_cases q : ((N / 2 ^ i % 2 : Nat) : Int) = 0
      · rw [if_pos q, hi]
        omega
      · rw [if_neg q, hi]
        omega
    · rw [if_neg h, show 16 - i = 0 by omega]
      show k = k + ((0 : Nat) : Int)
      omega
theorem cnt_bits {F : Nat → Int} {N : Nat} (h : N < 65536) (hF : ∀ d, d < 16 → F d = ((N / 2 ^ d % 2 : Nat) : Int)) : jBit (N : Int) = spCnt F 16 17 0 0 := by
  have := spCnt_pc hF 17 0 0 rfl (by decide)
  rw [show ((0 : Nat) : Int) = 0 from rfl] at this
  rw [this, jBit_F h, jBitF_pc h, Nat.pow_zero, Nat.div_one, Int.zero_add]
theorem tb_nat {N d : Nat} (h : N < 2147483648) : tb (N : Int) d = decide (N / 2 ^ d % 2 = 1) := by
  unfold tb
  rw [zI_nat, BitVec.getLsbD, pk_tn (by omega), Nat.testBit_eq_decide_div_mod_eq]
