/-! THE REFERENCE'S SEARCH: H who has which day, A tried days, B who came to a day, C the queue -/
def BfQ (can : Nat → Nat → Bool) (d n : Nat) (gone : Nat → Bool) (s : Int) (H A B C : Nat → Int) (q : Nat) : Prop :=
  (∀ i, i < q → (mtIn d n (C i).toNat ∧ 0 ≤ C i ∧ A (C i).toNat = 1) ∧ (0 ≤ B (C i).toNat ∧ B (C i).toNat < 10) ∧ can (B (C i).toNat).toNat (C i).toNat = true ∧ gone (B (C i).toNat).toNat = false ∧ (B (C i).toNat = s ∨ ∃ j, j < i ∧ H (C j).toNat = B (C i).toNat)) ∧
  (∀ i j, i < q → j < q → C i = C j → i = j) ∧ ∀ e, mtIn d n e → A e = 1 → ∃ i, i < q ∧ C i = (e : Int)
def BfE (can : Nat → Nat → Bool) (d n : Nat) (A : Nat → Int) (x : Int) : Prop := ∀ f, mtIn d n f → can x.toNat f = true → A f = 1
theorem BfE_up {can : Nat → Nat → Bool} {d n e : Nat} {A : Nat → Int} {x : Int} (h : BfE can d n A x) : BfE can d n (va_up A e 1) x := fun f hf hc => by
  by_cases q : f = e
  · rw [q, up_s]
  · rw [up_n _ _ q]
    exact h f hf hc
/-- as far as the search has come: l days looked at, q in the queue, wh to be looked at -/
def BfO (can : Nat → Nat → Bool) (d n : Nat) (s : Int) (H A C : Nat → Int) (l : Nat) (wh : Int) : Prop := (∀ i, i < l → 0 ≤ H (C i).toNat) ∧ ((l = 0 ∧ wh = s) ∨ (0 < l ∧ BfE can d n A s ∧ (∀ i, i + 1 < l → BfE can d n A (H (C i).toNat)) ∧ wh = H (C (l - 1)).toNat))
theorem BfQ_0 {can : Nat → Nat → Bool} {d n : Nat} {gone : Nat → Bool} {s : Int} {H A B C : Nat → Int} (hA : ∀ e, mtIn d n e → A e = 0) : BfQ can d n gone s H A B C 0 := ⟨fun i h => absurd h (Nat.not_lt_zero i), fun i j h => absurd h (Nat.not_lt_zero i), fun e he h => by
  rw [hA e he] at h
  exact absurd h (by decide)⟩
theorem BfQ_q {can : Nat → Nat → Bool} {d n : Nat} {gone : Nat → Bool} {s : Int} {H A B C : Nat → Int} {q : Nat} (hq : BfQ can d n gone s H A B C q) (hdn : d + n = 16) : q ≤ 16 := by
  have := inj_len (fun i => (C i).toNat) (List.range q) (List.range 16) List.nodup_range (fun i hi => by
    have h := (hq.1 i (List.mem_range.mp hi)).1.1
    rw [List.mem_range]
    have := h.2
    omega) (fun i j hi hj e => by
      have hi := List.mem_range.mp hi
      have hj := List.mem_range.mp hj
      have h1 := (hq.1 i hi).1.2.1
      have h2 := (hq.1 j hj).1.2.1
      have e : (C i).toNat = (C j).toNat := e
      exact hq.2.1 i j hi hj (by omega))
  rwa [List.length_range, List.length_range] at this
theorem BfQ_add {can : Nat → Nat → Bool} {d n : Nat} {gone : Nat → Bool} {s wh : Int} {H A B C : Nat → Int} {q e : Nat} (hq : BfQ can d n gone s H A B C q) (he : mtIn d n e) (hA : A e ≠ 1) (hw : 0 ≤ wh ∧ wh < 10) (hc : can wh.toNat e = true) (hg : gone wh.toNat = false) (hby : wh = s ∨ ∃ j, j < q ∧ H (C j).toNat = wh) : BfQ can d n gone s H (va_up A e 1) (va_up B e wh) (va_up C q (e : Int)) (q + 1) := by
  have hne : ∀ i, i < q → (C i).toNat ≠ e := fun i hi h => hA (by rw [← h]; exact (hq.1 i hi).1.2.2)
  have hC : ∀ i, i < q → va_up C q (e : Int) i = C i := fun i hi => up_n _ _ (by omega)
  refine ⟨fun i hi => ?_, fun i j hi hj h => ?_, fun f hf h => ?_⟩
  · by_cases k : i = q
    · subst k
      rw [up_s, Int.toNat_natCast, up_s, up_s]
      refine ⟨⟨he, by omega, rfl⟩, hw, hc, hg, ?_⟩
      rcases hby with h | ⟨j, h1, h2⟩
      · exact Or.inl h
      · exact Or.inr ⟨j, h1, by rw [hC j h1]; exact h2⟩
    · have hi : i < q := by omega
      rw [hC i hi, up_n _ _ (hne i hi), up_n _ _ (hne i hi)]
      obtain ⟨a, b, c, g, h⟩ := hq.1 i hi
      refine ⟨a, b, c, g, ?_⟩
      rcases h with h | ⟨j, h1, h2⟩
      · exact Or.inl h
      · exact Or.inr ⟨j, h1, by rw [hC j (by omega)]; exact h2⟩
  · by_cases k : i = q
    · by_cases k2 : j = q
      · rw [k, k2]
      · have hj : j < q := by omega
        rw [k, up_s, hC j hj] at h
        exact absurd (by omega) (hne j hj)
    · have hi : i < q := by omega
      by_cases k2 : j = q
      · rw [k2, up_s, hC i hi] at h
        exact absurd (by omega) (hne i hi)
      · have hj : j < q := by omega
        rw [hC i hi, hC j hj] at h
        exact hq.2.1 i j hi hj h
  · by_cases k : f = e
    · exact ⟨q, by omega, by rw [up_s, k]⟩
    · rw [up_n _ _ k] at h
      obtain ⟨i, h1, h2⟩ := hq.2.2 f hf h
      exact ⟨i, by omega, by rw [hC i h1]; exact h2⟩
theorem BfO_add {can : Nat → Nat → Bool} {d n : Nat} {s wh : Int} {H A C : Nat → Int} {l q e : Nat} (ho : BfO can d n s H A C l wh) (hl : l ≤ q) : BfO can d n s H (va_up A e 1) (va_up C q (e : Int)) l wh := by
  have hC : ∀ i, i < l → va_up C q (e : Int) i = C i := fun i hi => up_n _ _ (by omega)
  refine ⟨fun i hi => by rw [hC i hi]; exact ho.1 i hi, ?_⟩
  rcases ho.2 with h | ⟨h1, h2, h3, h4⟩
  · exact Or.inl h
  · exact Or.inr ⟨h1, BfE_up h2, fun i hi => by rw [hC i (by omega)]; exact BfE_up (h3 i hi), by rw [hC (l - 1) (by omega)]; exact h4⟩
/-- all that was looked at is spread out -/
theorem BfO_all {can : Nat → Nat → Bool} {d n : Nat} {s wh : Int} {H A C : Nat → Int} {l : Nat} (ho : BfO can d n s H A C l wh) (hw : BfE can d n A wh) : BfE can d n A s ∧ ∀ i, i < l → BfE can d n A (H (C i).toNat) := by
  rcases ho.2 with ⟨h1, h2⟩ | ⟨h1, h2, h3, h4⟩
  · subst h2
    exact ⟨hw, fun i hi => by omega⟩
  · refine ⟨h2, fun i hi => ?_⟩
    by_cases k : i + 1 < l
    · exact h3 i k
    · rw [show i = l - 1 by omega, ← h4]
      exact hw
theorem BfO_wh {can : Nat → Nat → Bool} {d n : Nat} {s wh : Int} {H A C : Nat → Int} {l q : Nat} (ho : BfO can d n s H A C l wh) (hl : l ≤ q) : wh = s ∨ ∃ j, j < q ∧ H (C j).toNat = wh := by
  rcases ho.2 with ⟨_, h⟩ | ⟨h1, _, _, h4⟩
  · exact Or.inl h
  · exact Or.inr ⟨l - 1, by omega, h4.symm⟩
theorem BfO_next {can : Nat → Nat → Bool} {d n : Nat} {s wh : Int} {H A C : Nat → Int} {l : Nat} (ho : BfO can d n s H A C l wh) (hw : BfE can d n A wh) (h0 : 0 ≤ H (C l).toNat) : BfO can d n s H A C (l + 1) (H (C l).toNat) := by
  obtain ⟨a, b⟩ := BfO_all ho hw
  refine ⟨fun i hi => ?_, Or.inr ⟨by omega, a, fun i hi => b i (by omega), rfl⟩⟩
  by_cases k : i = l
  · rw [k]
    exact h0
  · exact ho.1 i (by omega)
theorem Bf_no {can : Nat → Nat → Bool} {d n : Nat} {gone : Nat → Bool} {s wh : Int} {H A B C : Nat → Int} {q : Nat} (hq : BfQ can d n gone s H A B C q) (ho : BfO can d n s H A C q wh) (hw : BfE can d n A wh) : MCl can d n H (fun e => A e = 1) ∧ ∀ f, mtIn d n f → can s.toNat f = true → A f = 1 := by
  obtain ⟨a, b⟩ := BfO_all ho hw
  refine ⟨fun e he h => ?_, a⟩
  obtain ⟨i, h1, h2⟩ := hq.2.2 e he h
  have h3 := ho.1 i h1
  have h4 := b i h1
  rw [show (C i).toNat = e by omega] at h3 h4
  exact ⟨h3, h4⟩
/-- while the path is turned round: x was free, h has no one for at -/
def BfJ (can : Nat → Nat → Bool) (d n : Nat) (gone : Nat → Bool) (H h : Nat → Int) (x at_ : Nat) : Prop :=
  (∀ e, mtIn d n e → e ≠ at_ → h e = H e ∨ ((0 ≤ h e ∧ h e < 10) ∧ can (h e).toNat e = true ∧ gone (h e).toNat = false)) ∧
  (∀ e f, mtIn d n e → mtIn d n f → e ≠ at_ → f ≠ at_ → h e = h f → 0 ≤ h e → e = f) ∧
  (∀ j : Int, 0 ≤ j → ((∃ e, mtIn d n e ∧ e ≠ at_ ∧ h e = j) ↔ ∃ e, mtIn d n e ∧ H e = j)) ∧
  (∀ e, mtIn d n e → e ≠ at_ → (h e = -1 ↔ H e = -1 ∧ e ≠ x)) ∧
  (mtIn d n x ∧ H x = -1) ∧ (mtIn d n at_ ∧ (H at_ = -1 → at_ = x)) ∧
  (∀ Z : Nat → Prop, MCl can d n H Z → ¬ Z at_ ∧ ∀ e, mtIn d n e → Z e → h e = H e)
theorem BfJ_0 {can : Nat → Nat → Bool} {d n : Nat} {gone : Nat → Bool} {k : Nat} {H : Nat → Int} {x : Nat} (hg : MGr can d n gone k H) (hx : mtIn d n x) (h0 : H x = -1) : BfJ can d n gone H H x x :=
  ⟨fun e _ _ => Or.inl rfl, fun e f he hf _ _ => hg.1.2 e f he hf, fun j hj => ⟨fun ⟨e, he, _, h⟩ => ⟨e, he, h⟩, fun ⟨e, he, h⟩ => ⟨e, he, fun q => by rw [q, h0] at h; omega, h⟩⟩, fun e he h => ⟨fun q => ⟨q, h⟩, fun q => q.1⟩, ⟨hx, h0⟩, ⟨hx, fun _ => rfl⟩, fun Z hZ => ⟨fun z => by
    have := (hZ x hx z).1
    omega, fun e _ _ => rfl⟩⟩
theorem BfJ_step {can : Nat → Nat → Bool} {d n : Nat} {gone : Nat → Bool} {H h : Nat → Int} {x a b : Nat} {y : Int} (hj : BfJ can d n gone H h x a) (hb : mtIn d n b) (hba : b ≠ a) (hHb : H b = y) (hhb : h b = y) (hy : 0 ≤ y ∧ y < 10) (hc : can y.toNat a = true) (hg : gone y.toNat = false) : BfJ can d n gone H (va_up h a y) x b := by
  obtain ⟨j1, j2, j3, j4, j5, j6, j7⟩ := hj
  refine ⟨fun e he ne => ?_, fun e f he hf ne nf hef h0 => ?_, fun j hj0 => ⟨fun ⟨e, he, ne, q⟩ => ?_, fun ⟨e, he, q⟩ => ?_⟩, fun e he ne => ?_, j5, ⟨hb, fun q => by omega⟩, fun Z hZ => ⟨fun z => (j7 Z hZ).1 ((hZ b hb z).2 a j6.1 (by rw [hHb]; exact hc)), fun e he z => ?_⟩⟩
  · by_cases k : e = a
    · rw [k, up_s]
      exact Or.inr ⟨hy, hc, hg⟩
    · rw [up_n _ _ k]
      exact j1 e he k
  · by_cases k : e = a
    · by_cases k2 : f = a
      · rw [k, k2]
      · rw [k, up_s, up_n _ _ k2] at hef
        exact absurd (j2 f b hf hb k2 hba (by rw [hhb, hef]) (by omega)) nf
    · rw [up_n _ _ k] at h0
      by_cases k2 : f = a
      · rw [k2, up_s, up_n _ _ k] at hef
        exact absurd (j2 e b he hb k hba (by rw [hhb, hef]) h0) ne
      · rw [up_n _ _ k, up_n _ _ k2] at hef
        exact j2 e f he hf k k2 hef h0
  · by_cases k : e = a
    · rw [k, up_s] at q
      exact ⟨b, hb, by rw [hHb, q]⟩
    · rw [up_n _ _ k] at q
      exact (j3 j hj0).mp ⟨e, he, k, q⟩
  · obtain ⟨f, hf, nf, q2⟩ := (j3 j hj0).mpr ⟨e, he, q⟩
    by_cases k : f = b
    · exact ⟨a, j6.1, fun w => hba w.symm, by rw [up_s, ← hhb, ← k, q2]⟩
    · exact ⟨f, hf, k, by rw [up_n _ _ nf]; exact q2⟩
  · by_cases k : e = a
    · rw [k, up_s]
      exact ⟨fun q => by omega, fun q => absurd (j6.2 q.1) q.2⟩
    · rw [up_n _ _ k]
      exact j4 e he k
  · have k : e ≠ a := fun k => (j7 Z hZ).1 (k ▸ z)
    rw [up_n _ _ k]
    exact (j7 Z hZ).2 e he z
theorem BfJ_end {can : Nat → Nat → Bool} {d n : Nat} {gone : Nat → Bool} {s : Nat} {H h : Nat → Int} {x a : Nat} (hj : BfJ can d n gone H h x a) (hs : s < 10) (hno : ∀ e, mtIn d n e → H e ≠ (s : Int)) (hc : can s a = true) (hg : gone s = false) : MFd can d n gone s (fun _ => False) H (va_up h a (s : Int)) := by
  obtain ⟨j1, j2, j3, j4, j5, j6, j7⟩ := hj
  have nos : ∀ e, mtIn d n e → e ≠ a → h e ≠ (s : Int) := fun e he k q => by
    obtain ⟨f, hf, q2⟩ := (j3 (s : Int) (by omega)).mp ⟨e, he, k, q⟩
    exact hno f hf q2
  refine ⟨fun e he => absurd he id, fun e he => ?_, ⟨x, j5.1, id, j5.2, ?_, fun e he ne => ?_⟩, fun e f he hf _ _ hef h0 => ?_, fun j hj0 => ⟨fun ⟨e, he, _, q⟩ => ?_, fun q => ?_⟩, fun Z hZ => ⟨⟨a, j6.1, hc, (j7 Z hZ).1⟩, fun e he z => ?_⟩⟩
  · by_cases k : e = a
    · rw [k, up_s]
      exact Or.inr ⟨⟨by omega, by omega⟩, hc, hg⟩
    · rw [up_n _ _ k]
      exact j1 e he k
  · by_cases k : x = a
    · rw [k, up_s]
      omega
    · rw [up_n _ _ k]
      exact fun q => ((j4 x j5.1 k).mp q).2 rfl
  · by_cases k : e = a
    · rw [k, up_s]
      exact ⟨fun q => absurd (k.trans (j6.2 q)) ne, fun q => by omega⟩
    · rw [up_n _ _ k]
      exact ⟨fun q => (j4 e he k).mpr ⟨q, ne⟩, fun q => ((j4 e he k).mp q).1⟩
  · by_cases k : e = a
    · by_cases k2 : f = a
      · rw [k, k2]
      · rw [k, up_s, up_n _ _ k2] at hef
        exact absurd hef.symm (nos f hf k2)
    · by_cases k2 : f = a
      · rw [k2, up_s, up_n _ _ k] at hef
        exact absurd hef (nos e he k)
      · rw [up_n _ _ k] at h0
        rw [up_n _ _ k, up_n _ _ k2] at hef
        exact j2 e f he hf k k2 hef h0
  · by_cases k : e = a
    · rw [k, up_s] at q
      exact Or.inr q.symm
    · rw [up_n _ _ k] at q
      obtain ⟨f, hf, q2⟩ := (j3 j hj0).mp ⟨e, he, k, q⟩
      exact Or.inl ⟨f, hf, id, q2⟩
  · rcases q with ⟨e, he, _, q⟩ | q
    · obtain ⟨f, hf, nf, q2⟩ := (j3 j hj0).mpr ⟨e, he, q⟩
      exact ⟨f, hf, id, by rw [up_n _ _ nf]; exact q2⟩
    · exact ⟨a, j6.1, id, by rw [up_s, q]⟩
  · have k : e ≠ a := fun k => (j7 Z hZ).1 (k ▸ z)
    rw [up_n _ _ k]
    exact (j7 Z hZ).2 e he z
