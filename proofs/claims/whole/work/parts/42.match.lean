/-! MATCHINGS: days d .. d + n - 1, swimmers below 10; h e is who has day e, -1: nobody -/
def upB (f : Nat → Bool) (k : Nat) : Nat → Bool := fun j => if j = k then true else f j
def mxB (ok : Nat → Bool) (f : Nat → Nat) : Nat → Nat → Nat
  | 0, b => b
  | k + 1, b => mxB ok f k (if ok k = true then (if b ≤ 1 + f k then 1 + f k else b) else b)
/-- the most swims from day d on (n days), without those that are gone -/
def mx (can : Nat → Nat → Bool) : Nat → Nat → (Nat → Bool) → Nat
  | 0, _, _ => 0
  | n + 1, d, gone => mxB (fun s => can s d && !gone s) (fun s => mx can n (d + 1) (upB gone s)) 10 (mx can n (d + 1) gone)
theorem mxB_b (ok : Nat → Bool) (f : Nat → Nat) : ∀ k b, b ≤ mxB ok f k b
  | 0, b => Nat.le_refl b
  | k + 1, b => by
    unfold mxB
    refine Nat.le_trans ?_ (mxB_b ok f k _)
    split
    · split <;> omega
    · omega
theorem mxB_s (ok : Nat → Bool) (f : Nat → Nat) : ∀ k b s, s < k → ok s = true → 1 + f s ≤ mxB ok f k b
  | 0, b, s, h, _ => absurd h (Nat.not_lt_zero s)
  | k + 1, b, s, h, ho => by
    unfold mxB
    by_cases e : s = k
    · subst e
      refine Nat.le_trans ?_ (mxB_b ok f s _)
      rw [if_pos ho]
      split <;> omega
    · exact mxB_s ok f k _ s (by omega) ho
theorem mxB_or (ok : Nat → Bool) (f : Nat → Nat) : ∀ k b, mxB ok f k b = b ∨ ∃ s, s < k ∧ ok s = true ∧ mxB ok f k b = 1 + f s
  | 0, b => Or.inl rfl
  | k + 1, b => by
    unfold mxB
    rcases mxB_or ok f k (if ok k = true then (if b ≤ 1 + f k then 1 + f k else b) else b) with h | ⟨s, h1, h2, h3⟩
    · by_cases ho : ok k = true
      · rw [if_pos ho] at h ⊢
        by_cases hb : b ≤ 1 + f k
        · rw [if_pos hb] at h ⊢
          exact Or.inr ⟨k, Nat.lt_succ_self k, ho, h⟩
        · rw [if_neg hb] at h ⊢
          exact Or.inl h
      · rw [if_neg ho] at h ⊢
        exact Or.inl h
    · exact Or.inr ⟨s, by omega, h2, h3⟩
def mtIn (d n e : Nat) : Prop := d ≤ e ∧ e < d + n
/-- h is a matching of the days d .. d + n - 1 with swimmers that can and aren't gone -/
def MMt (can : Nat → Nat → Bool) (d n : Nat) (gone : Nat → Bool) (h : Nat → Int) : Prop := (∀ e, mtIn d n e → h e = -1 ∨ ((0 ≤ h e ∧ h e < 10) ∧ can (h e).toNat e = true ∧ gone (h e).toNat = false)) ∧ ∀ e f, mtIn d n e → mtIn d n f → h e = h f → 0 ≤ h e → e = f
def sz (h : Nat → Int) (d n : Nat) : Nat := ((List.range' d n).filter (fun e => decide (h e ≠ -1))).length
theorem sz_0 (h : Nat → Int) (d : Nat) : sz h d 0 = 0 := rfl
theorem sz_s (h : Nat → Int) (d n : Nat) : sz h d (n + 1) = (if h d = -1 then 0 else 1) + sz h (d + 1) n := by
  unfold sz
  rw [List.range'_succ, List.filter_cons]
  by_cases e : h d = -1
  · rw [if_pos e, if_neg (by simp [e])]
    omega
  · rw [if_neg e, if_pos (by simp [e]), List.length_cons]
    omega
theorem sz_congr {h g : Nat → Int} : ∀ {n d : Nat}, (∀ e, mtIn d n e → (h e = -1 ↔ g e = -1)) → sz h d n = sz g d n
  | 0, d, _ => rfl
  | n + 1, d, hh => by
    rw [sz_s, sz_s, sz_congr (n := n) (d := d + 1) (fun e he => hh e ⟨by have := he.1; omega, by have := he.2; omega⟩)]
    have h0 := hh d ⟨Nat.le_refl d, by omega⟩
    by_cases q : h d = -1
    · rw [if_pos q, if_pos (h0.mp q)]
    · rw [if_neg q, if_neg (fun z => q (h0.mpr z))]
theorem sz_one {h g : Nat → Int} {x : Nat} : ∀ {n d : Nat}, mtIn d n x → h x = -1 → g x ≠ -1 → (∀ e, mtIn d n e → e ≠ x → (h e = -1 ↔ g e = -1)) → sz g d n = sz h d n + 1
  | 0, d, hx, _, _, _ => absurd hx (fun q => by have := q.1; have := q.2; omega)
  | n + 1, d, hx, h1, h2, hh => by
    rw [sz_s, sz_s]
    by_cases q : d = x
    · subst q
      rw [if_neg h2, if_pos h1, sz_congr (h := h) (g := g) (n := n) (d := d + 1) (fun e he => hh e ⟨by have := he.1; omega, by have := he.2; omega⟩ (by have := he.1; omega))]
      omega
    · have hd := hh d ⟨Nat.le_refl d, by omega⟩ q
      rw [sz_one (n := n) (d := d + 1) (x := x) ⟨by have := hx.1; omega, by have := hx.2; omega⟩ h1 h2 (fun e he hne => hh e ⟨by have := he.1; omega, by have := he.2; omega⟩ hne)]
      by_cases r : h d = -1
      · rw [if_pos r, if_pos (hd.mp r)]
        omega
      · rw [if_neg r, if_neg (fun z => r (hd.mpr z))]
        omega
theorem mx_ge {can : Nat → Nat → Bool} {h : Nat → Int} : ∀ {n d : Nat} {gone : Nat → Bool}, MMt can d n gone h → sz h d n ≤ mx can n d gone
  | 0, d, gone, _ => Nat.zero_le _
  | n + 1, d, gone, hm => by
    rw [sz_s]
    unfold mx
    have hd : mtIn d (n + 1) d := ⟨Nat.le_refl d, by omega⟩
    have hs : ∀ e, mtIn (d + 1) n e → mtIn d (n + 1) e := fun e he => ⟨by have := he.1; omega, by have := he.2; omega⟩
    rcases hm.1 d hd with h1 | ⟨h1, h2, h3⟩
    · rw [if_pos h1, Nat.zero_add]
      exact Nat.le_trans (mx_ge (gone := gone) ⟨fun e he => hm.1 e (hs e he), fun e f he hf => hm.2 e f (hs e he) (hs f hf)⟩) (mxB_b _ _ _ _)
    · rw [if_neg (by omega)]
      refine Nat.le_trans (Nat.add_le_add_left (mx_ge (gone := upB gone (h d).toNat) ⟨fun e he => ?_, fun e f he hf => hm.2 e f (hs e he) (hs f hf)⟩) 1) (mxB_s _ (fun s => mx can n (d + 1) (upB gone s)) 10 _ (h d).toNat (by omega) (by simp [h2, h3]))
      rcases hm.1 e (hs e he) with g1 | ⟨g1, g2, g3⟩
      · exact Or.inl g1
      · refine Or.inr ⟨g1, g2, ?_⟩
        unfold upB
        rw [if_neg (fun q => ?_)]
        · exact g3
        · have := hm.2 d e hd (hs e he) (by omega) h1.1
          have := he.1
          omega
theorem mx_at {can : Nat → Nat → Bool} : ∀ (n d : Nat) (gone : Nat → Bool), ∃ h, MMt can d n gone h ∧ sz h d n = mx can n d gone
  | 0, d, gone => ⟨fun _ => -1, ⟨fun e he => Or.inl rfl, fun e f he hf _ q => absurd (show (0 : Int) ≤ -1 from q) (by decide)⟩, rfl⟩
  | n + 1, d, gone => by
    have hs : ∀ e, mtIn d (n + 1) e → e ≠ d → mtIn (d + 1) n e := fun e he q => ⟨by have := he.1; omega, by have := he.2; omega⟩
    have cong : ∀ (h : Nat → Int) (w : Int), sz (va_up h d w) (d + 1) n = sz h (d + 1) n := fun h w => sz_congr (fun e he => by
      rw [up_n _ _ (by have := he.1; omega)])
    unfold mx
    rcases mxB_or (fun s => can s d && !gone s) (fun s => mx can n (d + 1) (upB gone s)) 10 (mx can n (d + 1) gone) with q | ⟨s, q1, q2, q3⟩
    · rw [q]
      obtain ⟨h, hm, hz⟩ := mx_at (can := can) n (d + 1) gone
      refine ⟨va_up h d (-1), ⟨fun e he => ?_, fun e f he hf hef h0 => ?_⟩, ?_⟩
      · by_cases r : e = d
        · subst r
          exact Or.inl (up_s _ _ _)
        · rw [up_n _ _ r]
          exact hm.1 e (hs e he r)
      · by_cases r : e = d
        · rw [r, up_s] at h0
          exact absurd h0 (by decide)
        · by_cases r2 : f = d
          · rw [up_n _ _ r] at h0
            rw [up_n _ _ r, r2, up_s] at hef
            omega
          · rw [up_n _ _ r] at h0
            rw [up_n _ _ r, up_n _ _ r2] at hef
            exact hm.2 e f (hs e he r) (hs f hf r2) hef h0
      · rw [sz_s, if_pos (up_s _ _ _), cong, hz, Nat.zero_add]
    · rw [q3]
      obtain ⟨h, hm, hz⟩ := mx_at (can := can) n (d + 1) (upB gone s)
      have qc : can s d = true ∧ gone s = false := by
        simp only [Bool.and_eq_true, Bool.not_eq_true'] at q2
        exact q2
      have hns : ∀ e, mtIn (d + 1) n e → 0 ≤ h e → h e ≠ (s : Int) := fun e he h0 z => by
        rcases hm.1 e he with g1 | ⟨g1, g2, g3⟩
        · omega
        · unfold upB at g3
          rw [if_pos (by omega)] at g3
          exact absurd g3 (by decide)
      refine ⟨va_up h d (s : Int), ⟨fun e he => ?_, fun e f he hf hef h0 => ?_⟩, ?_⟩
      · by_cases r : e = d
        · rw [r, up_s]
          exact Or.inr ⟨⟨by omega, by omega⟩, qc.1, qc.2⟩
        · rw [up_n _ _ r]
          rcases hm.1 e (hs e he r) with g1 | ⟨g1, g2, g3⟩
          · exact Or.inl g1
          · refine Or.inr ⟨g1, g2, ?_⟩
            unfold upB at g3
            split at g3
            · exact absurd g3 (by decide)
            · exact g3
      · by_cases r : e = d
        · by_cases r2 : f = d
          · rw [r, r2]
          · rw [r, up_s, up_n _ _ r2] at hef
            exact absurd hef.symm (hns f (hs f hf r2) (by omega))
        · by_cases r2 : f = d
          · rw [up_n _ _ r] at h0
            rw [up_n _ _ r, r2, up_s] at hef
            exact absurd hef (hns e (hs e he r) h0)
          · rw [up_n _ _ r] at h0
            rw [up_n _ _ r, up_n _ _ r2] at hef
            exact hm.2 e f (hs e he r) (hs f hf r2) hef h0
      · rw [sz_s, if_neg (by rw [up_s]; omega), cong, hz]
theorem inj_len (φ : Nat → Nat) : ∀ (l l2 : List Nat), l.Nodup → (∀ x, x ∈ l → φ x ∈ l2) → (∀ x y, x ∈ l → y ∈ l → φ x = φ y → x = y) → l.length ≤ l2.length
  | [], l2, _, _, _ => Nat.zero_le _
  | x :: l, l2, hn, h1, h2 => by
    have hx := h1 x List.mem_cons_self
    have hl : 0 < l2.length := List.length_pos_of_mem hx
    have hnx := List.nodup_cons.mp hn
    have := inj_len φ l (l2.erase (φ x)) hnx.2 (fun y hy => (List.mem_erase_of_ne (fun e => hnx.1 (by
      have := h2 y x (List.mem_cons_of_mem _ hy) List.mem_cons_self e
      rw [← this]
      exact hy))).mpr (h1 y (List.mem_cons_of_mem _ hy))) (fun y z hy hz => h2 y z (List.mem_cons_of_mem _ hy) (List.mem_cons_of_mem _ hz))
    rw [List.length_erase_of_mem hx] at this
    rw [List.length_cons]
    omega
/-- Z is closed: its days are held, and who holds one has no day out of it -/
def MCl (can : Nat → Nat → Bool) (d n : Nat) (h : Nat → Int) (Z : Nat → Prop) : Prop := ∀ e, mtIn d n e → Z e → 0 ≤ h e ∧ ∀ f, mtIn d n f → can (h e).toNat f = true → Z f
theorem mx_le {can : Nat → Nat → Bool} {d n : Nat} {gone : Nat → Bool} {h g : Nat → Int} {Z : Nat → Prop} (hZ : MCl can d n h Z) (hr : ∀ s : Nat, s < 10 → gone s = false → (∀ e, mtIn d n e → h e ≠ (s : Int)) → ∀ f, mtIn d n f → can s f = true → Z f) (hg : MMt can d n gone g) : sz g d n ≤ sz h d n := by
  classical
  have key : ∀ e, mtIn d n e → g e ≠ -1 → ¬ Z e → ∃ f, mtIn d n f ∧ h f = g e ∧ ¬ Z f := by
    intro e he h1 h2
    rcases hg.1 e he with g1 | ⟨g1, g2, g3⟩
    · exact absurd g1 h1
    · apply Classical.byContradiction
      intro hno
      refine h2 (hr (g e).toNat (by omega) g3 (fun f hf q => hno ⟨f, hf, by omega, fun zf => ?_⟩) e he g2)
      refine h2 ((hZ f hf zf).2 e he ?_)
      rw [q]
      exact g2
  let φ : Nat → Nat := fun e => if hh : mtIn d n e ∧ g e ≠ -1 ∧ ¬ Z e then Classical.choose (key e hh.1 hh.2.1 hh.2.2) else e
  have φ1 : ∀ e, mtIn d n e → g e ≠ -1 → ¬ Z e → mtIn d n (φ e) ∧ h (φ e) = g e ∧ ¬ Z (φ e) := by
    intro e a b c
    have hh : mtIn d n e ∧ g e ≠ -1 ∧ ¬ Z e := ⟨a, b, c⟩
    show mtIn d n (if hh : mtIn d n e ∧ g e ≠ -1 ∧ ¬ Z e then Classical.choose (key e hh.1 hh.2.1 hh.2.2) else e) ∧ h (if hh : mtIn d n e ∧ g e ≠ -1 ∧ ¬ Z e then Classical.choose (key e hh.1 hh.2.1 hh.2.2) else e) = g e ∧ ¬ Z (if hh : mtIn d n e ∧ g e ≠ -1 ∧ ¬ Z e then Classical.choose (key e hh.1 hh.2.1 hh.2.2) else e)
    rw [dif_pos hh]
    exact Classical.choose_spec (key e a b c)
  have φ2 : ∀ e, Z e → φ e = e := fun e z => by
    show (if hh : mtIn d n e ∧ g e ≠ -1 ∧ ¬ Z e then Classical.choose (key e hh.1 hh.2.1 hh.2.2) else e) = e
    rw [dif_neg (fun q => q.2.2 z)]
  have mem : ∀ e, e ∈ (List.range' d n).filter (fun e => decide (g e ≠ -1)) → mtIn d n e ∧ g e ≠ -1 := fun e he => by
    rw [List.mem_filter, List.mem_range'_1] at he
    exact ⟨⟨he.1.1, he.1.2⟩, of_decide_eq_true he.2⟩
  refine inj_len φ _ _ (List.Pairwise.filter _ (List.nodup_range' (step := 1))) (fun e he => ?_) (fun e f he hf hef => ?_)
  · obtain ⟨a, b⟩ := mem e he
    rw [List.mem_filter, List.mem_range'_1]
    by_cases z : Z e
    · rw [φ2 e z]
      exact ⟨⟨a.1, a.2⟩, decide_eq_true (by have := (hZ e a z).1; omega)⟩
    · obtain ⟨c1, c2, _⟩ := φ1 e a b z
      exact ⟨⟨c1.1, c1.2⟩, decide_eq_true (by rw [c2]; exact b)⟩
  · obtain ⟨a, b⟩ := mem e he
    obtain ⟨a2, b2⟩ := mem f hf
    by_cases z : Z e
    · by_cases z2 : Z f
      · rw [φ2 e z, φ2 f z2] at hef
        exact hef
      · rw [φ2 e z] at hef
        exact absurd (hef ▸ z) (φ1 f a2 b2 z2).2.2
    · by_cases z2 : Z f
      · rw [φ2 f z2] at hef
        exact absurd (hef.symm ▸ z2) (φ1 e a b z).2.2
      · have e1 := (φ1 e a b z).2.1
        have e2 := (φ1 f a2 b2 z2).2.1
        rw [hef, e2] at e1
        refine hg.2 e f a a2 e1.symm ?_
        rcases hg.1 e a with g1 | ⟨g1, _⟩
        · exact absurd g1 b
        · exact g1.1
/-- what the search keeps: a matching of those below k, and a closed set with all days of those that have none -/
def MGr (can : Nat → Nat → Bool) (d n : Nat) (gone : Nat → Bool) (k : Nat) (h : Nat → Int) : Prop := MMt can d n gone h ∧ (∀ e, mtIn d n e → h e < (k : Int)) ∧ ∃ Z : Nat → Prop, MCl can d n h Z ∧ ∀ s : Nat, s < k → s < 10 → gone s = false → (∀ e, mtIn d n e → h e ≠ (s : Int)) → ∀ f, mtIn d n f → can s f = true → Z f
theorem MGr_end {can : Nat → Nat → Bool} {d n : Nat} {gone : Nat → Bool} {k : Nat} {h : Nat → Int} (hg : MGr can d n gone k h) (hk : ∀ s : Nat, k ≤ s → s < 10 → gone s = false → ∀ f, mtIn d n f → can s f = false) : sz h d n = mx can n d gone := by
  obtain ⟨hm, _, Z, hZ, hr⟩ := hg
  refine Nat.le_antisymm (mx_ge hm) ?_
  obtain ⟨g, hgm, hgz⟩ := mx_at (can := can) n d gone
  rw [← hgz]
  refine mx_le hZ (fun s hs hgo hno f hf hc => ?_) hgm
  by_cases q : s < k
  · exact hr s q hs hgo hno f hf hc
  · rw [hk s (by omega) hs hgo f hf] at hc
    exact absurd hc (by decide)
theorem MGr_0 (can : Nat → Nat → Bool) (d n : Nat) (gone : Nat → Bool) {h : Nat → Int} (hh : ∀ e, mtIn d n e → h e = -1) : MGr can d n gone 0 h :=
  ⟨⟨fun e he => Or.inl (hh e he), fun e f he _ _ q => absurd q (by rw [hh e he]; decide)⟩, fun e he => by rw [hh e he]; omega, fun _ => False, fun e _ q => absurd q id, fun s q => absurd q (Nat.not_lt_zero s)⟩
theorem MGr_skip {can : Nat → Nat → Bool} {d n : Nat} {gone : Nat → Bool} {k : Nat} {h : Nat → Int} (hg : MGr can d n gone k h) (hk : gone k = false → ∀ f, mtIn d n f → can k f = false) : MGr can d n gone (k + 1) h := by
  obtain ⟨hm, hl, Z, hZ, hr⟩ := hg
  refine ⟨hm, fun e he => by have := hl e he; omega, Z, hZ, fun s hs hs2 hgo hno f hf hc => ?_⟩
  by_cases q : s = k
  · subst q
    rw [hk hgo f hf] at hc
    exact absurd hc (by decide)
  · exact hr s (by omega) hs2 hgo hno f hf hc
theorem MGr_no {can : Nat → Nat → Bool} {d n : Nat} {gone : Nat → Bool} {k : Nat} {h : Nat → Int} (hg : MGr can d n gone k h) {Y : Nat → Prop} (hY : MCl can d n h Y) (hk : ∀ f, mtIn d n f → can k f = true → Y f) : MGr can d n gone (k + 1) h := by
  obtain ⟨hm, hl, Z, hZ, hr⟩ := hg
  refine ⟨hm, fun e he => by have := hl e he; omega, fun e => Z e ∨ Y e, fun e he hz => ?_, fun s hs hs2 hgo hno f hf hc => ?_⟩
  · rcases hz with z | z
    · exact ⟨(hZ e he z).1, fun f hf hc => Or.inl ((hZ e he z).2 f hf hc)⟩
    · exact ⟨(hY e he z).1, fun f hf hc => Or.inr ((hY e he z).2 f hf hc)⟩
  · by_cases q : s = k
    · subst q
      exact Or.inr (hk f hf hc)
    · exact Or.inl (hr s (by omega) hs2 hgo hno f hf hc)
/-- a search that found a day for s: h becomes h'; T: days that it didn't touch -/
def MFd (can : Nat → Nat → Bool) (d n : Nat) (gone : Nat → Bool) (s : Nat) (T : Nat → Prop) (h h' : Nat → Int) : Prop :=
  (∀ e, T e → h' e = h e) ∧ (∀ e, mtIn d n e → h' e = h e ∨ ((0 ≤ h' e ∧ h' e < 10) ∧ can (h' e).toNat e = true ∧ gone (h' e).toNat = false)) ∧
  (∃ x, mtIn d n x ∧ ¬ T x ∧ h x = -1 ∧ h' x ≠ -1 ∧ ∀ e, mtIn d n e → e ≠ x → (h e = -1 ↔ h' e = -1)) ∧
  (∀ e f, mtIn d n e → mtIn d n f → ¬ T e → ¬ T f → h' e = h' f → 0 ≤ h' e → e = f) ∧
  (∀ j : Int, 0 ≤ j → ((∃ e, mtIn d n e ∧ ¬ T e ∧ h' e = j) ↔ (∃ e, mtIn d n e ∧ ¬ T e ∧ h e = j) ∨ j = (s : Int))) ∧
  (∀ Z : Nat → Prop, MCl can d n h Z → (∃ f, mtIn d n f ∧ can s f = true ∧ ¬ Z f) ∧ ∀ e, mtIn d n e → Z e → h' e = h e)
theorem MGr_yes {can : Nat → Nat → Bool} {d n : Nat} {gone : Nat → Bool} {k : Nat} {h h' : Nat → Int} (hg : MGr can d n gone k h) (hf : MFd can d n gone k (fun _ => False) h h') : MGr can d n gone (k + 1) h' ∧ sz h' d n = sz h d n + 1 := by
  obtain ⟨hm, hl, Z, hZ, hr⟩ := hg
  obtain ⟨_, f2, ⟨x, x1, _, x2, x3, x4⟩, f4, f5, f6⟩ := hf
  have hcov : ∀ j : Int, 0 ≤ j → ((∃ e, mtIn d n e ∧ h' e = j) ↔ (∃ e, mtIn d n e ∧ h e = j) ∨ j = (k : Int)) := fun j hj => by
    have := f5 j hj
    simpa using this
  refine ⟨⟨⟨fun e he => ?_, fun e f he hf he2 h0 => f4 e f he hf id id he2 h0⟩, fun e he => ?_, Z, fun e he z => ?_, fun s hs hs2 hgo hno f hf hc => ?_⟩, sz_one x1 x2 x3 x4⟩
  · rcases f2 e he with q | q
    · rw [q]
      exact hm.1 e he
    · exact Or.inr q
  · by_cases q : 0 ≤ h' e
    · rcases (hcov (h' e) q).mp ⟨e, he, rfl⟩ with ⟨f, hf, q2⟩ | q2
      · have := hl f hf
        omega
      · omega
    · omega
  · have := (f6 Z hZ).2 e he z
    rw [this]
    exact hZ e he z
  · have hsk : s ≠ k := fun q => by
      obtain ⟨e, he, q2⟩ := (hcov (k : Int) (by omega)).mpr (Or.inr rfl)
      exact hno e he (by rw [q2, q])
    refine hr s (by omega) hs2 hgo (fun e he q => ?_) f hf hc
    obtain ⟨e2, he2, q2⟩ := (hcov (s : Int) (by omega)).mpr (Or.inl ⟨e, he, q⟩)
    exact hno e2 he2 q2
/-- out of T nobody has two days, and s none -/
def MIj (d n : Nat) (T : Nat → Prop) (h : Nat → Int) (s : Nat) : Prop := (∀ e f, mtIn d n e → mtIn d n f → ¬ T e → ¬ T f → h e = h f → 0 ≤ h e → e = f) ∧ ∀ e, mtIn d n e → ¬ T e → h e ≠ (s : Int)
theorem MFd_one {can : Nat → Nat → Bool} {d n : Nat} {gone : Nat → Bool} {s : Nat} {T : Nat → Prop} {h : Nat → Int} {x : Nat} (hs : s < 10) (hx : mtIn d n x) (hT : ¬ T x) (h0 : h x = -1) (hc : can s x = true) (hg : gone s = false) (hi : MIj d n T h s) : MFd can d n gone s T h (va_up h x s) := by
  refine ⟨fun e he => up_n _ _ (fun q => hT (q ▸ he)), fun e he => ?_, ⟨x, hx, hT, h0, by rw [up_s]; omega, fun e he q => by rw [up_n _ _ q]⟩, fun e f he hf te tf hef h1 => ?_, fun j hj => ⟨fun ⟨e, he, te, q⟩ => ?_, fun q => ?_⟩, fun Z hZ => ⟨⟨x, hx, hc, fun z => ?_⟩, fun e he z => up_n _ _ (fun q => ?_)⟩⟩
  · by_cases q : e = x
    · rw [q, up_s]
      exact Or.inr ⟨⟨by omega, by omega⟩, hc, hg⟩
    · exact Or.inl (up_n _ _ q)
  · by_cases q : e = x
    · by_cases q2 : f = x
      · rw [q, q2]
      · rw [q, up_s, up_n _ _ q2] at hef
        exact absurd hef.symm (hi.2 f hf tf)
    · by_cases q2 : f = x
      · rw [q2, up_s, up_n _ _ q] at hef
        exact absurd hef (hi.2 e he te)
      · rw [up_n _ _ q, up_n _ _ q2] at hef
        rw [up_n _ _ q] at h1
        exact hi.1 e f he hf te tf hef h1
  · by_cases r : e = x
    · rw [r, up_s] at q
      exact Or.inr q.symm
    · rw [up_n _ _ r] at q
      exact Or.inl ⟨e, he, te, q⟩
  · rcases q with ⟨e, he, te, q⟩ | q
    · exact ⟨e, he, te, by rw [up_n _ _ (fun r => ?_)]; exact q; rw [r, h0] at q; omega⟩
    · exact ⟨x, hx, hT, by rw [up_s, q]⟩
  · have := (hZ x hx z).1
    omega
  · have := (hZ e he z).1
    rw [q, h0] at this
    omega
theorem MFd_via {can : Nat → Nat → Bool} {d n : Nat} {gone : Nat → Bool} {s t : Nat} {T T2 : Nat → Prop} {h h1 : Nat → Int} {x : Nat} (hs : s < 10) (hx : mtIn d n x) (hT : ¬ T x) (hT2 : T2 x) (hsub : ∀ e, T e → T2 e) (h0 : h x = (t : Int)) (hc : can s x = true) (hg : gone s = false) (hi : MIj d n T h s) (hf : MFd can d n gone t T2 h h1) : MFd can d n gone s T h (va_up h1 x s) := by
  obtain ⟨f1, f2, ⟨y, y1, y2, y3, y4, y5⟩, f4, f5, f6⟩ := hf
  have hxy : y ≠ x := fun q => y2 (q ▸ hT2)
  have cover : ∀ e, mtIn d n e → ¬ T2 e → 0 ≤ h1 e → (∃ g, mtIn d n g ∧ ¬ T2 g ∧ h g = h1 e) ∨ h1 e = (t : Int) := fun e he te q => (f5 (h1 e) q).mp ⟨e, he, te, rfl⟩
  have nos : ∀ e, mtIn d n e → ¬ T e → e ≠ x → 0 ≤ h1 e → h1 e ≠ (s : Int) := fun e he te ne q z => by
    by_cases k : T2 e
    · rw [f1 e k] at z
      exact hi.2 e he te z
    · rcases cover e he k q with ⟨g, g1, g2, g3⟩ | g3
      · exact hi.2 g g1 (fun w => g2 (hsub g w)) (by rw [g3, z])
      · exact hi.2 x hx hT (by rw [h0, ← g3, z])
  refine ⟨fun e he => (up_n _ _ (fun q : e = x => hT (q ▸ he))).trans (f1 e (hsub e he)), fun e he => ?_, ⟨y, y1, fun q => y2 (hsub y q), y3, by rw [up_n _ _ hxy]; exact y4, fun e he q => ?_⟩, fun e f he hf te tf hef h2 => ?_, fun j hj => ⟨fun ⟨e, he, te, q⟩ => ?_, fun q => ?_⟩, fun Z hZ => ⟨⟨x, hx, hc, fun z => ?_⟩, fun e he z => ?_⟩⟩
  · by_cases q : e = x
    · rw [q, up_s]
      exact Or.inr ⟨⟨by omega, by omega⟩, hc, hg⟩
    · rw [up_n _ _ q]
      exact f2 e he
  · by_cases r : e = x
    · rw [r, up_s, h0]
      exact ⟨fun z => by omega, fun z => by omega⟩
    · rw [up_n _ _ r]
      exact y5 e he q
  · by_cases q : e = x
    · by_cases q2 : f = x
      · rw [q, q2]
      · rw [q, up_s, up_n _ _ q2] at hef
        exact absurd hef.symm (nos f hf tf q2 (by omega))
    · rw [up_n _ _ q] at h2
      by_cases q2 : f = x
      · rw [q2, up_s, up_n _ _ q] at hef
        exact absurd hef (nos e he te q h2)
      · rw [up_n _ _ q, up_n _ _ q2] at hef
        by_cases a : T2 e
        · rw [f1 e a] at hef h2
          by_cases b : T2 f
          · rw [f1 f b] at hef
            exact hi.1 e f he hf te tf hef h2
          · exfalso
            rcases cover f hf b (by omega) with ⟨g, g1, g2, g3⟩ | g3
            · have := hi.1 e g he g1 te (fun w => g2 (hsub g w)) (by rw [g3, hef]) h2
              exact g2 (this ▸ a)
            · exact q (hi.1 e x he hx te hT (by rw [h0, ← g3, hef]) h2)
        · by_cases b : T2 f
          · rw [f1 f b] at hef
            exfalso
            rcases cover e he a h2 with ⟨g, g1, g2, g3⟩ | g3
            · have := hi.1 f g hf g1 tf (fun w => g2 (hsub g w)) (by rw [g3, hef]) (by omega)
              exact g2 (this ▸ b)
            · exact q2 (hi.1 f x hf hx tf hT (by rw [h0, ← g3, hef]) (by omega))
          · exact f4 e f he hf a b hef h2
  · by_cases r : e = x
    · rw [r, up_s] at q
      exact Or.inr q.symm
    · rw [up_n _ _ r] at q
      by_cases a : T2 e
      · rw [f1 e a] at q
        exact Or.inl ⟨e, he, te, q⟩
      · rcases cover e he a (by omega) with ⟨g, g1, g2, g3⟩ | g3
        · exact Or.inl ⟨g, g1, fun w => g2 (hsub g w), by rw [g3, q]⟩
        · exact Or.inl ⟨x, hx, hT, by rw [h0, ← g3, q]⟩
  · rcases q with ⟨e, he, te, q⟩ | q
    · by_cases r : e = x
      · rw [r, h0] at q
        obtain ⟨g, g1, g2, g3⟩ := (f5 j hj).mpr (Or.inr q.symm)
        exact ⟨g, g1, fun w => g2 (hsub g w), (up_n _ _ (fun w : g = x => g2 (w ▸ hT2))).trans g3⟩
      · by_cases a : T2 e
        · exact ⟨e, he, te, by rw [up_n _ _ r, f1 e a]; exact q⟩
        · obtain ⟨g, g1, g2, g3⟩ := (f5 j hj).mpr (Or.inl ⟨e, he, a, q⟩)
          exact ⟨g, g1, fun w => g2 (hsub g w), (up_n _ _ (fun w : g = x => g2 (w ▸ hT2))).trans g3⟩
    · exact ⟨x, hx, hT, by rw [up_s, q]⟩
  · obtain ⟨g, g1, g2, g3⟩ := (f6 Z hZ).1
    refine g3 ((hZ x hx z).2 g g1 ?_)
    rw [h0]
    exact g2
  · have hZx : ¬ Z x := fun zx => by
      obtain ⟨g, g1, g2, g3⟩ := (f6 Z hZ).1
      refine g3 ((hZ x hx zx).2 g g1 ?_)
      rw [h0]
      exact g2
    exact (up_n _ _ (fun q : e = x => hZx (q ▸ z))).trans ((f6 Z hZ).2 e he z)
/-- a search that found no day for s: its days and those of all that it met are tried -/
def MFl (can : Nat → Nat → Bool) (d n : Nat) (s : Nat) (T T2 : Nat → Prop) (h : Nat → Int) : Prop := (∀ e, T e → T2 e) ∧ (∀ e, mtIn d n e → T2 e → ¬ T e → 0 ≤ h e ∧ ∀ f, mtIn d n f → can (h e).toNat f = true → T2 f) ∧ ∀ f, mtIn d n f → can s f = true → T2 f
/-- the same, as far as day i -/
def MFp (can : Nat → Nat → Bool) (d n : Nat) (s : Nat) (T T2 : Nat → Prop) (h : Nat → Int) (i : Nat) : Prop := (∀ e, T e → T2 e) ∧ (∀ e, mtIn d n e → T2 e → ¬ T e → 0 ≤ h e ∧ ∀ f, mtIn d n f → can (h e).toNat f = true → T2 f) ∧ ∀ f, mtIn d n f → f < i → can s f = true → T2 f
theorem MFp_0 {can : Nat → Nat → Bool} {d n s : Nat} {T : Nat → Prop} {h : Nat → Int} : MFp can d n s T T h 0 := ⟨fun _ h => h, fun _ _ a b => absurd a b, fun f _ q => absurd q (Nat.not_lt_zero f)⟩
theorem MFp_end {can : Nat → Nat → Bool} {d n s i : Nat} {T T2 : Nat → Prop} {h : Nat → Int} (hp : MFp can d n s T T2 h i) (hi : d + n ≤ i) : MFl can d n s T T2 h := ⟨hp.1, hp.2.1, fun f hf => hp.2.2 f hf (Nat.lt_of_lt_of_le hf.2 hi)⟩
theorem MFp_skip {can : Nat → Nat → Bool} {d n s i : Nat} {T T2 : Nat → Prop} {h : Nat → Int} (hp : MFp can d n s T T2 h i) (hi : mtIn d n i → can s i = true → T2 i) : MFp can d n s T T2 h (i + 1) := ⟨hp.1, hp.2.1, fun f hf q c => by
  by_cases r : f = i
  · subst r
    exact hi hf c
  · exact hp.2.2 f hf (by omega) c⟩
theorem MFp_no {can : Nat → Nat → Bool} {d n s i t : Nat} {T T2 T3 T4 : Nat → Prop} {h : Nat → Int} (hp : MFp can d n s T T2 h i) (h0 : h i = (t : Int)) (h3 : ∀ e, T3 e ↔ T2 e ∨ e = i) (hl : MFl can d n t T3 T4 h) : MFp can d n s T T4 h (i + 1) := by
  obtain ⟨p1, p2, p3⟩ := hp
  obtain ⟨l1, l2, l3⟩ := hl
  have s24 : ∀ e, T2 e → T4 e := fun e he => l1 e ((h3 e).mpr (Or.inl he))
  refine ⟨fun e he => s24 e (p1 e he), fun e he a b => ?_, fun f hf q c => ?_⟩
  · by_cases k : T3 e
    · rcases (h3 e).mp k with k | k
      · obtain ⟨q1, q2⟩ := p2 e he k b
        exact ⟨q1, fun f hf c => s24 f (q2 f hf c)⟩
      · subst k
        rw [h0]
        exact ⟨by omega, fun f hf c => l3 f hf c⟩
    · exact l2 e he a k
  · by_cases r : f = i
    · subst r
      exact l1 f ((h3 f).mpr (Or.inr rfl))
    · exact s24 f (p3 f hf (by omega) c)
/-- the days that are held are at most k, if who holds them is below k -/
theorem held_le {h : Nat → Int} {k : Nat} (P : List Nat) (hn : P.Nodup) (h1 : ∀ e, e ∈ P → 0 ≤ h e ∧ h e < (k : Int)) (h2 : ∀ e f, e ∈ P → f ∈ P → h e = h f → e = f) : P.length ≤ k := by
  have := inj_len (fun e => (h e).toNat) P (List.range k) hn (fun e he => by
    have := h1 e he
    rw [List.mem_range]
    omega) (fun e f he hf q => h2 e f he hf (by
      have := h1 e he
      have := h1 f hf
      have q : (h e).toNat = (h f).toNat := q
      omega))
  rwa [List.length_range] at this
