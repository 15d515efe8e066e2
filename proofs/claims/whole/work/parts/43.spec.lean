/-- who can on which day, and who doesn't count, of the class -/
def cCan (u : gS) : Nat → Nat → Bool := fun s e => tb (u.2.1 28 s) e && tb (u.1 18) e
def cGone (u : gS) (p g : Int) : Nat → Bool := fun s => !(decide (u.2.1 25 s = 1) && decide (u.2.1 26 s = p) && !tb g s)
def cMost (u : gS) (d p g : Int) : Int := (mx (cCan u) (16 - d.toNat) d.toNat (cGone u p g) : Nat)
theorem cGone_set (u : gS) (p g : Int) {s : Int} (h1 : 0 ≤ s) (h2 : s < 32) : cGone u p (bOr g (bShl 1 s)) = upB (cGone u p g) s.toNat := by
  funext j
  unfold upB
  by_cases h : j = s.toNat
  · rw [if_pos h]
    show (!(_ && _ && !tb (bOr g (bShl 1 s)) j)) = true
    rw [(tb_set h1 h2).mpr (Or.inr h)]
    simp
  · rw [if_neg h]
    show (!(_ && _ && !tb (bOr g (bShl 1 s)) j)) = (!(_ && _ && !tb g j))
    have : tb (bOr g (bShl 1 s)) j = tb g j := by
      cases q : tb g j with
      | true => exact (tb_set h1 h2).mpr (Or.inl q)
      | false =>
        cases q2 : tb (bOr g (bShl 1 s)) j with
        | false => rfl
        | true =>
          rcases (tb_set h1 h2).mp q2 with r | r
          · rw [r] at q
            exact absurd q (by decide)
          · exact absurd r h
    rw [this]
theorem cGone_F {u : gS} {p g : Int} {s : Nat} : cGone u p g s = false ↔ (u.2.1 25 s = 1 ∧ u.2.1 26 s = p) ∧ tb g s = false := by
  unfold cGone
  simp
theorem mx_le10 (can : Nat → Nat → Bool) : ∀ (n d : Nat) (gone : Nat → Bool), mx can n d gone ≤ n
  | 0, _, _ => Nat.le_refl 0
  | n + 1, d, gone => by
    unfold mx
    rcases mxB_or (fun s => can s d && !gone s) (fun s => mx can n (d + 1) (upB gone s)) 10 (mx can n (d + 1) gone) with h | ⟨s, _, _, h⟩
    · rw [h]
      have := mx_le10 can n (d + 1) gone
      omega
    · rw [h]
      have := mx_le10 can n (d + 1) (upB gone s)
      omega
theorem cMost_bnd (u : gS) {d p g : Int} (h1 : 0 ≤ d) (h2 : d ≤ 16) : 0 ≤ cMost u d p g ∧ cMost u d p g ≤ 16 := by
  unfold cMost
  have := mx_le10 (cCan u) (16 - d.toNat) d.toNat (cGone u p g)
  omega
/-- the best of those that are ok: the least slot, then the least number -/
def pkL (ok : Nat → Bool) (sl : Nat → Int) : Nat → Nat → Int → Int
  | 0, _, who => who
  | n + 1, s, who => pkL ok sl n (s + 1) (if ok s = true ∧ (who < 0 ∨ sl s < sl who.toNat) then (s : Int) else who)
def okD (can : Nat → Nat → Bool) (d : Nat) (gone : Nat → Bool) (s : Nat) : Bool := !gone s && can s d && decide (1 + mx can (15 - d) (d + 1) (upB gone s) = mx can (16 - d) d gone)
def pkv (can : Nat → Nat → Bool) (sl : Nat → Int) (d : Nat) (gone : Nat → Bool) : Int := pkL (okD can d gone) sl 10 0 (-1)
def wgL (can : Nat → Nat → Bool) (sl : Nat → Int) : Nat → Nat → (Nat → Bool) → Int → Int
  | 0, _, _, who => who
  | n + 1, d, gone, _ => wgL can sl n (d + 1) (if 0 ≤ pkv can sl d gone then upB gone (pkv can sl d gone).toNat else gone) (pkv can sl d gone)
theorem pkL_bnd (ok : Nat → Bool) (sl : Nat → Int) : ∀ n s who, -1 ≤ who → who ≤ 9 → s + n = 10 → -1 ≤ pkL ok sl n s who ∧ pkL ok sl n s who ≤ 9
  | 0, s, who, h1, h2, _ => ⟨h1, h2⟩
  | n + 1, s, who, h1, h2, h3 => by
    unfold pkL
    refine pkL_bnd ok sl n (s + 1) _ ?_ ?_ (by omega)
    · split <;> omega
    · split <;> omega
theorem pkv_bnd (can : Nat → Nat → Bool) (sl : Nat → Int) (d : Nat) (gone : Nat → Bool) : -1 ≤ pkv can sl d gone ∧ pkv can sl d gone ≤ 9 := pkL_bnd _ _ 10 0 (-1) (by decide) (by decide) rfl
theorem wgL_bnd (can : Nat → Nat → Bool) (sl : Nat → Int) : ∀ n d gone who, -1 ≤ who → who ≤ 9 → -1 ≤ wgL can sl n d gone who ∧ wgL can sl n d gone who ≤ 9
  | 0, _, _, _, h1, h2 => ⟨h1, h2⟩
  | n + 1, d, gone, who, _, _ => by
    unfold wgL
    exact wgL_bnd can sl n _ _ _ (pkv_bnd can sl d gone).1 (pkv_bnd can sl d gone).2
def cPickN (u : gS) (d p g : Int) : Int := pkv (cCan u) (u.2.1 27) d.toNat (cGone u p g)
def cWho (u : gS) (d p : Int) : Int := wgL (cCan u) (u.2.1 27) (d.toNat + 1) 0 (cGone u p 0) (-1)
def cDone (u : gS) : Int := cMost u 0 0 0 + cMost u 0 1 0 + cMost u 0 2 0 + cMost u 0 3 0
def cGoes (u : gS) (d p : Int) : Int := if (0 ≤ d ∧ d ≤ 15) ∧ (0 ≤ p ∧ p ≤ 3) then (if cWho u d p = -1 then -2 else cWho u d p) else -1
/-- the state but for what the search uses -/
def cNp (u : gS) (T : Int) (H : Nat → Int) : gS := sF (sI u 19 T) 29 H
theorem cNp_cNp (u : gS) (T T' : Int) (H H' : Nat → Int) : cNp (cNp u T H) T' H' = cNp u T' H' := by
  unfold cNp
  simp only [sF, sI, up_up]
theorem up_self {α : Type} (f : Nat → α) (k : Nat) : va_up f k (f k) = f := by
  funext j
  unfold va_up
  split
  · next h => rw [h]
  · rfl
theorem fill_st {f : Nat → Int} {t x : Int} (ht : 0 ≤ t) (hf : ∀ j : Nat, (j : Int) < t → f j = x) : ∀ j : Nat, (j : Int) < t + 1 → va_up f t.toNat x j = x := by
  intro j hj
  by_cases h : j = t.toNat
  · rw [h, up_s]
  · rw [up_n _ _ h]
    exact hf j (by omega)
theorem row_up {H : Nat → Int} {i : Nat} {x : Int} (h : ∀ e, e < 16 → -1 ≤ H e ∧ H e ≤ 9) (hx : 0 ≤ x ∧ x ≤ 9) : ∀ e, e < 16 → -1 ≤ va_up H i x e ∧ va_up H i x e ≤ 9 := by
  intro e he
  by_cases q : e = i
  · rw [q, up_s]
    omega
  · rw [up_n _ _ q]
    exact h e he
