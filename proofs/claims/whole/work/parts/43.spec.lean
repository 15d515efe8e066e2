/-- who can on which day, and who doesn't count, of the class -/
def cCan (u : gS) : Nat → Nat → Bool := fun s e => tb (u.2.1 28 s) e && tb (u.1 18) e
def cGone (u : gS) (p g : Int) : Nat → Bool := fun s => !(decide (u.2.1 25 s = 1) && decide (u.2.1 26 s = p) && !tb g s)
def cMost (u : gS) (d p g : Int) : Int := (mx (cCan u) (16 - d.toNat) d.toNat (cGone u p g) : Nat)
theorem cGone_set (u : gS) (p g : Int) {s : Int} (h1 : 0 ≤ s) (h2 : s < 32) : cGone u p (bOr g (bShl 1 s)) = upB (cGone u p g) s.toNat := by
  funext j
  unfold upB
  by_cases h : j = s.toNat
  · rw [if_pos h]
    show (!(_ && _ && !tb (bOr g (bShl 1 s)) j)) = true
    rw [(tb_set h1 h2).mpr (Or.inr h)]
    simp
  · rw [if_neg h]
    show (!(_ && _ && !tb (bOr g (bShl 1 s)) j)) = (!(_ && _ && !tb g j))
    have : tb (bOr g (bShl 1 s)) j = tb g j := by
      cases q : tb g j with
      | true => exact (tb_set h1 h2).mpr (Or.inl q)
      | false =>
        cases q2 : tb (bOr g (bShl 1 s)) j with
        | false => rfl
        | true =>
          rcases (tb_set h1 h2).mp q2 with r | r
          · rw [r] at q
            exact absurd q (by decide)
          · exact absurd r h
    rw [this]
theorem cGone_F {u : gS} {p g : Int} {s : Nat} : cGone u p g s = false ↔ (u.2.1 25 s = 1 ∧ u.2.1 26 s = p) ∧ tb g s = false := by
  unfold cGone
  simp
theorem mx_le10 (can : Nat → Nat → Bool) : ∀ (n d : Nat) (gone : Nat → Bool), mx can n d gone ≤ n
  | 0, _, _ => Nat.le_refl 0
  | n + 1, d, gone => by
    unfold mx
    rcases mxB_or (fun s => can s d && !gone s) (fun s => mx can n (d + 1) (upB gone s)) 10 (mx can n (d + 1) gone) with h | ⟨s, _, _, h⟩
    · rw [h]
      have := mx_le10 can n (d + 1) gone
      omega
    · rw [h]
      have := mx_le10 can n (d + 1) (upB gone s)
      omega
theorem cMost_bnd (u : gS) {d p g : Int} (h1 : 0 ≤ d) (h2 : d ≤ 16) : 0 ≤ cMost u d p g ∧ cMost u d p g ≤ 16 := by
  unfold cMost
  have := mx_le10 (cCan u) (16 - d.toNat) d.toNat (cGone u p g)
  omega
/-- the best of those that are ok: the least slot, then the least number -/
def pkL (ok : Nat → Bool) (sl : Nat → Int) : Nat → Nat → Int → Int
  | 0, _, who => who
  | n + 1, s, who => pkL ok sl n (s + 1) (if ok s = true ∧ (who < 0 ∨ sl s < sl who.toNat) then (s : Int) else who)
def okD (can : Nat → Nat → Bool) (d : Nat) (gone : Nat → Bool) (s : Nat) : Bool := !gone s && can s d && decide (1 + mx can (15 - d) (d + 1) (upB gone s) = mx can (16 - d) d gone)
def pkv (can : Nat → Nat → Bool) (sl : Nat → Int) (d : Nat) (gone : Nat → Bool) : Int := pkL (okD can d gone) sl 10 0 (-1)
def wgL (can : Nat → Nat → Bool) (sl : Nat → Int) : Nat → Nat → (Nat → Bool) → Int → Int
  | 0, _, _, who => who
  | n + 1, d, gone, _ => wgL can sl n (d + 1) (if 0 ≤ pkv can sl d gone then upB gone (pkv can sl d gone).toNat else gone) (pkv can sl d gone)
theorem pkL_bnd (ok : Nat → Bool) (sl : Nat → Int) : ∀ n s who, -1 ≤ who → who ≤ 9 → s + n = 10 → -1 ≤ pkL ok sl n s who ∧ pkL ok sl n s who ≤ 9
  | 0, s, who, h1, h2, _ => ⟨h1, h2⟩
  | n + 1, s, who, h1, h2, h3 => by
    unfold pkL
    refine pkL_bnd ok sl n (s + 1) _ ?_ ?_ (by omega)
    · split <;> omega
    · split <;> omega
theorem pkv_bnd (can : Nat → Nat → Bool) (sl : Nat → Int) (d : Nat) (gone : Nat → Bool) : -1 ≤ pkv can sl d gone ∧ pkv can sl d gone ≤ 9 := pkL_bnd _ _ 10 0 (-1) (by decide) (by decide) rfl
theorem wgL_bnd (can : Nat → Nat → Bool) (sl : Nat → Int) : ∀ n d gone who, -1 ≤ who → who ≤ 9 → -1 ≤ wgL can sl n d gone who ∧ wgL can sl n d gone who ≤ 9
  | 0, _, _, _, h1, h2 => ⟨h1, h2⟩
  | n + 1, d, gone, who, _, _ => by
    unfold wgL
    exact wgL_bnd can sl n _ _ _ (pkv_bnd can sl d gone).1 (pkv_bnd can sl d gone).2
def cPickN (u : gS) (d p g : Int) : Int := pkv (cCan u) (u.2.1 27) d.toNat (cGone u p g)
def cWho (u : gS) (d p : Int) : Int := wgL (cCan u) (u.2.1 27) (d.toNat + 1) 0 (cGone u p 0) (-1)
def cDoneL (u : gS) : Nat → Int
  | 0 => 0
  | k + 1 => cDoneL u k + cMost u 0 (k : Int) 0
def cDone (u : gS) : Int := cDoneL u 4
def cGoes (u : gS) (d p : Int) : Int := if (0 ≤ d ∧ d ≤ 15) ∧ (0 ≤ p ∧ p ≤ 3) then (if cWho u d p = -1 then -2 else cWho u d p) else -1
/-- the state but for what the search uses -/
def cNp (u : gS) (T : Int) (H : Nat → Int) : gS := sF (sI u 19 T) 29 H
theorem cNp_cNp (u : gS) (T T' : Int) (H H' : Nat → Int) : cNp (cNp u T H) T' H' = cNp u T' H' := by
  unfold cNp
  simp only [sF, sI, up_up]
theorem up_self {α : Type} (f : Nat → α) (k : Nat) : va_up f k (f k) = f := by
  funext j
  unfold va_up
  split
  · next h => rw [h]
  · rfl
theorem fill_st {f : Nat → Int} {t x : Int} (ht : 0 ≤ t) (hf : ∀ j : Nat, (j : Int) < t → f j = x) : ∀ j : Nat, (j : Int) < t + 1 → va_up f t.toNat x j = x := by
  intro j hj
  by_cases h : j = t.toNat
  · rw [h, up_s]
  · rw [up_n _ _ h]
    exact hf j (by omega)
theorem row_up {H : Nat → Int} {i : Nat} {x : Int} (h : ∀ e, e < 16 → -1 ≤ H e ∧ H e ≤ 9) (hx : 0 ≤ x ∧ x ≤ 9) : ∀ e, e < 16 → -1 ≤ va_up H i x e ∧ va_up H i x e ≤ 9 := by
  intro e he
  by_cases q : e = i
  · rw [q, up_s]
    omega
  · rw [up_n _ _ q]
    exact h e he
theorem bT {b : Bool} (h : ¬ b = false) : b = true := by
  cases b
  · exact absurd rfl h
  · rfl
theorem cNp_self (u : gS) : cNp u (u.1 19) (u.2.1 29) = u := by
  unfold cNp
  simp only [sF, sI, up_self]
theorem sz_none {h : Nat → Int} : ∀ {n d : Nat}, (∀ e, mtIn d n e → h e = -1) → sz h d n = 0
  | 0, d, _ => rfl
  | n + 1, d, hh => by
    rw [sz_s, if_pos (hh d ⟨Nat.le_refl d, by omega⟩), sz_none (n := n) (d := d + 1) (fun e he => hh e ⟨by have := he.1; omega, by have := he.2; omega⟩)]
theorem gr_hgo {can : Nat → Nat → Bool} {d n : Nat} {gone : Nat → Bool} {k : Nat} {H : Nat → Int} (hg : MGr can d n gone k H) : ∀ e, mtIn d n e → 0 ≤ H e → gone (H e).toNat = false := fun e he q => by
  rcases hg.1.1 e he with h | h
  · omega
  · exact h.2.2
theorem gr_hij {can : Nat → Nat → Bool} {d n : Nat} {gone : Nat → Bool} {k : Nat} {H : Nat → Int} {T : Nat → Prop} (hg : MGr can d n gone k H) : MIj d n T H k := ⟨fun e f he hf _ _ => hg.1.2 e f he hf, fun e he _ q => by
  have := hg.2.1 e he
  omega⟩
theorem gr_hmax {can : Nat → Nat → Bool} {d n : Nat} {gone : Nat → Bool} {k : Nat} {H : Nat → Int} (hg : MGr can d n gone k H) (hk : k ≤ 9) : ∀ P : List Nat, P.Nodup → (∀ e, e ∈ P → mtIn d n e ∧ 0 ≤ H e) → P.length ≤ 9 := fun P hP hh => Nat.le_trans (held_le P hP (fun e he => ⟨(hh e he).2, hg.2.1 e (hh e he).1⟩) (fun e f he hf q => hg.1.2 e f (hh e he).1 (hh f hf).1 q (hh e he).2)) hk
theorem tb0_F : (fun e : Nat => tb 0 e = true) = (fun _ => False) := by
  funext e
  rw [tb_0]
  simp
theorem open_can (u : gS) {p1 : Int} (h1 : 0 ≤ p1) (h2 : p1 ≤ 16) : ∀ s e : Nat, s < 10 → e < 16 → ((tb (u.2.1 28 s) e && tb (bAnd (u.1 18) (bShl (-1) p1)) e) = true ↔ mtIn p1.toNat (16 - p1.toNat) e ∧ cCan u s e = true) := by
  intro s e _ he
  rw [tb_and, tb_shlm h1 (by omega) (by omega)]
  unfold cCan mtIn
  simp only [Bool.and_eq_true, decide_eq_true_iff]
  constructor
  · rintro ⟨a, b, c⟩
    exact ⟨⟨by omega, by omega⟩, a, b⟩
  · rintro ⟨⟨a, b⟩, c, d⟩
    exact ⟨c, d, by omega⟩
theorem cGone_i (u : gS) (p g : Int) {k : Int} (h1 : 0 ≤ k) (h2 : k < 32) : cGone u p g k.toNat = false ↔ u.2.1 25 k.toNat = 1 ∧ u.2.1 26 k.toNat = p ∧ bAnd (bShr g k) 1 = 0 := by
  rw [cGone_F, bShr_1 h1 h2]
  cases tb g k.toNat with
  | true => simp
  | false => simp [and_assoc]
theorem pk_no {ok : Nat → Bool} {sl : Nat → Int} {n s : Nat} {who x : Int} (h : pkL ok sl (n + 1) s who = x) (hc : ¬ (ok s = true ∧ (who < 0 ∨ sl s < sl who.toNat))) : pkL ok sl n (s + 1) who = x := by
  unfold pkL at h
  rw [if_neg hc] at h
  exact h
theorem pk_yes {ok : Nat → Bool} {sl : Nat → Int} {n s : Nat} {who x : Int} (h : pkL ok sl (n + 1) s who = x) (hc : ok s = true ∧ (who < 0 ∨ sl s < sl who.toNat)) : pkL ok sl n (s + 1) (s : Int) = x := by
  unfold pkL at h
  rw [if_pos hc] at h
  exact h
theorem okD_iff {can : Nat → Nat → Bool} {d : Nat} {gone : Nat → Bool} {s : Nat} : okD can d gone s = true ↔ (gone s = false ∧ can s d = true) ∧ 1 + mx can (15 - d) (d + 1) (upB gone s) = mx can (16 - d) d gone := by
  unfold okD
  simp
theorem cCan_i (u : gS) {k : Nat} {p : Int} (h1 : 0 ≤ p) (h2 : p < 32) : bAnd (bAnd (u.2.1 28 k) (u.1 18)) (bShl 1 p) = 0 ↔ cCan u k p.toNat = false := by
  rw [bAnd_bit h1 h2, tb_and]
  rfl
theorem cMost_1 (u : gS) (p g : Int) {d k : Int} (h1 : 0 ≤ d) (h2 : d ≤ 15) (h3 : 0 ≤ k) (h4 : k < 32) : cMost u (d + 1) p (bOr g (bShl 1 k)) = (mx (cCan u) (15 - d.toNat) (d.toNat + 1) (upB (cGone u p g) k.toNat) : Nat) := by
  unfold cMost
  rw [cGone_set u p g h3 h4, show (d + 1).toNat = d.toNat + 1 by omega, show 16 - (d.toNat + 1) = 15 - d.toNat by omega]
theorem wg_no {can : Nat → Nat → Bool} {sl : Nat → Int} {n d : Nat} {gone : Nat → Bool} {who x : Int} (h : wgL can sl (n + 1) d gone who = x) (hc : ¬ 0 ≤ pkv can sl d gone) : wgL can sl n (d + 1) gone (pkv can sl d gone) = x := by
  unfold wgL at h
  rw [if_neg hc] at h
  exact h
theorem wg_yes {can : Nat → Nat → Bool} {sl : Nat → Int} {n d : Nat} {gone : Nat → Bool} {who x : Int} (h : wgL can sl (n + 1) d gone who = x) (hc : 0 ≤ pkv can sl d gone) : wgL can sl n (d + 1) (upB gone (pkv can sl d gone).toNat) (pkv can sl d gone) = x := by
  unfold wgL at h
  rw [if_pos hc] at h
  exact h
