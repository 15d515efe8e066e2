def cRdC (w : gS) (cl : Nat) (K fd ch t : Int) : Int := if 0 < fd ∧ (t + 1) % fd = 0 then (if 0 < w.2.1 cl t.toNat + spCold K ch t - 3 then w.2.1 cl t.toNat + spCold K ch t - 3 else 0) else w.2.1 cl t.toNat + spCold K ch t
def cRd1 (w : gS) (sd cl rc tc : Nat) (t S C T : Int) : gS := sI (sI (sF (sF w sd (va_up (w.2.1 sd) t.toNat S)) cl (va_up (w.2.1 cl) (t + 1).toNat C)) rc (t + 1)) tc T
def cRdL (sd cl rc tc : Nat) (K sp li fd ch : Int) : Nat → Int → gS → gS
  | 0, _, w => w
  | n + 1, t, w => if t < 100 then (if w.1 tc = 0 then (if li ≤ cRdC w cl K fd ch t then cRdL sd cl rc tc K sp li fd ch n (t + 1) (cRd1 w sd cl rc tc t (spPace K sp fd t) (cRdC w cl K fd ch t) 1) else cRdL sd cl rc tc K sp li fd ch n (t + 1) (cRd1 w sd cl rc tc t (spPace K sp fd t) (cRdC w cl K fd ch t) 0)) else w) else w
def cReady (u : gS) (sd cl nu rc tc : Nat) (K nm sp li fd ch : Int) : gS := cRdL sd cl rc tc K sp li fd ch 101 0 (sI (sI (sI u nu nm) rc 0) tc 0)
