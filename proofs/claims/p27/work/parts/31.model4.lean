/-! the model: remove, grow, halve, setOwner, lend, takeBack, pass -/
noncomputable def exMr (T : MT) (a : Int) : Int := if ¬ isM T a then 1 else if a = 0 ∨ hsM T a ∨ lnM T (T 5 a.toNat) (T 6 a.toNat) > 0 then 2 else 0
abbrev grM (T : MT) (a : Int) : Int := T 5 a.toNat - T 5 a.toNat % (2 * T 6 a.toNat)
abbrev gwM (T : MT) (a : Int) : Prop := a ≠ 0 ∧ liM T (T 7 a.toNat) (grM T a) (2 * T 6 a.toNat) ∧ 2 * T 6 a.toNat < T 6 (T 7 a.toNat).toNat ∧ cntM T (T 7 a.toNat) (grM T a) (2 * T 6 a.toNat) a = 0
noncomputable def exMg (T : MT) (a : Int) : Int := if ¬ isM T a then 1 else if gwM T a then 0 else 2
abbrev hvM (T : MT) (a : Int) : Prop := 0 < a ∧ 0 < T 6 a.toNat / 2 ∧ cntM T a (T 5 a.toNat + T 6 a.toNat / 2) (T 6 a.toNat / 2) (-1) = 0 ∧ lnM T (T 5 a.toNat + T 6 a.toNat / 2) (T 6 a.toNat / 2) = 0
noncomputable def exMh (T : MT) (a : Int) : Int := if ¬ isM T a then 1 else if hvM T a then 0 else 2
noncomputable def exMs (T : MT) (a o : Int) : Int := if ¬ isM T a then 1 else if 0 ≤ o ∧ o < 8 then 0 else 2