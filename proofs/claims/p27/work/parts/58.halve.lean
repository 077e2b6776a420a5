theorem tri {np : Nat} {T : MT} (hI : Inv np T) (a : Int) {Cc Cm : Prop} [Decidable Cc] [Decidable Cm] (h : isS T a → (Cc ↔ Cm)) {ex : Nat} {E : Int} (hx : (if fsp T a < 0 then 1 else if Cc then 0 else 3 : Nat) = ex) (hE : (if ¬ isM T a then 1 else if Cm then 0 else 2 : Int) = E) : (ex = 0 ∨ ex = 1 ∨ ex = 3) ∧ (ex = 0 → isS T a ∧ Cc ∧ E = 0) ∧ (ex ≠ 0 → 1 ≤ (if ex = 1 then 1 else if ex = 3 then 2 else 0 : Int) ∧ (if ex = 1 then 1 else if ex = 3 then 2 else 0 : Int) ≤ 3 ∧ E = (if ex = 1 then 1 else if ex = 3 then 2 else 0 : Int)) := by
  by_cases h1 : isS T a
  · rw [if_neg (fun q => fsp_neg.mp q h1)] at hx
    rw [if_neg (fun q => q ((hI.isM a).mpr h1))] at hE
    by_cases h2 : Cc
    · rw [if_pos h2] at hx
      rw [if_pos ((h h1).mp h2)] at hE
      subst hx
      exact ⟨Or.inl rfl, fun _ => ⟨h1, h2, hE.symm⟩, fun q => absurd rfl q⟩
    · rw [if_neg h2] at hx
      rw [if_neg (fun q => h2 ((h h1).mpr q))] at hE
      subst hx; subst hE
      exact ⟨Or.inr (Or.inr rfl), fun q => absurd q (by decide), fun _ => by decide⟩
  · rw [if_pos (fsp_neg.mpr h1)] at hx
    rw [if_pos (fun q => h1 ((hI.isM a).mp q))] at hE
    subst hx; subst hE
    exact ⟨Or.inr (Or.inl rfl), fun q => absurd q (by decide), fun _ => by decide⟩
theorem pw_half {t : Int} (h : pw13 t) (h2 : t / 2 ≠ 0) : pw13 (t / 2) ∧ t = 2 * (t / 2) := by
  unfold pw13 at h ⊢
  rcases h with rfl | rfl | rfl | rfl | rfl | rfl | rfl | rfl | rfl | rfl | rfl | rfl | rfl <;> first | omega | decide
theorem halve_kids {np : Nat} {T : MT} (hI : Inv np T) {a : Int} (hs : isS T a) (h2 : T 16 a.toNat / 2 ≠ 0) (hc : cntC T a (T 15 a.toNat + T 16 a.toNat / 2) (T 16 a.toNat / 2) 60 ≤ 0) : ∀ j : Nat, j < 60 → T 1 j ≠ 0 → T 14 j = a → T 15 a.toNat ≤ T 15 j ∧ T 15 j + T 16 j ≤ T 15 a.toNat + T 16 a.toNat / 2 := by
  intro j hj h1 h3
  rw [cntC_eq] at hc
  have h4 := cnt_0 hc j hj h1 h3
  have h5 := hI.1.2 j hj
  have hb := hI.bd hs
  have h0 : j ≠ 0 := by
    rintro rfl
    have := hI.geo.1.2.2
    omega
  have h6 := hI.inp hj h1 h0
  rw [h3] at h6
  have h7 := pw_half (hI.geo.2.1 a.toNat (by omega) hs.2.2).1 h2
  omega