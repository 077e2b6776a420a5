/-! the step: carveAt -/
theorem szp_pw {S : Int} (h : szp S) : pw13 S := by unfold szp at h; unfold pw13; omega
theorem Inv.clm {np : Nat} {T : MT} (h : Inv np T) {a : Int} (hs : isS T a) (S : Int) : clM T a S ↔ ¬ (T 0 2 < 60 ∧ S < T 16 a.toNat ∧ liiC T a ≤ 0) := by
  have he := h.eqs hs
  have hl := h.lii hs
  have hC := h.1.1
  unfold clM
  generalize lnM T (T 5 a.toNat) (T 6 a.toNat) = z at hl ⊢
  rw [h.2.2.2.2.2.1.1.1, he.2.2.1, hl]
  by_cases q : hsM T a
  · rw [if_pos q]
    constructor
    · rintro (q1 | q1 | q1) q2
      · omega
      · exact q1.1 q
      · omega
    · intro q1
      by_cases q2 : T 0 2 = 60
      · exact Or.inl q2
      · exact Or.inr (Or.inr (by omega))
  · rw [if_neg q]
    constructor
    · rintro (q1 | q1 | q1) q2
      · omega
      · omega
      · omega
    · intro q1
      by_cases q2 : T 0 2 = 60
      · exact Or.inl q2
      · by_cases q3 : T 16 a.toNat ≤ S
        · exact Or.inr (Or.inr q3)
        · exact Or.inr (Or.inl ⟨q, by omega⟩)
/-- a block of a size below the span's that begins in it ends in it -/
theorem Inv.blk {np : Nat} {T : MT} (h : Inv np T) {a B S : Int} (hs : isS T a) (hS : pw13 S) (h1 : S ≤ T 16 a.toNat) (hB : B % S = 0) (hb : T 15 a.toNat ≤ B ∧ B < T 15 a.toNat + T 16 a.toNat) : B + S ≤ T 15 a.toNat + T 16 a.toNat := by
  have hg := h.geo.2.1 a.toNat (by have := hs.1; have := hs.2.1; omega) hs.2.2
  have hp := pw13_b hS
  have hd := pw_dvd hS hg.1 h1
  have hx := emod_mul hg.2.1 hd
  have ha := al_in (S := S) (x := T 15 a.toNat) (y := T 15 a.toNat + T 16 a.toNat) (t := B) (by omega) hx (by rw [Int.add_emod, hx, hd]; simp) hb.1 hb.2
  omega
theorem Inv.cpart {np : Nat} {T : MT} (h : Inv np T) {a B S : Int} (hc : cntC T a B S 60 ≤ 0) : ∀ j : Nat, j < 60 → T 1 j ≠ 0 → T 14 j = a → B + S ≤ T 15 j ∨ T 15 j + T 16 j ≤ B := by
  intro j hj h1 h2
  rw [cntC_eq] at hc
  have := cnt_0 hc j hj h1 h2
  omega
theorem exMa_eq {np : Nat} {T : MT} (hI : Inv np T) (a B S o : Int) : exMa T a B S o = (exCa T a B S o : Nat) ∧ (exCa T a B S o = 0 → isS T a ∧ szp S ∧ (0 ≤ o ∧ o < 8) ∧ (0 ≤ B ∧ B % S = 0) ∧ T 0 2 < 60 ∧ S < T 16 a.toNat ∧ (T 15 a.toNat ≤ B ∧ B < T 15 a.toNat + T 16 a.toNat) ∧ cntC T a B S 60 ≤ 0) ∧ exCa T a B S o ≤ 3 := by
  unfold exMa exCa
  by_cases h1 : isS T a
  · rw [if_neg (c := ¬ isM T a) (fun q => q ((hI.isM a).mpr h1)), if_neg (c := fsp T a < 0) (fun q => fsp_neg.mp q h1)]
    by_cases h2 : szp S ∧ (0 ≤ o ∧ o < 8) ∧ (0 ≤ B ∧ B % S = 0)
    · have hb := hI.bd h1
      have he := hI.eqs h1
      have hcl := hI.clm h1 S
      have hcb := cntC_bd T a B S 60
      by_cases h3 : T 0 2 < 60 ∧ S < T 16 a.toNat ∧ liiC T a ≤ 0 ∧ (T 15 a.toNat ≤ B ∧ B < T 15 a.toNat + T 16 a.toNat) ∧ cntC T a B S 60 ≤ 0
      · have h4 : ¬ (clM T a S ∨ 4096 ≤ B ∨ ¬ frM T a B S) := by
          rintro (q | q | q)
          · exact hcl.mp q ⟨h3.1, h3.2.1, h3.2.2.1⟩
          · omega
          · refine q ⟨⟨by omega, ?_⟩, by rw [hI.cnt]; omega⟩
            rw [he.2.1, he.2.2.1]
            exact hI.blk h1 (szp_pw h2.1) (by omega) h2.2.2.2 h3.2.2.2.1
        rw [if_neg (fun q => q h2), if_neg h4, if_neg (fun q => q h2), if_pos h3]
        exact ⟨rfl, fun _ => ⟨h1, h2.1, h2.2.1, h2.2.2, h3.1, h3.2.1, h3.2.2.2⟩, by decide⟩
      · have h4 : clM T a S ∨ 4096 ≤ B ∨ ¬ frM T a B S := by
          by_cases q1 : clM T a S
          · exact Or.inl q1
          · refine Or.inr (Or.inr fun q => h3 ?_)
            have q2 := Classical.byContradiction (fun q2 => q1 (hcl.mpr q2))
            have q3 := q.1
            have q4 := q.2
            have hSp := pw13_b (szp_pw h2.1)
            rw [hI.cnt] at q4
            unfold liM at q3
            rw [he.2.1, he.2.2.1] at q3
            exact ⟨q2.1, q2.2.1, q2.2.2, by omega, by omega⟩
        rw [if_neg (fun q => q h2), if_pos h4, if_neg (fun q => q h2), if_neg h3]
        exact ⟨rfl, fun q => absurd q (by decide), by decide⟩
    · rw [if_pos h2, if_pos h2]
      exact ⟨rfl, fun q => absurd q (by decide), by decide⟩
  · rw [if_pos (c := ¬ isM T a) (fun q => h1 ((hI.isM a).mp q)), if_pos (c := fsp T a < 0) (fsp_neg.mpr h1)]
    exact ⟨rfl, fun q => absurd q (by decide), by decide⟩