/-! the step: grow -/
theorem cnb_f {h q b z h' q' b' z' : Nat → Int} {x B S i : Int} {n : Nat} (he : ∀ i, i < n → h' i = h i ∧ (h i ≠ 0 → q' i = q i ∧ b' i = b i ∧ z' i = z i)) : cnb h' q' b' z' x B S i n = cnb h q b z x B S i n := by
  induction n with
  | zero => rfl
  | succ n ih =>
    have h1 := he n (by omega)
    show _ + ite _ _ _ = _ + ite _ _ _
    rw [ih (fun i hi => he i (by omega))]
    by_cases h2 : h n ≠ 0
    · have h3 := h1.2 h2
      rw [h1.1, h3.1, h3.2.1, h3.2.2]
    · rw [if_neg (fun q => h2 (by rw [← h1.1]; exact q.1)), if_neg (fun q => h2 q.1)]
theorem grow_geo {np : Nat} {T : MT} (hI : Inv np T) {a : Int} (hs : isS T a) (h0 : a ≠ 0) (h2 : 2 * T 16 a.toNat < T 16 (T 14 a.toNat).toNat) : pw13 (2 * T 16 a.toNat) ∧ T 15 (T 14 a.toNat).toNat ≤ grB T a ∧ grB T a + 2 * T 16 a.toNat ≤ T 15 (T 14 a.toNat).toNat + T 16 (T 14 a.toNat).toNat ∧ grB T a % (2 * T 16 a.toNat) = 0 ∧ grB T a ≤ T 15 a.toNat ∧ T 15 a.toNat + T 16 a.toNat ≤ grB T a + 2 * T 16 a.toNat := by
  have hb := hI.bd hs
  have hin := hI.inp (j := a.toNat) (by omega) hs.2.2 (by omega)
  have hg := hI.geo.2.1 a.toNat (by omega) hs.2.2
  have hps := hin.2.2.1
  have hbp := hI.bd hps
  have hgp := hI.geo.2.1 (T 14 a.toNat).toNat (by omega) hps.2.2
  have hp1 := pw13_b hgp.1
  have hpw : pw13 (2 * T 16 a.toNat) := by
    have h1 := hg.1
    unfold pw13 at h1 ⊢
    omega
  have hd := pw_dvd hpw hgp.1 (by omega)
  have hx := emod_mul hgp.2.1 hd
  have ha := al_in (S := 2 * T 16 a.toNat) (x := T 15 (T 14 a.toNat).toNat) (y := T 15 (T 14 a.toNat).toNat + T 16 (T 14 a.toNat).toNat) (t := T 15 a.toNat) (by omega) hx (by rw [Int.add_emod, hx, hd]; simp) (by omega) (by omega)
  have hm := md_b (B := T 15 a.toNat) (t := 2 * T 16 a.toNat) (by omega) (by omega)
  have hlast : T 15 a.toNat % (2 * T 16 a.toNat) = 0 ∨ T 15 a.toNat % (2 * T 16 a.toNat) = T 16 a.toNat := by
    obtain ⟨k, hk⟩ := Int.dvd_of_emod_eq_zero hg.2.1
    have e1 : T 15 a.toNat % (2 * T 16 a.toNat) = T 16 a.toNat * (k % 2) := by
      rw [Int.mul_comm 2]
      conv => lhs; rw [hk]
      exact Int.mul_emod_mul_of_pos _ _ (by omega)
    have h3 : k % 2 = 0 ∨ k % 2 = 1 := by omega
    rcases h3 with h3 | h3
    · rw [h3] at e1; left; rw [e1]; exact Int.mul_zero _
    · rw [h3] at e1; right; rw [e1]; exact Int.mul_one _
  unfold grB
  exact ⟨hpw, ha.1, ha.2.1, ha.2.2, hm.2, by omega⟩