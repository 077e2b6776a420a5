/-! the step: carve -/
theorem sz2_pwi {S : Int} (hS : pw13 S) (i : Nat) (h : sz2 S i ≤ 4096) : pw13 (sz2 S i) ∧ S ≤ sz2 S i := by
  induction i with
  | zero => exact ⟨hS, Int.le_refl _⟩
  | succ i ih =>
    have e : sz2 S (i + 1) = 2 * sz2 S i := rfl
    have hb := pw13_b hS
    rw [e] at h ⊢
    have h0 : 1 ≤ sz2 S i := by
      rcases Nat.eq_zero_or_pos i with q | q
      · subst q; exact hb.1
      · have := sz2_lt hb.1 q
        have e0 : sz2 S 0 = S := rfl
        omega
    have h1 := ih (by omega)
    refine ⟨?_, by omega⟩
    have h2 := h1.1
    unfold pw13 at h2 ⊢
    omega
theorem sz2_inj {S : Int} (hS : 1 ≤ S) {i k : Nat} : (sz2 S i < sz2 S k ↔ i < k) ∧ (sz2 S i = sz2 S k ↔ i = k) := by
  by_cases c1 : i < k
  · have := sz2_lt hS c1
    omega
  · by_cases c2 : k < i
    · have := sz2_lt hS c2
      omega
    · obtain rfl : i = k := by omega
      omega
/-- the model's find is the class's choice -/
theorem find_eq {np : Nat} {T : MT} (h : Inv np T) {x S w r : Int} (hx : isS T x) (hS : pw13 S) (hw : 0 ≤ w ∧ w ≤ 2) (hr : fndP T x S w r) : (chB T x S (decide (w = 0)) = -1 ∧ r = -1) ∨ (chB T x S (decide (w = 0)) ≠ -1 ∧ 0 ≤ r ∧ r = cvB T x S w ∧ r % S = 0 ∧ T 15 x.toNat ≤ r ∧ r + S ≤ T 15 x.toNat + T 16 x.toNat ∧ ∀ j : Nat, j < 60 → T 1 j ≠ 0 → T 14 j = x → r + S ≤ T 15 j ∨ T 15 j + T 16 j ≤ r) := by
  have he := h.eqs hx
  have hb := h.bd hx
  have hSb := pw13_b hS
  have hcb := h.chB (S := S) (decide (w = 0)) hx
  have hcv : cvB T x S w = if w = 2 ∧ S < roomC T x (chB T x S (decide (w = 0))) then chB T x S (decide (w = 0)) + roomC T x (chB T x S (decide (w = 0))) / 2 else chB T x S (decide (w = 0)) := rfl
  rw [hcv]
  generalize chB T x S (decide (w = 0)) = cb at hcb ⊢
  generalize hrm : roomC T x cb = rm at hcb ⊢
  obtain ⟨f, fs, hr1, hr2⟩ := hr
  have hvl : ∀ i k, vl2 T x S i k ↔ (sz2 S i ≤ T 16 x.toNat ∧ (k : Int) * sz2 S i < T 16 x.toNat) := fun i k => by unfold vl2; rw [he.2.2.1]
  have hwh : ∀ i k, vl2 T x S i k → (wh2 T x S i k ↔ whB T x (T 15 x.toNat + k * sz2 S i) (sz2 S i)) := fun i k hv => by
    have hv2 := (hvl i k).mp hv
    exact h.wh hx (sz2_pwi hS i (by omega)).1 hv2.1 k
  have hof : ∀ p s, whB T x p s → S ≤ s → ∃ i k : Nat, vl2 T x S i k ∧ wh2 T x S i k ∧ p = T 15 x.toNat + k * sz2 S i ∧ s = sz2 S i := fun p s hp hs => by
    obtain ⟨k, k1, k2, k3⟩ := h.grid hx hp.1
    obtain ⟨i, hi⟩ := sz2_ex 4096 S s (by omega) hS hp.1.1 hs
    subst hi
    have hv := (hvl i k).mpr ⟨k3, k2⟩
    exact ⟨i, k, hv, (hwh i k hv).mpr (by rw [← k1]; exact hp), k1, rfl⟩
  rcases hr2 with ⟨f1, f2, f3⟩ | ⟨i, k, f1, f2, f3, f4, f5⟩
  · left
    have hr3 : r = -1 := by rw [hr1, if_neg (by omega), f1]
    rcases hcb with ⟨c1, -⟩ | ⟨c1, c2, -⟩
    · exact ⟨c1, hr3⟩
    · obtain ⟨i, k, q1, q2, -⟩ := hof _ _ c1 c2
      exact absurd q2 (f3 i k q1)
  · right
    have hwb := (hwh i k f1).mp f2
    have hv := (hvl i k).mp f1
    have hp := sz2_pwi hS i (by omega)
    rw [he.2.1] at f3
    rw [← f3, ← f4] at hwb
    rw [← f4] at hp hv
    have hpb := pw13_b hp.1
    rcases hcb with ⟨-, c2⟩ | ⟨c1, c2, c3⟩
    · exact absurd hp.2 (c2 f fs hwb)
    · obtain ⟨i', k', q1, q2, q3, q4⟩ := hof cb rm c1 c2
      have g1 := c3 f fs hwb hp.2
      have g2 := f5 i' k' q1 q2
      have j1 := sz2_inj (S := S) hSb.1 (i := i) (k := i')
      have j2 := sz2_inj (S := S) hSb.1 (i := i') (k := i)
      rw [← q4, ← f4] at j1 j2
      have hkk : i = i' → k ≤ k' → f ≤ cb := fun e1 e2 => by
        subst e1
        have : (k : Int) * sz2 S i ≤ k' * sz2 S i := Int.mul_le_mul_of_nonneg_right (by omega) (by omega)
        omega
      have hef : rm = fs ∧ cb = f := by
        by_cases c : w = 0
        · rw [if_pos (by simp [c])] at g1
          rw [if_pos (by omega)] at g2
          rcases g2 with g2 | ⟨g2, g3⟩
          · omega
          · have := hkk g2 g3
            omega
        · rw [if_neg (by simp [c])] at g1
          rw [if_neg (by omega)] at g2
          rcases g2 with g2 | ⟨g2, g3⟩
          · omega
          · have := hkk g2 g3
            omega
      obtain ⟨rfl, rfl⟩ := hef
      obtain ⟨⟨s1, s2, s3, s4, s5⟩, -⟩ := hwb
      have hcp := h.cpart (a := x) (B := cb) (S := rm) (by omega)
      have hin : cb ≤ r ∧ r + S ≤ cb + rm ∧ r % S = 0 := by
        have hd := pw_dvd hS s1 c2
        have hm := emod_mul s2 hd
        by_cases q : w = 2 ∧ S < rm
        · rw [if_pos q] at hr1
          have hdb := pw_dbl hS s1 q.2
          have hm2 := emod_mul s2 hdb.2.2
          obtain ⟨t, ht⟩ := Int.dvd_of_emod_eq_zero hdb.2.2
          have e2 : rm / 2 = S * t := by rw [ht, Int.mul_assoc, Int.mul_ediv_cancel_left _ (by decide)]
          have e3 : (rm / 2) % S = 0 := by rw [e2]; exact Int.mul_emod_right _ _
          refine ⟨by omega, by omega, ?_⟩
          rw [hr1, Int.add_emod, hm, e3]
          simp
        · rw [if_neg q] at hr1
          rw [hr1]
          exact ⟨Int.le_refl _, by omega, hm⟩
      refine ⟨by omega, by omega, hr1, hin.2.2, by omega, by omega, fun j hj q5 q6 => ?_⟩
      have := hcp j hj q5 q6
      omega
theorem exMc_eq {np : Nat} {T : MT} (hI : Inv np T) (a S o w : Int) : (exMc T a S o w = (exCv T a S o w : Nat) ∧ exMc T a S o w ≠ 0 ∧ exCv T a S o w ≤ 3) ∨ (exMc T a S o w = 0 ∧ isS T a ∧ szp S ∧ (0 ≤ o ∧ o < 8) ∧ (0 ≤ w ∧ w ≤ 2) ∧ T 0 2 < 60 ∧ S < T 16 a.toNat ∧ ((chB T a S (decide (w = 0)) = -1 ∧ exCv T a S o w = 3) ∨ (chB T a S (decide (w = 0)) ≠ -1 ∧ exCv T a S o w = 0))) := by
  unfold exMc exCv
  by_cases h1 : isS T a
  · rw [if_neg (c := ¬ isM T a) (fun q => q ((hI.isM a).mpr h1)), if_neg (c := fsp T a < 0) (fun q => fsp_neg.mp q h1)]
    by_cases h2 : szp S ∧ (0 ≤ o ∧ o < 8) ∧ (0 ≤ w ∧ w ≤ 2)
    · have hcl := hI.clm h1 S
      have n2 : ¬ ¬ (szp S ∧ (0 ≤ o ∧ o < 8) ∧ (0 ≤ w ∧ w ≤ 2)) := fun q => q h2
      simp only [if_neg n2]
      by_cases h3 : clM T a S
      · have n4 : ¬ (T 0 2 < 60 ∧ S < T 16 a.toNat ∧ liiC T a ≤ 0 ∧ chB T a S (decide (w = 0)) ≠ -1) := fun q => hcl.mp h3 ⟨q.1, q.2.1, q.2.2.1⟩
        simp only [if_pos h3, if_neg n4]
        exact Or.inl ⟨rfl, by decide, by decide⟩
      · have q2 := Classical.byContradiction (fun q2 => h3 (hcl.mpr q2))
        simp only [if_neg h3]
        refine Or.inr ⟨trivial, h1, h2.1, h2.2.1, h2.2.2, q2.1, q2.2.1, ?_⟩
        by_cases h4 : chB T a S (decide (w = 0)) = -1
        · exact Or.inl ⟨h4, if_neg (fun q => q.2.2.2 h4)⟩
        · exact Or.inr ⟨h4, if_pos ⟨q2.1, q2.2.1, q2.2.2, h4⟩⟩
    · rw [if_pos h2, if_pos h2]
      exact Or.inl ⟨rfl, by decide, by decide⟩
  · rw [if_pos (c := ¬ isM T a) (fun q => h1 ((hI.isM a).mp q)), if_pos (c := fsp T a < 0) (fsp_neg.mpr h1)]
    exact Or.inl ⟨rfl, by decide, by decide⟩
theorem ag.fnd {T' T : MT} (hag : ag T' T) {x S w r : Int} (h : fndP T' x S w r) : fndP T x S w r := by
  unfold fndP at h ⊢
  simp only [vl2, wh2, whM, frM, liM, hag.cnt, hag 5 x.toNat (by decide) (by decide), hag 6 x.toNat (by decide) (by decide)] at h ⊢
  exact h
theorem ag.exc {T' T : MT} (hag : ag T' T) (a S o w : Int) : exMc T' a S o w = exMc T a S o w := by
  simp only [exMc, clM, hsM, hag.isM, hag.cnt, hag.ln, hag.f (r := 4) (by decide) (by decide), hag.f (r := 5) (by decide) (by decide), hag.f (r := 6) (by decide) (by decide)]