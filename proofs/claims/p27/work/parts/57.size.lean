/-! the steps: grow, halve -/
theorem pw_dvd {s t : Int} (hs : pw13 s) (ht : pw13 t) (h : s ≤ t) : t % s = 0 := by
  unfold pw13 at hs ht
  rcases hs with rfl | rfl | rfl | rfl | rfl | rfl | rfl | rfl | rfl | rfl | rfl | rfl | rfl <;> omega
theorem al_in {S x y t : Int} (hS : 0 < S) (hx : x % S = 0) (hy : y % S = 0) (h1 : x ≤ t) (h2 : t < y) : x ≤ t - t % S ∧ t - t % S + S ≤ y ∧ (t - t % S) % S = 0 := by
  obtain ⟨k, rfl⟩ := Int.dvd_of_emod_eq_zero hx
  obtain ⟨m, rfl⟩ := Int.dvd_of_emod_eq_zero hy
  have e1 : t - t % S = S * (t / S) := by have := Int.mul_ediv_add_emod t S; omega
  have h3 : k ≤ t / S := Int.le_ediv_of_mul_le hS (by rw [Int.mul_comm]; exact h1)
  have h4 : t / S < m := Int.ediv_lt_of_lt_mul hS (by rw [Int.mul_comm]; exact h2)
  rw [e1]
  refine ⟨Int.mul_le_mul_of_nonneg_left h3 (by omega), ?_, Int.mul_emod_right _ _⟩
  have h5 : S * (t / S + 1) ≤ S * m := Int.mul_le_mul_of_nonneg_left (by omega) (by omega)
  rw [Int.mul_add, Int.mul_one] at h5
  exact h5
theorem emod_mul {x S t : Int} (h : x % t = 0) (h2 : t % S = 0) : x % S = 0 := by
  obtain ⟨k, rfl⟩ := Int.dvd_of_emod_eq_zero h
  obtain ⟨m, rfl⟩ := Int.dvd_of_emod_eq_zero h2
  rw [Int.mul_assoc]
  exact Int.mul_emod_right _ _
theorem cnt_but {h q b z : Nat → Int} {x B S : Int} {i : Nat} {n : Nat} : cnt h q b z x B S n = cnb h q b z x B S i n + (if i < n ∧ h i ≠ 0 ∧ q i = x ∧ b i < B + S ∧ B < b i + z i then 1 else 0) := by
  induction n with
  | zero => show (0 : Int) = 0 + _; rw [if_neg (by omega)]; rfl
  | succ n ih =>
    show _ + ite _ _ _ = _ + ite _ _ _ + _
    rw [ih]
    by_cases e : n = i
    · subst e
      rw [if_neg (c := n < n ∧ _) (by omega)]
      by_cases q : h n ≠ 0 ∧ q n = x ∧ b n < B + S ∧ B < b n + z n
      · rw [if_pos q, if_neg (fun q2 => q2.2.2.1 rfl), if_pos ⟨by omega, q⟩]
      · rw [if_neg q, if_neg (fun q2 => q2.2.2.1 rfl), if_neg (fun q2 => q q2.2)]
    · have e3 : (i < n + 1 ∧ h i ≠ 0 ∧ q i = x ∧ b i < B + S ∧ B < b i + z i) ↔ (i < n ∧ h i ≠ 0 ∧ q i = x ∧ b i < B + S ∧ B < b i + z i) := by
        constructor
        · rintro ⟨q1, q2⟩; exact ⟨by omega, q2⟩
        · rintro ⟨q1, q2⟩; exact ⟨by omega, q2⟩
      have e4 : (h n ≠ 0 ∧ q n = x ∧ (n : Int) ≠ i ∧ b n < B + S ∧ B < b n + z n) ↔ (h n ≠ 0 ∧ q n = x ∧ b n < B + S ∧ B < b n + z n) := by
        constructor
        · rintro ⟨q1, q2, -, q3⟩; exact ⟨q1, q2, q3⟩
        · rintro ⟨q1, q2, q3⟩; exact ⟨q1, q2, by omega, q3⟩
      simp only [e3, e4]
      rw [Int.add_assoc, Int.add_assoc, Int.add_comm (ite _ _ _)]
theorem inv_size {np : Nat} {T U : MT} (h : Inv np T) {a B S : Int} (ha : isS T a) (h0 : a ≠ 0) (hS : pw13 S) (hB : B % S = 0) (hB0 : 0 ≤ B ∧ B + S ≤ 4096) (hp : T 15 (T 14 a.toNat).toNat ≤ B ∧ B + S ≤ T 15 (T 14 a.toNat).toNat + T 16 (T 14 a.toNat).toNat ∧ S ≤ T 16 (T 14 a.toNat).toNat) (hk : ∀ j : Nat, j < 60 → T 1 j ≠ 0 → T 14 j = a → B ≤ T 15 j ∧ T 15 j + T 16 j ≤ B + S) (hsb : ∀ j : Nat, j < 60 → j ≠ a.toNat → T 1 j ≠ 0 → T 14 j = T 14 a.toNat → B + S ≤ T 15 j ∨ T 15 j + T 16 j ≤ B)
    (g : ∀ r i, ¬ ((r = 5 ∨ r = 6 ∨ r = 15 ∨ r = 16) ∧ i = a.toNat) → ¬ (r = 0 ∧ i = 7) → ¬ (r = 4 ∧ i = 0) → r ≠ 12 → U r i = T r i) (g5 : U 5 a.toNat = B) (g6 : U 6 a.toNat = S) (g15 : U 15 a.toNat = B) (g16 : U 16 a.toNat = S) (g7 : U 0 7 = 0) : Inv np U := by
  have hSb := pw13_b hS
  have hab := h.bd ha
  obtain ⟨hC, hA, hP, hT, hM, hR, hG, hL, hW⟩ := h
  have gg : ∀ r i, r ≠ 5 → r ≠ 6 → r ≠ 15 → r ≠ 16 → r ≠ 0 → r ≠ 4 → r ≠ 12 → U r i = T r i := fun r i q1 q2 q3 q4 q5 q6 q7 => g r i (by omega) (by omega) (by omega) q7
  have g0 : ∀ i, i ≠ 7 → U 0 i = T 0 i := fun i q => g 0 i (by omega) (fun q1 => q q1.2) (by omega) (by omega)
  have g4 : ∀ i, i ≠ 0 → U 4 i = T 4 i := fun i q => g 4 i (by omega) (by omega) (fun q1 => q q1.2) (by omega)
  have gi : ∀ i, i ≠ a.toNat → U 5 i = T 5 i ∧ U 6 i = T 6 i ∧ U 15 i = T 15 i ∧ U 16 i = T 16 i := fun i q => ⟨g 5 i (by omega) (by omega) (by omega) (by omega), g 6 i (by omega) (by omega) (by omega) (by omega), g 15 i (by omega) (by omega) (by omega) (by omega), g 16 i (by omega) (by omega) (by omega) (by omega)⟩
  have e1 : ∀ i, U 1 i = T 1 i := fun i => gg 1 i (by decide) (by decide) (by decide) (by decide) (by decide) (by decide) (by decide)
  have e14 : ∀ i, U 14 i = T 14 i := fun i => gg 14 i (by decide) (by decide) (by decide) (by decide) (by decide) (by decide) (by decide)
  have ha0 : a.toNat ≠ 0 := by omega
  refine ⟨⟨by rw [g0 2 (by decide), e1]; exact hC.1, fun j hj => ?_⟩, ⟨by rw [g0 4 (by decide), g0 5 (by decide), g7]; have := hA.1; omega, fun i hi => by rw [gg 2 i (by decide) (by decide) (by decide) (by decide) (by decide) (by decide) (by decide), gg 3 i (by decide) (by decide) (by decide) (by decide) (by decide) (by decide) (by decide)]; exact hA.2 i hi⟩, fun j hj => ?_, fun j hj h1 h2 => ?_, ⟨?_, fun j hj => ?_, fun i hi => ?_⟩, ⟨?_, fun j hj => ?_, fun j hj => ?_, fun i hi => ?_⟩, ⟨?_, fun j hj h1 => ?_, fun i j hi hj hij h1 h2 h3 => ?_⟩, ?_, fun q => absurd g7 q⟩
  · have h1 := hC.2 j hj
    rw [e1, e14, g0 2 (by decide), gg 13 j (by decide) (by decide) (by decide) (by decide) (by decide) (by decide) (by decide), gg 17 j (by decide) (by decide) (by decide) (by decide) (by decide) (by decide) (by decide)]
    by_cases e : j = a.toNat
    · rw [e] at h1 ⊢
      rw [g15, g16]; omega
    · rw [(gi j e).2.2.1, (gi j e).2.2.2]; exact h1
  · rw [g0 2 (by decide)] at hj
    rw [e14]; exact hP j hj
  · rw [e1] at h1
    rw [e14] at h2 ⊢
    rw [e1]; exact hT j hj h1 h2
  · rw [g4 6 (by decide), g4 8 (by decide), g4 9 (by decide), gg 11 0 (by decide) (by decide) (by decide) (by decide) (by decide) (by decide) (by decide)]; exact hM.1
  · have h1 := hM.2.1 j hj
    rw [gg 9 j (by decide) (by decide) (by decide) (by decide) (by decide) (by decide) (by decide), gg 7 j (by decide) (by decide) (by decide) (by decide) (by decide) (by decide) (by decide), gg 8 j (by decide) (by decide) (by decide) (by decide) (by decide) (by decide) (by decide), g4 6 (by decide)]
    by_cases e : j = a.toNat
    · rw [e] at h1 ⊢
      rw [g5, g6]; omega
    · rw [(gi j e).1, (gi j e).2.1]; exact h1
  · rw [gg 10 i (by decide) (by decide) (by decide) (by decide) (by decide) (by decide) (by decide)]; exact hM.2.2 i hi
  · rw [g4 6 (by decide), g4 8 (by decide), g4 9 (by decide), g0 2 (by decide), g0 4 (by decide), g0 5 (by decide)]; exact hR.1
  · rw [e1, gg 9 j (by decide) (by decide) (by decide) (by decide) (by decide) (by decide) (by decide)]; exact hR.2.1 j hj
  · rw [g0 2 (by decide)] at hj
    have h1 := hR.2.2.1 j hj
    rw [gg 7 j (by decide) (by decide) (by decide) (by decide) (by decide) (by decide) (by decide), gg 8 j (by decide) (by decide) (by decide) (by decide) (by decide) (by decide) (by decide), gg 17 j (by decide) (by decide) (by decide) (by decide) (by decide) (by decide) (by decide), e14]
    by_cases e : j = a.toNat
    · rw [e] at h1 ⊢
      rw [g5, g6, g15, g16]; exact ⟨h1.1, rfl, rfl, h1.2.2.2⟩
    · rw [(gi j e).1, (gi j e).2.1, (gi j e).2.2.1, (gi j e).2.2.2]; exact h1
  · rw [gg 10 i (by decide) (by decide) (by decide) (by decide) (by decide) (by decide) (by decide), gg 2 i (by decide) (by decide) (by decide) (by decide) (by decide) (by decide) (by decide)]; exact hR.2.2.2 i hi
  · rw [(gi 0 (by omega)).2.2.1, (gi 0 (by omega)).2.2.2, e14]; exact hG.1
  · rw [e1] at h1
    have h2 := hG.2.1 j hj h1
    have h3 := hC.2 j hj
    rw [e14]
    by_cases e : j = a.toNat
    · subst e
      rw [g15, g16]
      refine ⟨hS, hB, fun q => ?_⟩
      have h5 := h2.2.2 ha0
      rw [(gi (T 14 a.toNat).toNat (by omega)).2.2.1, (gi (T 14 a.toNat).toNat (by omega)).2.2.2]
      exact ⟨h5.1, hp⟩
    · rw [(gi j e).2.2.1, (gi j e).2.2.2]
      refine ⟨h2.1, h2.2.1, fun q => ?_⟩
      have h5 := h2.2.2 q
      by_cases e2 : (T 14 j).toNat = a.toNat
      · have h6 := hk j hj h1 (by omega)
        rw [e2, g15, g16]
        have h7 := h3
        exact ⟨h5.1, h6.1, h6.2, by omega⟩
      · rw [(gi _ e2).2.2.1, (gi _ e2).2.2.2]; exact h5
  · rw [e1] at h1 h2
    rw [e14, e14] at h3
    by_cases ei : i = a.toNat
    · subst ei
      rw [g15, g16, (gi j (fun q => hij q.symm)).2.2.1, (gi j (fun q => hij q.symm)).2.2.2]
      exact hsb j hj (fun q => hij q.symm) h2 h3.symm
    · by_cases ej : j = a.toNat
      · subst ej
        rw [g15, g16, (gi i ei).2.2.1, (gi i ei).2.2.2]
        have := hsb i hi ei h1 h3
        omega
      · rw [(gi i ei).2.2.1, (gi i ei).2.2.2, (gi j ej).2.2.1, (gi j ej).2.2.2]
        exact hG.2.2 i j hi hj hij h1 h2 h3
  · show U 0 4 = lnt (U 2) 0 4096
    rw [g0 4 (by decide), lnt_f (fun i _ _ => gg 2 i (by decide) (by decide) (by decide) (by decide) (by decide) (by decide) (by decide))]
    exact hL
