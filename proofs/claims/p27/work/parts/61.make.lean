/-! a span made; the step: carveAt -/
theorem inv_make {np : Nat} {T U : MT} (h : Inv np T) {a B S o : Int} (ha : isS T a) (hm : T 0 2 < 60) (hS : pw13 S) (hB : B % S = 0) (ho : 0 ≤ o ∧ o < 8) (hp : T 15 a.toNat ≤ B ∧ B + S ≤ T 15 a.toNat + T 16 a.toNat ∧ S ≤ T 16 a.toNat) (hd : ∀ j : Nat, j < 60 → T 1 j ≠ 0 → T 14 j = a → B + S ≤ T 15 j ∨ T 15 j + T 16 j ≤ B)
    (g : ∀ r i, ¬ (i = (T 0 2).toNat ∧ (r = 1 ∨ (5 ≤ r ∧ r ≤ 9) ∨ (13 ≤ r ∧ r ≤ 17))) → ¬ (r = 0 ∧ (i = 2 ∨ i = 7)) → ¬ (r = 4 ∧ (i = 0 ∨ i = 6)) → r ≠ 12 → U r i = T r i)
    (g02 : U 0 2 = T 0 2 + 1) (g46 : U 4 6 = T 0 2 + 1) (g07 : U 0 7 = 0) (g1 : U 1 (T 0 2).toNat = 1) (g9 : U 9 (T 0 2).toNat = 1) (g13 : U 13 (T 0 2).toNat = T 0 2) (g14 : U 14 (T 0 2).toNat = a) (g7 : U 7 (T 0 2).toNat = a) (g15 : U 15 (T 0 2).toNat = B) (g5 : U 5 (T 0 2).toNat = B) (g16 : U 16 (T 0 2).toNat = S) (g6 : U 6 (T 0 2).toNat = S) (g17 : U 17 (T 0 2).toNat = o) (g8 : U 8 (T 0 2).toNat = o) : Inv (np + 1) U := by
  have hSb := pw13_b hS
  have hab := h.bd ha
  have han := h.1.2 a.toNat (by omega)
  have ha1 := ha.2.2
  have hin := fun (j : Nat) (hj : j < 60) (h1 : T 1 j ≠ 0) (h0 : j ≠ 0) => h.inp hj h1 h0
  obtain ⟨hC, hA, hP, hT, hM, hR, hG, hL, hW⟩ := h
  have hC1 := hC.1
  have hn1 : T 1 (T 0 2).toNat = 0 := by
    rcases hC.2 (T 0 2).toNat (by omega) with q | q
    · exact q
    · have := q.2.1; omega
  have hlt : ∀ j : Nat, j < 60 → T 1 j ≠ 0 → (j : Int) < T 0 2 := fun j hj h1 => by
    rcases hC.2 j hj with q | q
    · exact absurd q h1
    · exact q.2.1
  generalize hN : (T 0 2).toNat = N at g g1 g9 g13 g14 g7 g15 g5 g16 g6 g17 g8 hn1
  have hN2 : (N : Int) = T 0 2 := by omega
  have gg : ∀ r i, i ≠ N → r ≠ 0 → r ≠ 4 → r ≠ 12 → U r i = T r i := fun r i q1 q2 q3 q4 => g r i (fun q => q1 q.1) (fun q => q2 q.1) (fun q => q3 q.1) q4
  have gr : ∀ r i, (r = 2 ∨ r = 3 ∨ r = 10 ∨ r = 11) → U r i = T r i := fun r i q => g r i (by omega) (by omega) (by omega) (by omega)
  have g0 : ∀ i, i ≠ 2 → i ≠ 7 → U 0 i = T 0 i := fun i q q2 => g 0 i (by omega) (by omega) (by omega) (by omega)
  have g4 : ∀ i, i ≠ 0 → i ≠ 6 → U 4 i = T 4 i := fun i q q2 => g 4 i (by omega) (by omega) (by omega) (by omega)
  have haN : a.toNat ≠ N := by have := hlt a.toNat (by omega) ha1; omega
  have hpar : ∀ j : Nat, j < 60 → T 1 j ≠ 0 → j ≠ 0 → (T 14 j).toNat ≠ N := fun j hj h1 h0 => by
    have h2 := hin j hj h1 h0
    have := hlt j hj h1
    omega
  refine ⟨⟨⟨by omega, by omega, by rw [g02]; omega, by rw [gg 1 0 (by omega) (by decide) (by decide) (by decide)]; exact hC1.2.2.2⟩, fun j hj => ?_⟩, ⟨by rw [g0 4 (by decide) (by decide), g0 5 (by decide) (by decide), g07]; have := hA.1; omega, fun i hi => by rw [gr 2 i (by decide), gr 3 i (by decide)]; exact hA.2 i hi⟩, fun j hj => ?_, fun j hj h1 h2 => ?_, ⟨?_, fun j hj => ?_, fun i hi => ?_⟩, ⟨?_, fun j hj => ?_, fun j hj => ?_, fun i hi => ?_⟩, ⟨?_, fun j hj h1 => ?_, fun i j hi hj hij h1 h2 h3 => ?_⟩, ?_, fun q => absurd g07 q⟩
  · by_cases e : j = N
    · subst e
      rw [g1, g02, g13, g14, g15, g16, g17]
      right; omega
    · have h1 := hC.2 j hj
      rw [gg 1 j e (by decide) (by decide) (by decide), g02, gg 13 j e (by decide) (by decide) (by decide), gg 14 j e (by decide) (by decide) (by decide), gg 15 j e (by decide) (by decide) (by decide), gg 16 j e (by decide) (by decide) (by decide), gg 17 j e (by decide) (by decide) (by decide)]
      omega
  · by_cases e : j = N
    · subst e
      rw [g14]
      have := hlt a.toNat (by omega) ha1
      omega
    · rw [g02] at hj
      rw [gg 14 j e (by decide) (by decide) (by decide)]
      exact hP j (by omega)
  · by_cases e : j = N
    · subst e
      rw [g14, gg 1 _ haN (by decide) (by decide) (by decide)]
      exact ha1
    · rw [gg 1 j e (by decide) (by decide) (by decide)] at h1
      rw [gg 14 j e (by decide) (by decide) (by decide)] at h2 ⊢
      by_cases e0 : j = 0
      · subst e0
        have := hG.1.2.2
        omega
      · rw [gg 1 _ (hpar j hj h1 e0) (by decide) (by decide) (by decide)]
        exact hT j hj h1 h2
  · have h1 := hM.1
    rw [g46, g4 8 (by decide) (by decide), g4 9 (by decide) (by decide), gr 11 0 (by decide)]
    omega
  · have h1 := hM.2.1 j hj
    have h46 := hR.1.1
    by_cases e : j = N
    · subst e
      rw [g9, g7, g5, g6, g8, g46]
      omega
    · rw [gg 9 j e (by decide) (by decide) (by decide), gg 7 j e (by decide) (by decide) (by decide), gg 5 j e (by decide) (by decide) (by decide), gg 6 j e (by decide) (by decide) (by decide), gg 8 j e (by decide) (by decide) (by decide), g46]
      omega
  · rw [gr 10 i (by decide)]; exact hM.2.2 i hi
  · rw [g46, g02, g4 8 (by decide) (by decide), g4 9 (by decide) (by decide), g0 4 (by decide) (by decide), g0 5 (by decide) (by decide)]; exact ⟨rfl, hR.1.2⟩
  · by_cases e : j = N
    · subst e; rw [g9, g1]
    · rw [gg 9 j e (by decide) (by decide) (by decide), gg 1 j e (by decide) (by decide) (by decide)]; exact hR.2.1 j hj
  · by_cases e : j = N
    · subst e; rw [g7, g14, g5, g15, g6, g16, g8, g17]; exact ⟨rfl, rfl, rfl, rfl⟩
    · rw [g02] at hj
      rw [gg 7 j e (by decide) (by decide) (by decide), gg 5 j e (by decide) (by decide) (by decide), gg 6 j e (by decide) (by decide) (by decide), gg 8 j e (by decide) (by decide) (by decide), gg 14 j e (by decide) (by decide) (by decide), gg 15 j e (by decide) (by decide) (by decide), gg 16 j e (by decide) (by decide) (by decide), gg 17 j e (by decide) (by decide) (by decide)]
      exact hR.2.2.1 j (by omega)
  · rw [gr 10 i (by decide), gr 2 i (by decide)]; exact hR.2.2.2 i hi
  · rw [gg 15 0 (by omega) (by decide) (by decide) (by decide), gg 16 0 (by omega) (by decide) (by decide) (by decide), gg 14 0 (by omega) (by decide) (by decide) (by decide)]; exact hG.1
  · by_cases e : j = N
    · subst e
      rw [g16, g15, g14, gg 15 _ haN (by decide) (by decide) (by decide), gg 16 _ haN (by decide) (by decide) (by decide)]
      exact ⟨hS, hB, fun _ => ⟨by omega, hp⟩⟩
    · rw [gg 1 j e (by decide) (by decide) (by decide)] at h1
      have h2 := hG.2.1 j hj h1
      rw [gg 16 j e (by decide) (by decide) (by decide), gg 15 j e (by decide) (by decide) (by decide), gg 14 j e (by decide) (by decide) (by decide)]
      refine ⟨h2.1, h2.2.1, fun q => ?_⟩
      rw [gg 15 _ (hpar j hj h1 q) (by decide) (by decide) (by decide), gg 16 _ (hpar j hj h1 q) (by decide) (by decide) (by decide)]
      exact h2.2.2 q
  · by_cases ei : i = N
    · subst ei
      have ej : j ≠ i := fun q => hij q.symm
      rw [gg 1 j ej (by decide) (by decide) (by decide)] at h2
      rw [g14, gg 14 j ej (by decide) (by decide) (by decide)] at h3
      rw [g15, g16, gg 15 j ej (by decide) (by decide) (by decide), gg 16 j ej (by decide) (by decide) (by decide)]
      exact hd j hj h2 h3.symm
    · rw [gg 1 i ei (by decide) (by decide) (by decide)] at h1
      rw [gg 14 i ei (by decide) (by decide) (by decide)] at h3
      rw [gg 15 i ei (by decide) (by decide) (by decide), gg 16 i ei (by decide) (by decide) (by decide)]
      by_cases ej : j = N
      · subst ej
        rw [g14] at h3
        rw [g15, g16]
        have := hd i hi h1 h3
        omega
      · rw [gg 1 j ej (by decide) (by decide) (by decide)] at h2
        rw [gg 14 j ej (by decide) (by decide) (by decide)] at h3
        rw [gg 15 j ej (by decide) (by decide) (by decide), gg 16 j ej (by decide) (by decide) (by decide)]
        exact hG.2.2 i j hi hj hij h1 h2 h3
  · show U 0 4 = lnt (U 2) 0 4096
    rw [g0 4 (by decide) (by decide), lnt_f (fun i _ _ => gr 2 i (by decide))]
    exact hL
/-- the model's make, behind the class's: Inv holds of what comes out -/
theorem inv_make2 {np : Nat} {T : MT} (h : Inv np T) {a B S o w : Int} (ha : isS T a) (hm : T 0 2 < 60) (hS : pw13 S) (hB : B % S = 0) (ho : 0 ≤ o ∧ o < 8) (hp : T 15 a.toNat ≤ B ∧ B + S ≤ T 15 a.toNat + T 16 a.toNat ∧ S ≤ T 16 a.toNat) (hd : ∀ j : Nat, j < 60 → T 1 j ≠ 0 → T 14 j = a → B + S ≤ T 15 j ∨ T 15 j + T 16 j ≤ B) : Inv (np + 1) (mkM (mst (mst (mkT T (T 0 2).toNat a B S o) 12 0 w) 4 0 0) (T 0 2).toNat a B S o) := by
  have hC := h.1.1
  have hN : ((T 0 2).toNat : Int) = T 0 2 := by omega
  refine inv_make h ha hm hS hB ho hp hd (fun r i q1 q2 q3 q4 => ?_) ?_ ?_ ?_ ?_ ?_ ?_ ?_ ?_ ?_ ?_ ?_ ?_ ?_ ?_
  · generalize (T 0 2).toNat = N at q1 ⊢
    unfold mkM
    rw [mst_ne (by omega), mst_ne (by omega), mst_ne (by omega), mst_ne (by omega), mst_ne (by omega), mst_ne (by omega), mst_ne (by omega), mst_r q4]
    unfold mkT
    rw [if_neg (by omega), if_neg (by omega), if_neg (by omega), if_neg (by omega)]
  all_goals
    generalize (T 0 2).toNat = N at hN ⊢
    unfold mkM mst mkT
    simp <;> omega
