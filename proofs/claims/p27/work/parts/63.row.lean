/-! the row; the step: nearestByRow -/
/-- the row holds, of the spans laid, the last that has an address -/
def rowP (T V : MT) (w : Int) (j : Nat) : Prop := (∀ r i, r ≠ 3 → V r i = T r i) ∧ ∀ a : Nat, a < 4096 → ∀ i : Nat, hasA T a i → (w < T 16 i ∨ (T 16 i = w ∧ i < j)) → ∃ r : Nat, V 3 a = r ∧ hasA T a r ∧ (w < T 16 r ∨ (T 16 r = w ∧ r < j)) ∧ ∀ i : Nat, hasA T a i → (w < T 16 i ∨ (T 16 i = w ∧ i < j)) → i ≤ r
theorem rowJ {np : Nat} {T V : MT} (h : Inv np T) {w : Int} (hV : rowP T V w 0) (j : Nat) (hj : j ≤ 60) : rowP T (lyJ V w j) w j := by
  induction j with
  | zero => exact hV
  | succ j ih =>
    obtain ⟨i1, i2⟩ := ih (by omega)
    have hr : ∀ r i, r ≠ 3 → lyJ V w j r i = T r i := i1
    have e9 : lyJ V w (j + 1) = if V 1 j ≠ 0 ∧ V 16 j = w then lyS (lyJ V w j) j else lyJ V w j := rfl
    rw [hV.1 1 j (by decide), hV.1 16 j (by decide)] at e9
    by_cases q : T 1 j ≠ 0 ∧ T 16 j = w
    · rw [if_pos q] at e9
      rw [e9]
      refine ⟨fun r i h3 => by rw [lyS_r h3]; exact hr r i h3, fun a ha i hi hl => ?_⟩
      have es : lyS (lyJ V w j) j 3 a = if T 15 j ≤ (a : Int) ∧ (a : Int) < T 15 j + T 16 j then (j : Int) else lyJ V w j 3 a := by
        unfold lyS
        rw [hr 15 j (by decide), hr 16 j (by decide), hr 13 j (by decide)]
        have h13 : T 13 j = j := by
          rcases h.1.2 j (by omega) with q1 | q1
          · exact absurd q1 q.1
          · exact q1.2.2.1
        by_cases q2 : T 15 j ≤ (a : Int) ∧ (a : Int) < T 15 j + T 16 j
        · rw [if_pos ⟨rfl, q2⟩, if_pos q2, h13]
        · rw [if_neg (fun q3 => q2 q3.2), if_neg q2]
      by_cases q2 : T 15 j ≤ (a : Int) ∧ (a : Int) < T 15 j + T 16 j
      · rw [if_pos q2] at es
        have hj2 : hasA T a j := ⟨by omega, q.1, q2.1, q2.2⟩
        refine ⟨j, es, hj2, Or.inr ⟨q.2, by omega⟩, fun i hi hl => ?_⟩
        refine Classical.byContradiction fun q3 => ?_
        have := h.chz hj2 i (by omega) hi
        omega
      · rw [if_neg q2] at es
        have hne : ∀ i, hasA T a i → i ≠ j := fun i hi e => q2 (by rw [← e]; exact hi.2.2)
        obtain ⟨r, r1, r2, r3, r4⟩ := i2 a ha i hi (by have := hne i hi; omega)
        exact ⟨r, by rw [es]; exact r1, r2, by omega, fun i hi hl => r4 i hi (by have := hne i hi; omega)⟩
    · rw [if_neg q] at e9
      rw [e9]
      refine ⟨i1, fun a ha i hi hl => ?_⟩
      have hne : ∀ i, hasA T a i → T 16 i = w → i ≠ j := fun i hi e e2 => q (by rw [← e2]; exact ⟨hi.2.1, e⟩)
      obtain ⟨r, r1, r2, r3, r4⟩ := i2 a ha i hi (by
        rcases hl with hl | hl
        · exact Or.inl hl
        · have := hne i hi hl.1; exact Or.inr ⟨hl.1, by omega⟩)
      exact ⟨r, r1, r2, by omega, fun i hi hl => r4 i hi (by
        rcases hl with hl | hl
        · exact Or.inl hl
        · have := hne i hi hl.1; exact Or.inr ⟨hl.1, by omega⟩)⟩
theorem pw_next {z : Int} (hz : pw13 z) {k : Nat} (hk : k ≤ 12) : ((4096 : Int) / 2 ^ (k + 1) < z ↔ (4096 : Int) / 2 ^ k ≤ z) := by
  have h : k = 0 ∨ k = 1 ∨ k = 2 ∨ k = 3 ∨ k = 4 ∨ k = 5 ∨ k = 6 ∨ k = 7 ∨ k = 8 ∨ k = 9 ∨ k = 10 ∨ k = 11 ∨ k = 12 := by omega
  unfold pw13 at hz
  rcases h with rfl | rfl | rfl | rfl | rfl | rfl | rfl | rfl | rfl | rfl | rfl | rfl | rfl 
  · rw [show (4096 : Int) / 2 ^ (0 + 1) = 2048 by decide, show (4096 : Int) / 2 ^ 0 = 4096 by decide]; omega
  · rw [show (4096 : Int) / 2 ^ (1 + 1) = 1024 by decide, show (4096 : Int) / 2 ^ 1 = 2048 by decide]; omega
  · rw [show (4096 : Int) / 2 ^ (2 + 1) = 512 by decide, show (4096 : Int) / 2 ^ 2 = 1024 by decide]; omega
  · rw [show (4096 : Int) / 2 ^ (3 + 1) = 256 by decide, show (4096 : Int) / 2 ^ 3 = 512 by decide]; omega
  · rw [show (4096 : Int) / 2 ^ (4 + 1) = 128 by decide, show (4096 : Int) / 2 ^ 4 = 256 by decide]; omega
  · rw [show (4096 : Int) / 2 ^ (5 + 1) = 64 by decide, show (4096 : Int) / 2 ^ 5 = 128 by decide]; omega
  · rw [show (4096 : Int) / 2 ^ (6 + 1) = 32 by decide, show (4096 : Int) / 2 ^ 6 = 64 by decide]; omega
  · rw [show (4096 : Int) / 2 ^ (7 + 1) = 16 by decide, show (4096 : Int) / 2 ^ 7 = 32 by decide]; omega
  · rw [show (4096 : Int) / 2 ^ (8 + 1) = 8 by decide, show (4096 : Int) / 2 ^ 8 = 16 by decide]; omega
  · rw [show (4096 : Int) / 2 ^ (9 + 1) = 4 by decide, show (4096 : Int) / 2 ^ 9 = 8 by decide]; omega
  · rw [show (4096 : Int) / 2 ^ (10 + 1) = 2 by decide, show (4096 : Int) / 2 ^ 10 = 4 by decide]; omega
  · rw [show (4096 : Int) / 2 ^ (11 + 1) = 1 by decide, show (4096 : Int) / 2 ^ 11 = 2 by decide]; omega
  · rw [show (4096 : Int) / 2 ^ (12 + 1) = 0 by decide, show (4096 : Int) / 2 ^ 12 = 1 by decide]; omega
theorem rowK {np : Nat} {T : MT} (h : Inv np T) (k : Nat) (hk : k ≤ 13) : rowP T (lyK T k) (4096 / 2 ^ k) 0 := by
  induction k with
  | zero =>
    refine ⟨fun r i _ => rfl, fun a ha i hi hl => ?_⟩
    have h1 := (h.geo.2.1 i hi.1 hi.2.1).1
    have h2 := pw13_b h1
    have h3 : (4096 : Int) / 2 ^ 0 = 4096 := by decide
    rw [h3] at hl
    omega
  | succ k ih =>
    have h1 := rowJ h (ih (by omega)) 60 (Nat.le_refl _)
    have hc : ∀ a i, hasA T a i → (((4096 : Int) / 2 ^ (k + 1) < T 16 i ∨ (T 16 i = 4096 / 2 ^ (k + 1) ∧ i < 0)) ↔ ((4096 : Int) / 2 ^ k < T 16 i ∨ (T 16 i = 4096 / 2 ^ k ∧ i < 60))) := fun a i hi => by
      have h2 := pw_next (h.geo.2.1 i hi.1 hi.2.1).1 (k := k) (by omega)
      have h3 := hi.1
      generalize (4096 : Int) / 2 ^ (k + 1) = x at h2 ⊢
      generalize (4096 : Int) / 2 ^ k = y at h2 ⊢
      omega
    refine ⟨h1.1, fun a ha i hi hl => ?_⟩
    obtain ⟨r, r1, r2, r3, r4⟩ := h1.2 a ha i hi ((hc a i hi).mp hl)
    exact ⟨r, r1, r2, (hc a r r2).mpr r3, fun i hi hl => r4 i hi ((hc a i hi).mp hl)⟩
theorem Inv.row {np : Nat} {T : MT} (h : Inv np T) {a : Nat} (ha : a < 4096) : lyR T 3 a = nsI T a 60 := by
  by_cases q : T 0 7 = 0
  · have e1 : lyR T 3 a = lyK T 13 3 a := by
      unfold lyR
      rw [if_pos q, mst_r (by decide)]
    have h1 := rowK h 13 (Nat.le_refl _)
    have h0 := h.has0 (a := (a : Int)) (by omega)
    have hall : ∀ i, hasA T a i → ((4096 : Int) / 2 ^ 13 < T 16 i ∨ (T 16 i = 4096 / 2 ^ 13 ∧ i < 0)) := fun i hi => by
      have h2 := pw13_b (h.geo.2.1 i hi.1 hi.2.1).1
      have h3 : (4096 : Int) / 2 ^ 13 = 0 := by decide
      rw [h3]
      omega
    obtain ⟨r, r1, r2, r3, r4⟩ := h1.2 a ha 0 h0 (hall 0 h0)
    rw [e1, r1]
    have h2 := h.nsi (a := (a : Int)) (by omega) 60
    have h3 := h.nsmax (a := (a : Int)) (by omega) r r2
    have h4 := r4 _ h2.1 (hall _ h2.1)
    have h5 := h2.2.1
    generalize nsI T a 60 = y at h3 h4 h5 ⊢
    omega
  · have e1 : lyR T = T := by unfold lyR; rw [if_neg q]
    rw [e1]
    exact h.2.2.2.2.2.2.2.2 q a ha
theorem Inv.lyR {np : Nat} {T : MT} (h : Inv np T) : Inv np (lyR T) := by
  have hrow := fun (a : Nat) (ha : a < 4096) => h.row ha
  have hC := h.1.lyR
  have hA := h.2.1.lyR h.1
  obtain ⟨-, -, hP, hT, hM, hR, hG, hL, -⟩ := h
  have g : ∀ r i, r ≠ 3 → r ≠ 0 → _root_.Jvm.Pilot.@@N@@.lyR T r i = T r i := fun r i q1 q2 => lyR_r q1 (fun q => q2 q.1)
  have g0 : ∀ i, i ≠ 7 → _root_.Jvm.Pilot.@@N@@.lyR T 0 i = T 0 i := fun i q => lyR_r (by decide) (fun q2 => q q2.2)
  generalize _root_.Jvm.Pilot.@@N@@.lyR T = U at hrow hC hA g g0 ⊢
  refine ⟨hC, hA, fun j hj => ?_, fun j hj h1 h2 => ?_, hM.same (fun r i hr => g r i (by omega) (by omega)), ⟨by rw [g 4 6 (by decide) (by decide), g 4 8 (by decide) (by decide), g 4 9 (by decide) (by decide), g0 2 (by decide), g0 4 (by decide), g0 5 (by decide)]; exact hR.1, fun j hj => by rw [g 9 j (by decide) (by decide), g 1 j (by decide) (by decide)]; exact hR.2.1 j hj, fun j hj => ?_, fun a ha => by rw [g 10 a (by decide) (by decide), g 2 a (by decide) (by decide)]; exact hR.2.2.2 a ha⟩, hG.same (fun r i hr => g r i (by omega) (by omega)), ?_, fun _ a ha => ?_⟩
  · rw [g0 2 (by decide)] at hj
    rw [g 14 j (by decide) (by decide)]; exact hP j hj
  · rw [g 1 j (by decide) (by decide)] at h1
    rw [g 14 j (by decide) (by decide)] at h2 ⊢
    rw [g 1 _ (by decide) (by decide)]; exact hT j hj h1 h2
  · rw [g0 2 (by decide)] at hj
    rw [g 7 j (by decide) (by decide), g 5 j (by decide) (by decide), g 6 j (by decide) (by decide), g 8 j (by decide) (by decide), g 14 j (by decide) (by decide), g 15 j (by decide) (by decide), g 16 j (by decide) (by decide), g 17 j (by decide) (by decide)]
    exact hR.2.2.1 j hj
  · show U 0 4 = lnt (U 2) 0 4096
    rw [g0 4 (by decide), lnt_f (fun i _ _ => g 2 i (by decide) (by decide))]
    exact hL
  · rw [hrow a ha, nsI_f (T := T) (fun i _ => ⟨g 1 i (by decide) (by decide), fun _ => ⟨g 14 i (by decide) (by decide), g 15 i (by decide) (by decide), g 16 i (by decide) (by decide)⟩⟩)]