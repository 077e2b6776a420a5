/-! the steps: remove, grow, halve -/
theorem cnt_0 {h q b z : Nat → Int} {x B S : Int} {n : Nat} (hc : cnt h q b z x B S n ≤ 0) : ∀ j, j < n → h j ≠ 0 → q j = x → ¬ (b j < B + S ∧ B < b j + z j) := by
  induction n with
  | zero => exact fun j hj => absurd hj (by omega)
  | succ n ih =>
    intro j hj h1 h2 h3
    have hb := cnt_bd h q b z x B S n
    have e : cnt h q b z x B S (n + 1) = cnt h q b z x B S n + (if h n ≠ 0 ∧ q n = x ∧ b n < B + S ∧ B < b n + z n then 1 else 0) := rfl
    by_cases q1 : j = n
    · subst q1
      rw [if_pos ⟨h1, h2, h3⟩] at e
      omega
    · refine ih ?_ j (by omega) h1 h2 h3
      split at e <;> omega
theorem cnt_z {h q b z : Nat → Int} {x B S : Int} {n : Nat} (hc : ∀ j, j < n → h j ≠ 0 → q j = x → ¬ (b j < B + S ∧ B < b j + z j)) : cnt h q b z x B S n = 0 := by
  induction n with
  | zero => rfl
  | succ n ih =>
    show _ + ite _ _ _ = _
    rw [ih (fun j hj => hc j (by omega)), if_neg (fun q => hc n (by omega) q.1 q.2.1 q.2.2)]; rfl
theorem Inv.geo {np : Nat} {T : MT} (h : Inv np T) : GEO T := h.2.2.2.2.2.2.1
/-- a span that is right in another lies in it -/
theorem Inv.inp {np : Nat} {T : MT} (h : Inv np T) {j : Nat} (hj : j < 60) (h1 : T 1 j ≠ 0) (h0 : j ≠ 0) : 0 ≤ T 14 j ∧ T 14 j < j ∧ isS T (T 14 j) ∧ T 15 (T 14 j).toNat ≤ T 15 j ∧ T 15 j + T 16 j ≤ T 15 (T 14 j).toNat + T 16 (T 14 j).toNat ∧ T 16 j ≤ T 16 (T 14 j).toNat := by
  have h2 := (h.geo.2.1 j hj h1).2.2 h0
  have h3 := h.1.2 j hj
  exact ⟨h2.1, by omega, ⟨h2.1, by omega, h.2.2.2.1 j hj h1 h2.1⟩, h2.2⟩
theorem Inv.nokids {np : Nat} {T : MT} (h : Inv np T) {a : Int} (ha : isS T a) (hc : cntC T a (T 15 a.toNat) (T 16 a.toNat) 60 ≤ 0) : ∀ j : Nat, j < 60 → T 1 j ≠ 0 → T 14 j ≠ a := by
  intro j hj h1 h2
  rw [cntC_eq] at hc
  have h3 := cnt_0 hc j hj h1 h2
  have h4 := h.1.2 j hj
  have h0 : j ≠ 0 := by
    rintro rfl
    have := h.geo.1.2.2
    have := ha.1
    omega
  have h5 := h.inp hj h1 h0
  rw [h2] at h5
  omega
theorem Inv.p0 {np : Nat} {T : MT} (h : Inv np T) {a : Int} (ha : isS T a) : 0 ≤ T 14 a.toNat ↔ a ≠ 0 := by
  constructor
  · rintro h1 rfl
    have h9 : T 14 (Int.toNat 0) = -1 := h.geo.1.2.2
    omega
  · intro h1
    exact (h.inp (j := a.toNat) (by have := ha.2.1; have := ha.1; omega) ha.2.2 (by have := ha.1; omega)).1
theorem inv_remove {np : Nat} {T U : MT} (h : Inv np T) {a : Int} (ha : isS T a) (h0 : a ≠ 0) (hk : ∀ j : Nat, j < 60 → T 1 j ≠ 0 → T 14 j ≠ a) (g : ∀ r i, ¬ (r = 1 ∧ i = a.toNat) → ¬ (r = 9 ∧ i = a.toNat) → ¬ (r = 0 ∧ i = 7) → ¬ (r = 4 ∧ i = 0) → r ≠ 12 → U r i = T r i) (g1 : U 1 a.toNat = 0) (g9 : U 9 a.toNat = 0) (g7 : U 0 7 = 0) : Inv np U := by
  obtain ⟨hC, hA, hP, hT, hM, hR, hG, hL, hW⟩ := h
  have gg : ∀ r i, r ≠ 1 → r ≠ 9 → r ≠ 0 → r ≠ 4 → r ≠ 12 → U r i = T r i := fun r i q1 q2 q3 q4 q5 => g r i (fun q => q1 q.1) (fun q => q2 q.1) (fun q => q3 q.1) (fun q => q4 q.1) q5
  have g0 : ∀ i, i ≠ 7 → U 0 i = T 0 i := fun i q => g 0 i (by omega) (by omega) (fun q1 => q q1.2) (by omega) (by omega)
  have g4 : ∀ i, i ≠ 0 → U 4 i = T 4 i := fun i q => g 4 i (by omega) (by omega) (by omega) (fun q1 => q q1.2) (by omega)
  have gi : ∀ i, i ≠ a.toNat → U 1 i = T 1 i ∧ U 9 i = T 9 i := fun i q => ⟨g 1 i (fun q1 => q q1.2) (by omega) (by omega) (by omega) (by omega), g 9 i (by omega) (fun q1 => q q1.2) (by omega) (by omega) (by omega)⟩
  have ha0 := ha.1
  have hne : ∀ j, U 1 j ≠ 0 → j ≠ a.toNat ∧ T 1 j ≠ 0 := fun j q => by
    have e : j ≠ a.toNat := fun e => q (by rw [e]; exact g1)
    exact ⟨e, by rw [← (gi j e).1]; exact q⟩
  refine ⟨⟨by rw [g0 2 (by decide), (gi 0 (by omega)).1]; exact hC.1, fun j hj => ?_⟩, ⟨by rw [g0 4 (by decide), g0 5 (by decide), g7]; have := hA.1; omega, fun i hi => by rw [gg 2 i (by decide) (by decide) (by decide) (by decide) (by decide), gg 3 i (by decide) (by decide) (by decide) (by decide) (by decide)]; exact hA.2 i hi⟩, fun j hj => ?_, fun j hj h1 h2 => ?_, ⟨?_, fun j hj => ?_, fun i hi => ?_⟩, ⟨?_, fun j hj => ?_, fun j hj => ?_, fun i hi => ?_⟩, ⟨?_, fun j hj h1 => ?_, fun i j hi hj hij h1 h2 h3 => ?_⟩, ?_, fun q => absurd g7 q⟩
  · by_cases e : j = a.toNat
    · exact Or.inl (by rw [e]; exact g1)
    · have h1 := hC.2 j hj
      rw [(gi j e).1, g0 2 (by decide), gg 13 j (by decide) (by decide) (by decide) (by decide) (by decide), gg 14 j (by decide) (by decide) (by decide) (by decide) (by decide), gg 15 j (by decide) (by decide) (by decide) (by decide) (by decide), gg 16 j (by decide) (by decide) (by decide) (by decide) (by decide), gg 17 j (by decide) (by decide) (by decide) (by decide) (by decide)]
      exact h1
  · rw [g0 2 (by decide)] at hj
    rw [gg 14 j (by decide) (by decide) (by decide) (by decide) (by decide)]
    exact hP j hj
  · obtain ⟨e, h3⟩ := hne j h1
    rw [gg 14 j (by decide) (by decide) (by decide) (by decide) (by decide)] at h2 ⊢
    rw [(gi _ (fun q => hk j hj h3 (by omega))).1]
    exact hT j hj h3 h2
  · rw [g4 6 (by decide), g4 8 (by decide), g4 9 (by decide), gg 11 0 (by decide) (by decide) (by decide) (by decide) (by decide)]; exact hM.1
  · have h1 := hM.2.1 j hj
    rw [gg 7 j (by decide) (by decide) (by decide) (by decide) (by decide), gg 5 j (by decide) (by decide) (by decide) (by decide) (by decide), gg 6 j (by decide) (by decide) (by decide) (by decide) (by decide), gg 8 j (by decide) (by decide) (by decide) (by decide) (by decide), g4 6 (by decide)]
    by_cases e : j = a.toNat
    · rw [e] at h1 ⊢
      rw [g9]; omega
    · rw [(gi j e).2]; exact h1
  · rw [gg 10 i (by decide) (by decide) (by decide) (by decide) (by decide)]; exact hM.2.2 i hi
  · rw [g4 6 (by decide), g4 8 (by decide), g4 9 (by decide), g0 2 (by decide), g0 4 (by decide), g0 5 (by decide)]; exact hR.1
  · by_cases e : j = a.toNat
    · rw [e, g1, g9]
    · rw [(gi j e).1, (gi j e).2]; exact hR.2.1 j hj
  · rw [g0 2 (by decide)] at hj
    rw [gg 7 j (by decide) (by decide) (by decide) (by decide) (by decide), gg 5 j (by decide) (by decide) (by decide) (by decide) (by decide), gg 6 j (by decide) (by decide) (by decide) (by decide) (by decide), gg 8 j (by decide) (by decide) (by decide) (by decide) (by decide), gg 14 j (by decide) (by decide) (by decide) (by decide) (by decide), gg 15 j (by decide) (by decide) (by decide) (by decide) (by decide), gg 16 j (by decide) (by decide) (by decide) (by decide) (by decide), gg 17 j (by decide) (by decide) (by decide) (by decide) (by decide)]
    exact hR.2.2.1 j hj
  · rw [gg 10 i (by decide) (by decide) (by decide) (by decide) (by decide), gg 2 i (by decide) (by decide) (by decide) (by decide) (by decide)]; exact hR.2.2.2 i hi
  · rw [gg 15 0 (by decide) (by decide) (by decide) (by decide) (by decide), gg 16 0 (by decide) (by decide) (by decide) (by decide) (by decide), gg 14 0 (by decide) (by decide) (by decide) (by decide) (by decide)]; exact hG.1
  · obtain ⟨e, h3⟩ := hne j h1
    rw [gg 14 j (by decide) (by decide) (by decide) (by decide) (by decide), gg 15 j (by decide) (by decide) (by decide) (by decide) (by decide), gg 16 j (by decide) (by decide) (by decide) (by decide) (by decide), gg 15 _ (by decide) (by decide) (by decide) (by decide) (by decide), gg 16 _ (by decide) (by decide) (by decide) (by decide) (by decide)]
    exact hG.2.1 j hj h3
  · rw [gg 14 i (by decide) (by decide) (by decide) (by decide) (by decide), gg 14 j (by decide) (by decide) (by decide) (by decide) (by decide)] at h3
    rw [gg 15 i (by decide) (by decide) (by decide) (by decide) (by decide), gg 16 i (by decide) (by decide) (by decide) (by decide) (by decide), gg 15 j (by decide) (by decide) (by decide) (by decide) (by decide), gg 16 j (by decide) (by decide) (by decide) (by decide) (by decide)]
    exact hG.2.2 i j hi hj hij (hne i h1).2 (hne j h2).2 h3
  · show U 0 4 = lnt (U 2) 0 4096
    rw [g0 4 (by decide), lnt_f (fun i _ _ => gg 2 i (by decide) (by decide) (by decide) (by decide) (by decide))]
    exact hL