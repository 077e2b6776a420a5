/-! the nearest span: the class goes down from child to child, the model asks all -/
abbrev hasA (T : MT) (a : Int) (j : Nat) : Prop := j < 60 ∧ T 1 j ≠ 0 ∧ T 15 j ≤ a ∧ a < T 15 j + T 16 j
theorem Inv.hasP {np : Nat} {T : MT} (h : Inv np T) {a : Int} {j : Nat} (hj : hasA T a j) (h0 : j ≠ 0) : 0 ≤ T 14 j ∧ T 14 j < j ∧ hasA T a (T 14 j).toNat ∧ T 16 j ≤ T 16 (T 14 j).toNat := by
  have h1 := h.inp hj.1 hj.2.1 h0
  have h2 := h1.2.2.1
  obtain ⟨-, q2, q3, q4⟩ := hj
  exact ⟨h1.1, h1.2.1, ⟨by have := h2.2.1; omega, h2.2.2, by omega, by omega⟩, h1.2.2.2.2.2⟩
theorem Inv.chain {np : Nat} {T : MT} (h : Inv np T) {a : Int} (i : Nat) : ∀ j : Nat, i < j → hasA T a i → hasA T a j → (i : Int) ≤ T 14 j := by
  induction i using Nat.strongRecOn with
  | _ i ih =>
    intro j hij hi hj
    have hpj := h.hasP hj (by omega)
    by_cases e0 : i = 0
    · omega
    · have hpi := h.hasP hi e0
      have h1 := ih (T 14 i).toNat (by omega) j (by omega) hpi.2.2.1 hj
      refine Classical.byContradiction fun q => ?_
      by_cases e1 : T 14 j = T 14 i
      · have h2 := h.geo.2.2 i j hi.1 hj.1 (by omega) hi.2.1 hj.2.1 e1.symm
        obtain ⟨-, -, a3, a4⟩ := hi
        obtain ⟨-, -, b3, b4⟩ := hj
        omega
      · have h2 := ih (T 14 j).toNat (by omega) i (by omega) hpj.2.2.1 hi
        omega
theorem Inv.chz {np : Nat} {T : MT} (h : Inv np T) {a : Int} {i : Nat} (hi : hasA T a i) (j : Nat) : i < j → hasA T a j → T 16 j ≤ T 16 i := by
  induction j using Nat.strongRecOn with
  | _ j ih =>
    intro hij hj
    have hpj := h.hasP hj (by omega)
    have h1 := h.chain i j hij hi hj
    by_cases e : T 14 j = i
    · have h2 := hpj.2.2.2
      rw [e] at h2
      exact h2
    · have h2 := ih (T 14 j).toNat (by omega) (by omega) hpj.2.2.1
      have h3 := hpj.2.2.2
      omega
theorem Inv.has0 {np : Nat} {T : MT} (h : Inv np T) {a : Int} (ha : 0 ≤ a ∧ a < 4096) : hasA T a 0 := by
  have h1 := h.geo.1
  have h2 := h.1.1
  exact ⟨by decide, by omega, by omega, by omega⟩
theorem Inv.nrm {np : Nat} {T : MT} (h : Inv np T) {a : Int} (ha : 0 ≤ a ∧ a < 4096) (n : Nat) (hn : n ≤ 60) : hasA T a (nrM (T 9) (T 5) (T 6) a n).toNat ∧ 0 ≤ nrM (T 9) (T 5) (T 6) a n ∧ ∀ i : Nat, i < n → hasA T a i → (i : Int) ≤ nrM (T 9) (T 5) (T 6) a n := by
  induction n with
  | zero => exact ⟨h.has0 ha, Int.le_refl 0, fun i hi => absurd hi (by omega)⟩
  | succ n ih =>
    have ih := ih (by omega)
    have e9 : nrM (T 9) (T 5) (T 6) a (n + 1) = if n ≠ 0 ∧ T 9 n ≠ 0 ∧ T 5 n ≤ a ∧ a < T 5 n + T 6 n ∧ T 6 n ≤ T 6 (nrM (T 9) (T 5) (T 6) a n).toNat then (n : Int) else nrM (T 9) (T 5) (T 6) a n := rfl
    have hb := nrM_bd (T 9) (T 5) (T 6) a n
    have he := h.eqs2 n (by omega)
    have her := h.eqs2 (nrM (T 9) (T 5) (T 6) a n).toNat ih.1.1
    have her2 := (her.2 ih.1.2.1).2.2
    by_cases q : n ≠ 0 ∧ T 9 n ≠ 0 ∧ T 5 n ≤ a ∧ a < T 5 n + T 6 n ∧ T 6 n ≤ T 6 (nrM (T 9) (T 5) (T 6) a n).toNat
    · rw [if_pos q] at e9
      rw [e9]
      have h1 : T 1 n ≠ 0 := by rw [← he.1]; exact q.2.1
      have h2 := he.2 h1
      refine ⟨⟨by omega, by rw [Int.toNat_natCast]; exact h1, by rw [Int.toNat_natCast]; omega, by rw [Int.toNat_natCast]; omega⟩, by omega, fun i hi hh => by omega⟩
    · rw [if_neg q] at e9
      rw [e9]
      refine ⟨ih.1, ih.2.1, fun i hi hh => ?_⟩
      by_cases e : i = n
      · subst e
        refine Classical.byContradiction fun q2 => q ?_
        have h2 := he.2 hh.2.1
        have h3 := h.chz ih.1 i (by omega) hh
        have h4 := hh.2.2
        exact ⟨by omega, by rw [he.1]; exact hh.2.1, by omega, by omega, by omega⟩
      · exact ih.2.2 i (by omega) hh
theorem chA_none {h q b z : Nat → Int} {x a : Int} {n : Nat} (hc : chA h q b z x a n < 0) : ∀ j, j < n → ¬ (h j ≠ 0 ∧ q j = x ∧ b j ≤ a ∧ a < b j + z j) := by
  induction n with
  | zero => exact fun j hj => absurd hj (by omega)
  | succ n ih =>
    have e : chA h q b z x a (n + 1) = if 0 ≤ chA h q b z x a n then chA h q b z x a n else if h n ≠ 0 ∧ q n = x ∧ b n ≤ a ∧ a < b n + z n then (n : Int) else -1 := rfl
    have h1 : ¬ 0 ≤ chA h q b z x a n := fun q1 => by rw [if_pos q1] at e; omega
    rw [if_neg h1] at e
    intro j hj hh
    by_cases e1 : j = n
    · subst e1
      rw [if_pos hh] at e
      omega
    · exact ih (by omega) j (by omega) hh
theorem Inv.nsi {np : Nat} {T : MT} (h : Inv np T) {a : Int} (ha : 0 ≤ a ∧ a < 4096) (n : Nat) : hasA T a (nsI T a n).toNat ∧ 0 ≤ nsI T a n ∧ (chC T (nsI T a n) a 60 < 0 ∨ (n : Int) ≤ nsI T a n) := by
  induction n with
  | zero => exact ⟨h.has0 ha, Int.le_refl 0, Or.inr (Int.le_refl 0)⟩
  | succ n ih =>
    have e9 : nsI T a (n + 1) = if 0 ≤ chC T (nsI T a n) a 60 then chC T (nsI T a n) a 60 else nsI T a n := rfl
    by_cases q : 0 ≤ chC T (nsI T a n) a 60
    · rw [if_pos q] at e9
      have hb := chC_bd T (nsI T a n) a 60
      have hb2 := hb.2.2 q
      rw [e9]
      have hh : hasA T a (chC T (nsI T a n) a 60).toNat := ⟨by omega, hb2.1, hb2.2.2.1, hb2.2.2.2⟩
      have h0 : (chC T (nsI T a n) a 60).toNat ≠ 0 := fun q0 => by
        have h1 := hb2.2.1
        rw [q0] at h1
        have := h.geo.1.2.2
        omega
      have hp := h.hasP hh h0
      rw [hb2.2.1] at hp
      refine ⟨hh, q, Or.inr ?_⟩
      rcases ih.2.2 with q2 | q2
      · omega
      · omega
    · rw [if_neg q] at e9
      rw [e9]
      exact ⟨ih.1, ih.2.1, Or.inl (by omega)⟩
theorem Inv.nsmax {np : Nat} {T : MT} (h : Inv np T) {a : Int} (ha : 0 ≤ a ∧ a < 4096) (i : Nat) : hasA T a i → (i : Int) ≤ nsI T a 60 := by
  have h1 := h.nsi ha 60
  have hlt := h1.1.1
  have h2 : chC T (nsI T a 60) a 60 < 0 := by
    rcases h1.2.2 with q | q
    · exact q
    · omega
  rw [chC_eq] at h2
  have h3 := chA_none h2
  induction i using Nat.strongRecOn with
  | _ i ih =>
    intro hi
    refine Classical.byContradiction fun q => ?_
    have h0 : i ≠ 0 := by omega
    have hp := h.hasP hi h0
    have hc := h.chain (nsI T a 60).toNat i (by omega) h1.1 hi
    by_cases e : T 14 i = nsI T a 60
    · exact h3 i hi.1 ⟨hi.2.1, e, hi.2.2⟩
    · have := ih (T 14 i).toNat (by omega) hp.2.2.1
      omega
theorem Inv.near {np : Nat} {T : MT} (h : Inv np T) {a : Int} (ha : 0 ≤ a ∧ a < 4096) : nsI T a 60 = nrC T a := by
  have h1 := h.nrm ha 60 (Nat.le_refl _)
  have h2 := h.nsi ha 60
  rw [nrC_eq]
  have h3 := h.nsmax ha _ h1.1
  have h4 := h1.2.2 (nsI T a 60).toNat h2.1.1 h2.1
  have h5 := h2.2.1
  have h6 := h1.2.1
  generalize nrM (T 9) (T 5) (T 6) a 60 = x at h3 h4 h6 ⊢
  generalize nsI T a 60 = y at h3 h4 h5 ⊢
  omega