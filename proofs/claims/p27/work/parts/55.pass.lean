/-! the step: pass; the start -/
theorem pasM_10 (T : MT) (D : Int) (n i : Nat) : pasM T D n 10 i = if i < n ∧ 0 < T 10 i ∧ T 10 i ≤ D then 0 else T 10 i := by
  unfold pasM
  by_cases q : i < n ∧ 0 < T 10 i ∧ T 10 i ≤ D
  · rw [if_pos ⟨rfl, q⟩, if_pos q]
  · rw [if_neg (fun h => q h.2), if_neg q]
theorem pasT_2 (T : MT) (D : Int) (n i : Nat) : pasT T D n 2 i = if i < n ∧ T 2 i ≠ 0 ∧ T 2 i ≠ -1 ∧ T 2 i ≤ D then 0 else T 2 i := by
  unfold pasT
  by_cases q : i < n ∧ T 2 i ≠ 0 ∧ T 2 i ≠ -1 ∧ T 2 i ≤ D
  · rw [if_pos ⟨rfl, q⟩, if_pos q]
  · rw [if_neg (fun h => q h.2), if_neg q]
theorem inv_pass {np : Nat} {T U : MT} (h : Inv np T) {D P : Int} (hD : 0 ≤ D ∧ D ≤ 100000) (hP : psN T D 4096 = P) (g : ∀ r i, r ≠ 2 → r ≠ 10 → r ≠ 12 → r ≠ 0 → r ≠ 4 → U r i = T r i) (g0 : ∀ i, i ≠ 4 → i ≠ 5 → U 0 i = T 0 i) (g4 : ∀ i, i ≠ 0 → i ≠ 8 → i ≠ 9 → U 4 i = T 4 i) (h2 : ∀ i, U 2 i = if i < 4096 ∧ T 2 i ≠ 0 ∧ T 2 i ≠ -1 ∧ T 2 i ≤ D then 0 else T 2 i) (h10 : ∀ i, U 10 i = if i < 4096 ∧ 0 < T 10 i ∧ T 10 i ≤ D then 0 else T 10 i) (h05 : U 0 5 = D) (h49 : U 4 9 = D) (h04 : U 0 4 = T 0 4 - P) (h48 : U 4 8 = T 0 4 - P) : Inv np U := by
  have hA := h.2.1
  have hR := h.2.2.2.2.2.1
  have hL := h.2.2.2.2.2.2.2.1
  have hb : ∀ i, i < 4096 → -1 ≤ U 2 i ∧ U 2 i ≤ 200000 ∧ U 10 i = U 2 i := fun i hi => by
    have h3 := hA.2 i hi
    have h4 := hR.2.2.2 i hi
    rw [h2, h10, h4]
    by_cases q : i < 4096 ∧ T 2 i ≠ 0 ∧ T 2 i ≠ -1 ∧ T 2 i ≤ D
    · rw [if_pos q, if_pos (by omega)]; omega
    · rw [if_neg q, if_neg (by omega)]; omega
  have hl : T 0 4 - P = lnt (U 2) 0 4096 := by
    have e1 := lnt_pas T D 4096 4096 (Nat.le_refl _)
    rw [hP] at e1
    have e2 : lnt (U 2) 0 4096 = lnt (pasT T D 4096 2) 0 4096 := lnt_f (fun i _ _ => by rw [h2, pasT_2])
    rw [e2, e1]
    exact congrArg (fun z => z - P) hL
  have hW : Inv np (fun r i => if r = 4 ∧ i = 0 then T 4 0 else if r = 12 then T 12 i else U r i) := by
    refine inv_ends h (fun r i q1 q2 q3 q4 => ?_) (fun i hi => hb i hi) (h04.trans hl) (h48.trans h04.symm) (by show 0 ≤ U 0 5 ∧ U 0 5 ≤ 100000; omega) (h49.trans h05.symm)
    by_cases e1 : r = 4 ∧ i = 0
    · rw [if_pos e1, e1.1, e1.2]
    · by_cases e2 : r = 12
      · rw [if_neg e1, if_pos e2, e2]
      · rw [if_neg e1, if_neg e2]
        by_cases e3 : r = 0
        · subst e3; exact g0 i (by omega) (by omega)
        · by_cases e4 : r = 4
          · subst e4; exact g4 i (by omega) (by omega) (by omega)
          · exact g r i q1 q2 e2 e3 e4
  refine hW.same (fun r i q1 q2 q3 => ?_)
  rw [if_neg q1, if_neg q2]