/-! the model: lend, takeBack, pass, and what is asked -/
noncomputable def lwM (T : MT) (x : Int) : Int := hid (lwf (T 10) (T 5 x.toNat).toNat (T 6 x.toNat).toNat)
theorem lwM_eq (T : MT) (x : Int) : lwM T x = lwf (T 10) (T 5 x.toNat).toNat (T 6 x.toNat).toNat := hid_eq _
theorem lwM_bd {T : MT} (hV : VM T) {x : Int} (hx : 0 ≤ x ∧ x < 64) : -1 ≤ lwM T x ∧ lwM T x < 4096 := by
  have hs := hV.s hx
  have := lwf_bd (T 10) (T 5 x.toNat).toNat (T 6 x.toNat).toNat
  rw [lwM_eq]
  omega
noncomputable def exMl (T : MT) (a d : Int) : Int := if ¬ isM T a then 1 else if ¬ (0 ≤ d ∧ d ≤ 100) then 2 else if hsM T a ∨ 200 ≤ T 4 8 ∨ lwM T a = -1 then 3 else 0
noncomputable def exMt (T : MT) (a : Int) : Int := if ¬ (0 ≤ a ∧ a < 4096) then 1 else if T 10 a.toNat = 0 then 2 else 0
def pasM (T : MT) (D : Int) (j : Nat) : MT := fun r i => if r = 10 ∧ i < j ∧ 0 < T 10 i ∧ T 10 i ≤ D then 0 else T r i
def psM (f : Nat → Int) (D : Int) : Nat → Int
  | 0 => 0
  | j + 1 => psM f D j + (if 0 < f j ∧ f j ≤ D then 1 else 0)
theorem psM_bd (f : Nat → Int) (D : Int) (j : Nat) : 0 ≤ psM f D j ∧ psM f D j ≤ j := by
  induction j with
  | zero => exact ⟨Int.le_refl 0, Int.le_refl 0⟩
  | succ j ih =>
    unfold psM
    split <;> omega
theorem pasM_r {T : MT} {D : Int} {j r i : Nat} (h : r ≠ 10 ∨ j ≤ i) : pasM T D j r i = T r i := by
  unfold pasM
  rw [if_neg (by omega)]
theorem pasM_0 (T : MT) (D : Int) : pasM T D 0 = T := by
  funext r i
  exact pasM_r (Or.inr (Nat.zero_le _))
theorem pasM_y (T : MT) (D : Int) (j : Nat) (h : 0 < T 10 j ∧ T 10 j ≤ D) : mst (pasM T D j) 10 j 0 = pasM T D (j + 1) := by
  funext r i
  unfold mst pasM
  by_cases h1 : r = 10 ∧ i = j
  · obtain ⟨rfl, rfl⟩ := h1
    rw [if_pos ⟨rfl, rfl⟩, if_pos ⟨rfl, by omega, h⟩]
  · rw [if_neg h1]
    by_cases h2 : r = 10 ∧ i < j ∧ 0 < T 10 i ∧ T 10 i ≤ D
    · rw [if_pos h2, if_pos ⟨h2.1, by omega, h2.2.2⟩]
    · rw [if_neg h2, if_neg (fun q => h2 ⟨q.1, by omega, q.2.2⟩)]
theorem pasM_n (T : MT) (D : Int) (j : Nat) (h : ¬ (0 < T 10 j ∧ T 10 j ≤ D)) : pasM T D j = pasM T D (j + 1) := by
  funext r i
  unfold pasM
  by_cases h2 : r = 10 ∧ i < j ∧ 0 < T 10 i ∧ T 10 i ≤ D
  · rw [if_pos h2, if_pos ⟨h2.1, by omega, h2.2.2⟩]
  · rw [if_neg h2, if_neg]
    rintro ⟨q1, q2, q3⟩
    by_cases e : i = j
    · rw [e] at q3; exact h q3
    · exact h2 ⟨q1, by omega, q3⟩
noncomputable def psC (f : Nat → Int) (D : Int) : Int := hid (psM f D 4096)
theorem psC_eq (f : Nat → Int) (D : Int) : psC f D = psM f D 4096 := hid_eq _
noncomputable def exMp (T : MT) (d : Int) : Int := if ¬ (1 ≤ d ∧ d ≤ 1000) then 1 else if 100000 < T 4 9 + d then 2 else 0
theorem spN_st {h : Nat → Int} {j k : Nat} (hk : j ≤ k) (hh : ∀ t, j ≤ t → t < k → h t = 0) : spN h k = spN h j := by
  induction k with
  | zero => rw [show j = 0 by omega]
  | succ k ih =>
    by_cases e : j = k + 1
    · rw [e]
    · have h1 := ih (by omega) (fun t h2 h3 => hh t h2 (by omega))
      show _ + ite _ _ _ = _
      rw [if_neg (fun q => q (hh k (by omega) (by omega))), h1, Int.add_zero]