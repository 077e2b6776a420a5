/-! the steps: what is asked plainly -/
theorem spN_f {f g : Nat → Int} {n : Nat} (he : ∀ i, i < n → f i = g i) : spN f n = spN g n := by
  induction n with
  | zero => rfl
  | succ n ih =>
    show _ + _ = _ + _
    rw [ih (fun i h => he i (by omega)), he n (by omega)]
theorem spN_bd (f : Nat → Int) (n : Nat) : 0 ≤ spN f n ∧ spN f n ≤ n := by
  induction n with
  | zero => exact ⟨Int.le_refl 0, Int.le_refl 0⟩
  | succ n ih =>
    unfold spN
    split <;> omega
