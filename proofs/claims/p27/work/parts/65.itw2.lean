theorem itI_bd (T : MT) (x S : Int) (n : Nat) : 0 ≤ (itI T x S n).1 ∧ (itI T x S n).1 ≤ 60 := by
  induction n with
  | zero => exact ⟨(by decide : (0 : Int) ≤ 60), (by decide : (60 : Int) ≤ 60)⟩
  | succ n ih =>
    show 0 ≤ (itS T x S (itI T x S n)).1 ∧ (itS T x S (itI T x S n)).1 ≤ 60
    generalize itI T x S n = u at ih ⊢
    unfold itS
    split
    · exact ih
    · have := cntC_bd T x u.2 S 60
      show 0 ≤ min u.1 (cntC T x u.2 S 60) ∧ min u.1 (cntC T x u.2 S 60) ≤ 60
      omega
theorem itw_bd (T : MT) (x S : Int) : 0 ≤ itwC T x S ∧ itwC T x S ≤ 60 := by
  have h := itI_bd T x S 4096
  rw [itwC_eq]
  exact h