/-! towards carve and greatestFree: the greatest block at an address -/
theorem pw_dbl {s t : Int} (hs : pw13 s) (ht : pw13 t) (h : s < t) : pw13 (2 * s) ∧ 2 * s ≤ t ∧ t % (2 * s) = 0 := by
  unfold pw13 at hs ht ⊢
  rcases hs with rfl | rfl | rfl | rfl | rfl | rfl | rfl | rfl | rfl | rfl | rfl | rfl | rfl <;> omega
theorem gbf_spec (a e : Int) (n : Nat) (w : Int) (hw : pw13 w) (ha : a % w = 0) (hf : w ≤ e - a) (hn : 4096 < w * 2 ^ n) : pw13 (gbf a e n w) ∧ a % gbf a e n w = 0 ∧ gbf a e n w ≤ e - a ∧ ¬ (2 * gbf a e n w ≤ e - a ∧ 2 * gbf a e n w ≤ 4096 ∧ a % (2 * gbf a e n w) = 0) := by
  induction n generalizing w with
  | zero =>
    have := pw13_b hw
    rw [Int.pow_zero, Int.mul_one] at hn
    omega
  | succ n ih =>
    have e9 : gbf a e (n + 1) w = if 2 * w ≤ e - a ∧ 2 * w ≤ 4096 ∧ a % (2 * w) = 0 then gbf a e n (2 * w) else w := rfl
    by_cases q : 2 * w ≤ e - a ∧ 2 * w ≤ 4096 ∧ a % (2 * w) = 0
    · rw [if_pos q] at e9
      rw [e9]
      refine ih (2 * w) ?_ q.2.2 q.1 ?_
      · unfold pw13 at hw ⊢; omega
      · rw [Int.pow_succ, Int.mul_comm (2 ^ n) 2, ← Int.mul_assoc, Int.mul_comm w 2] at hn
        exact hn
    · rw [if_neg q] at e9
      rw [e9]
      exact ⟨hw, ha, hf, q⟩
/-- the greatest aligned block at a below e -/
theorem gbk_spec {a e : Int} (h : a < e) : pw13 (gbk a e) ∧ a % gbk a e = 0 ∧ a + gbk a e ≤ e ∧ ∀ t, pw13 t → a % t = 0 → a + t ≤ e → t ≤ gbk a e := by
  have h1 := gbf_spec a e 13 1 (by unfold pw13; omega) (Int.emod_one a) (by omega) (by decide)
  show pw13 (gbf a e 13 1) ∧ a % gbf a e 13 1 = 0 ∧ a + gbf a e 13 1 ≤ e ∧ ∀ t, pw13 t → a % t = 0 → a + t ≤ e → t ≤ gbf a e 13 1
  generalize gbf a e 13 1 = w at h1 ⊢
  refine ⟨h1.1, h1.2.1, by omega, fun t ht hat hfit => Classical.byContradiction fun q => ?_⟩
  have h2 := pw_dbl h1.1 ht (by omega)
  have h3 := pw13_b ht
  exact h1.2.2.2 ⟨by omega, by omega, emod_mul hat h2.2.2⟩
