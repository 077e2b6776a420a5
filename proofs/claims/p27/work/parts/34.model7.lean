noncomputable def blMC (T : MT) (o : Int) : Int := hid (blM T o 13)
theorem blMC_eq (T : MT) (o : Int) : blMC T o = blM T o 13 := hid_eq _
theorem sz2_12 {i : Nat} (h : sz2 1 i ≤ 4096) : i ≤ 12 ∧ pw13 (sz2 1 i) := by
  have hi : i ≤ 12 := by
    by_cases e : i ≤ 12
    · exact e
    · have := sz2_lt (S := 1) (by decide) (show 12 < i by omega)
      have e2 : sz2 1 12 = 4096 := by decide
      omega
  exact ⟨hi, sz2_pw (by unfold szp; omega) h⟩
theorem pw13_d {t : Int} (h : pw13 t) : 4096 / t * t = 4096 ∧ 1 ≤ 4096 / t ∧ 4096 / t ≤ 4096 := by
  unfold pw13 at h
  rcases h with rfl | rfl | rfl | rfl | rfl | rfl | rfl | rfl | rfl | rfl | rfl | rfl | rfl <;> decide