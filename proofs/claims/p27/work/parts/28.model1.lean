/-! the model: its small methods -/
theorem md_b {B t : Int} (hB : 0 ≤ B) (ht : 0 < t) : 0 ≤ B - B % t ∧ B - B % t ≤ B := by
  have h1 := Int.emod_nonneg B (b := t) (by omega)
  have h8 := Int.ediv_nonneg (a := B) (b := t) hB (by omega)
  have h9 := Int.mul_ediv_add_emod B t
  have h10 : 0 ≤ t * (B / t) := Int.mul_nonneg (by omega) h8
  omega
theorem and_ng2 {B S : Int} (hB : 0 ≤ B ∧ B ≤ 8192) (hS : pw13 S) : zI B &&& zI (-2 * S) = zI (B - B % (2 * S)) := by
  rw [show -2 * S = -(2 * S) by omega]
  exact and_neg (by omega) (by unfold pw13 at hS; omega)