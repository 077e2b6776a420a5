/-! the model: free, greatestFree, inTheWay, isLent, nearest, owned, blocks -/
theorem chS_st {h q z : Nat → Int} {x : Int} {j k : Nat} (hk : j ≤ k) (hh : ∀ t, j ≤ t → t < k → h t = 0) : chS h q z x k = chS h q z x j := by
  induction k with
  | zero => rw [show j = 0 by omega]
  | succ k ih =>
    by_cases e : j = k + 1
    · rw [e]
    · have h1 := ih (by omega) (fun t h2 h3 => hh t h2 (by omega))
      show _ + ite _ _ _ = _
      rw [if_neg (fun q => q.1 (hh k (by omega) (by omega))), h1, Int.add_zero]
noncomputable def osM (T : MT) (x : Int) : Int := hid (T 6 x.toNat - chS (T 9) (T 7) (T 6) x 60)
theorem osM_eq (T : MT) (x : Int) : osM T x = T 6 x.toNat - chS (T 9) (T 7) (T 6) x 60 := hid_eq _
theorem lnM_f {T T' : MT} (h : T' 10 = T 10) (B S : Int) : lnM T' B S = lnM T B S := by
  rw [lnM_eq, lnM_eq, h]
theorem nrC_th (T : MT) (z a : Int) : nrC (mst T 4 0 z) a = nrC T a := nrC_f (mst_f (by decide)) (mst_f (by decide)) (mst_f (by decide)) a
theorem nrC_ly (T : MT) (o : Int) (j : Nat) (a : Int) : nrC (lyO T o j) a = nrC T a := nrC_f (lyO_f (by decide)) (lyO_f (by decide)) (lyO_f (by decide)) a
theorem smC_th (T : MT) (z o : Int) (j : Nat) : smC (mst T 4 0 z) o j = smC T o j := smC_f (mst_f (by decide)) (mst_f (by decide)) (mst_f (by decide)) (mst_f (by decide)) o j
theorem hf2_b {z : Int} (hz : 0 ≤ z ∧ z ≤ 4096) (i : Nat) : 0 ≤ hf2 z i ∧ hf2 z i ≤ z ∧ (hf2 z i ≠ 0 → i ≤ 12) := by
  have h1 : ∀ i, 0 ≤ hf2 z i ∧ hf2 z i ≤ z ∧ hf2 z i * 2 ^ i ≤ z := by
    intro i
    induction i with
    | zero => exact ⟨hz.1, Int.le_refl _, by show z * 1 ≤ z; omega⟩
    | succ i ih =>
      have e1 : hf2 z (i + 1) = hf2 z i / 2 := rfl
      rw [e1]
      refine ⟨by omega, by omega, ?_⟩
      have h2 : (hf2 z i / 2 * 2) * 2 ^ i ≤ hf2 z i * 2 ^ i := Int.mul_le_mul_of_nonneg_right (by omega) (Int.le_of_lt (Int.pow_pos (by decide)))
      rw [Int.pow_succ, Int.mul_comm (2 ^ i) 2, ← Int.mul_assoc]
      omega
  have h2 := h1 i
  refine ⟨h2.1, h2.2.1, fun h3 => ?_⟩
  by_cases e : i ≤ 12
  · exact e
  · have h4 : (2 : Int) ^ 13 ≤ 2 ^ i := by
      obtain ⟨d, rfl⟩ : ∃ d, i = 13 + d := ⟨i - 13, by omega⟩
      rw [Int.pow_add]
      have h5 : (0 : Int) < 2 ^ d := Int.pow_pos (by decide)
      have h6 := Int.mul_le_mul_of_nonneg_left (a := 1) (b := 2 ^ d) (c := (2 : Int) ^ 13) (by omega) (by decide)
      omega
    have h5 : 1 * (2 : Int) ^ i ≤ hf2 z i * 2 ^ i := Int.mul_le_mul_of_nonneg_right (by omega) (Int.le_of_lt (Int.pow_pos (by decide)))
    have h6 : (2 : Int) ^ 13 = 8192 := by decide
    omega
theorem frM_th (T : MT) (z x B S : Int) : frM (mst T 4 0 z) x B S = frM T x B S := by
  unfold frM liM
  rw [cntM_th, mst_f (by decide), mst_f (by decide)]