/-! calls whose answer is known by a relation -/
theorem sz2_s (S : Int) (i : Nat) : sz2 S (i + 1) = 2 * sz2 S i := rfl
theorem sz2_pw {S : Int} (hS : szp S) {i : Nat} (h : sz2 S i ≤ 4096) : pw13 (sz2 S i) := by
  have h1 : ∀ i, 1 ≤ sz2 S i := by
    intro i
    induction i with
    | zero => show 1 ≤ S; unfold szp at hS; omega
    | succ i ih => rw [sz2_s]; omega
  induction i with
  | zero => show pw13 S; unfold szp at hS; unfold pw13; omega
  | succ i ih =>
    have h2 := h1 i
    rw [sz2_s] at h ⊢
    have := ih (by omega)
    unfold pw13 at this ⊢
    omega
theorem sz2_b {S : Int} (hS : 1 ≤ S) (i : Nat) : 1 ≤ sz2 S i ∧ (i : Int) < sz2 S i := by
  induction i with
  | zero => exact ⟨hS, hS⟩
  | succ i ih => rw [sz2_s]; omega
theorem sn2_i {i k i2 k2 : Nat} : sn2 i k i2 (k2 + 1) ↔ sn2 i k i2 k2 ∨ (i = i2 ∧ k = k2) := by unfold sn2; omega
theorem fnI_no {T : MT} {x S w : Int} {i k : Nat} {f fs : Int} (h : fnI T x S w i k f fs) (hw : wh2 T x S i k → vl2 T x S i k → f ≠ -1 ∧ (0 < w → sz2 S i ≤ fs)) (hS : 1 ≤ S) (h5 : 0 ≤ T 5 x.toNat) : fnI T x S w i (k + 1) f fs := by
  rcases h with ⟨h1, h2, h3⟩ | ⟨i0, k0, h1, h2, h3, h4, h5, h6⟩
  · refine Or.inl ⟨h1, h2, fun i' k' hs hv hh => ?_⟩
    rcases sn2_i.mp hs with hs | ⟨rfl, rfl⟩
    · exact h3 i' k' hs hv hh
    · exact (hw hh hv).1 h1
  · refine Or.inr ⟨i0, k0, sn2_i.mpr (Or.inl h1), h2, h3, h4, h5, fun i' k' hs hv hh => ?_⟩
    rcases sn2_i.mp hs with hs | ⟨rfl, rfl⟩
    · exact h6 i' k' hs hv hh
    · have h7 := (hw hh hv).2
      by_cases e : w ≤ 0
      · rw [if_pos e]
        unfold sn2 at h1
        omega
      · rw [if_neg e]
        have h8 := h7 (by omega)
        unfold sn2 at h1
        rcases h1 with h1 | ⟨rfl, h1⟩
        · have := sz2_lt hS h1
          omega
        · omega
theorem fnI_yes {T : MT} {x S w : Int} {i k : Nat} {f fs : Int} (h : fnI T x S w i k f fs) (hb : f = -1 ∨ (0 < w ∧ fs < sz2 S i)) (hv : vl2 T x S i k) (hh : wh2 T x S i k) (hS : 1 ≤ S) (h5 : 0 ≤ T 5 x.toNat) : fnI T x S w i (k + 1) (T 5 x.toNat + k * sz2 S i) (sz2 S i) := by
  refine Or.inr ⟨i, k, by unfold sn2; omega, hv, hh, rfl, rfl, fun i' k' hs hv' hh' => ?_⟩
  rcases sn2_i.mp hs with ht | ⟨rfl, rfl⟩
  · rcases h with ⟨h1, h2, h3⟩ | ⟨i0, k0, h1, h2, h3, h4, h7, h6⟩
    · exact absurd hh' (h3 i' k' ht hv')
    · have h8 := sz2_b hS i0
      have h9 : 0 ≤ (k0 : Int) * sz2 S i0 := Int.mul_nonneg (by omega) (by omega)
      rcases hb with hb | ⟨hb, hb2⟩
      · omega
      · rw [if_neg (by omega)]
        unfold sn2 at ht
        rcases ht with ht | ⟨rfl, ht⟩
        · exact Or.inl ht
        · have h10 := h6 i' k' (Or.inr ⟨rfl, ht⟩) hv' hh'
          rw [if_neg (by omega)] at h10
          rw [h7] at hb2
          unfold sn2 at h1
          rcases h1 with h1 | ⟨rfl, h1⟩
          · rcases h10 with h10 | ⟨rfl, h10⟩ <;> omega
          · omega
  · split <;> exact Or.inr ⟨rfl, Nat.le_refl _⟩
theorem fnI_nx {T : MT} {x S w : Int} {i k : Nat} {f fs : Int} (h : fnI T x S w i k f fs) (hk : T 6 x.toNat ≤ (k : Int) * sz2 S i) (hS : 1 ≤ S) : fnI T x S w (i + 1) 0 f fs := by
  have h8 := sz2_b hS i
  have hs2 : ∀ i' k', sn2 i' k' (i + 1) 0 → vl2 T x S i' k' → sn2 i' k' i k := by
    intro i' k' hs hv
    unfold sn2 at hs ⊢
    by_cases e : i' < i
    · exact Or.inl e
    · obtain rfl : i' = i := by omega
      refine Or.inr ⟨rfl, ?_⟩
      by_cases e2 : k' < k
      · exact e2
      · have h9 : (k : Int) * sz2 S i' ≤ (k' : Int) * sz2 S i' := Int.mul_le_mul_of_nonneg_right (by omega) (by omega)
        unfold vl2 at hv
        omega
  rcases h with ⟨h1, h2, h3⟩ | ⟨i0, k0, h1, h2, h3, h4, h7, h6⟩
  · exact Or.inl ⟨h1, h2, fun i' k' hs hv => h3 i' k' (hs2 i' k' hs hv) hv⟩
  · refine Or.inr ⟨i0, k0, by unfold sn2 at h1 ⊢; omega, h2, h3, h4, h7, fun i' k' hs hv => h6 i' k' (hs2 i' k' hs hv) hv⟩
theorem fnI_end {T : MT} {x S w : Int} {i : Nat} {f fs : Int} (h : fnI T x S w i 0 f fs) (hk : T 6 x.toNat < sz2 S i) (hS : 1 ≤ S) : ((f = -1 ∧ fs = 0 ∧ ∀ i k, vl2 T x S i k → ¬ wh2 T x S i k) ∨
  ∃ i k, vl2 T x S i k ∧ wh2 T x S i k ∧ f = T 5 x.toNat + k * sz2 S i ∧ fs = sz2 S i ∧ ∀ i' k', vl2 T x S i' k' → wh2 T x S i' k' → if w ≤ 0 then i < i' ∨ (i = i' ∧ k ≤ k') else i' < i ∨ (i = i' ∧ k ≤ k')) := by
  have hs2 : ∀ i' k', vl2 T x S i' k' → sn2 i' k' i 0 := by
    intro i' k' hv
    unfold sn2
    unfold vl2 at hv
    by_cases e : i' < i
    · exact Or.inl e
    · by_cases e2 : i = i'
      · subst e2; omega
      · have := sz2_lt hS (show i < i' by omega)
        omega
  rcases h with ⟨h1, h2, h3⟩ | ⟨i0, k0, h1, h2, h3, h4, h7, h6⟩
  · exact Or.inl ⟨h1, h2, fun i' k' hv => h3 i' k' (hs2 i' k' hv) hv⟩
  · exact Or.inr ⟨i0, k0, h2, h3, h4, h7, fun i' k' hv => h6 i' k' (hs2 i' k' hv) hv⟩
theorem fnI_bd {np : Nat} {T : MT} (hV : VM T) {x S w : Int} (hx : 0 ≤ x ∧ x < 64) (hS : 1 ≤ S) {i k : Nat} {f fs : Int} (h : fnI T x S w i k f fs) : -1 ≤ f ∧ f ≤ 4096 ∧ 0 ≤ fs ∧ fs ≤ 4096 := by
  have hs := hV.s hx
  rcases h with ⟨h1, h2, -⟩ | ⟨i0, k0, -, h2, h3, h4, h7, -⟩
  · omega
  · have h8 := sz2_b hS i0
    have h9 : 0 ≤ (k0 : Int) * sz2 S i0 := Int.mul_nonneg (by omega) (by omega)
    unfold vl2 at h2
    omega