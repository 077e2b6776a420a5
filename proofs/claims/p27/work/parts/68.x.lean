theorem hf2_sh (z : Int) (i : Nat) : hf2 z (i + 1) = hf2 (z / 2) i := by
  induction i with
  | zero => rfl
  | succ i ih =>
    show hf2 z (i + 1) / 2 = hf2 (z / 2) i / 2
    rw [ih]
theorem hf2_ex (n : Nat) : ∀ z w : Int, z ≤ n → pw13 z → pw13 w → w < z → ∃ i, w = hf2 z (i + 1) := by
  induction n with
  | zero => exact fun z w h1 h2 => absurd (pw13_b h2).1 (by omega)
  | succ n ih =>
    intro z w h1 h2 h3 h4
    have hz := pw13_b h2
    have hw := pw13_b h3
    have hh := pw_half h2 (by omega)
    have hd := pw_dbl h3 h2 h4
    by_cases e : w = z / 2
    · exact ⟨0, e⟩
    · obtain ⟨i, hi⟩ := ih (z / 2) w (by omega) hh.1 h3 (by omega)
      exact ⟨i + 1, by rw [hf2_sh]; exact hi⟩
theorem hf2_le (z : Int) (hz : 0 ≤ z) (i d : Nat) : 0 ≤ hf2 z (i + d) ∧ hf2 z (i + d) ≤ hf2 z i ∧ 0 ≤ hf2 z i := by
  have h0 : ∀ i, 0 ≤ hf2 z i := by
    intro i
    induction i with
    | zero => exact hz
    | succ i ih => show 0 ≤ hf2 z i / 2; omega
  induction d with
  | zero => exact ⟨h0 i, Int.le_refl _, h0 i⟩
  | succ d ih =>
    have e : hf2 z (i + (d + 1)) = hf2 z (i + d) / 2 := rfl
    rw [e]
    omega
theorem hf2_pw {z : Int} (hz : pw13 z) (i : Nat) (h : 0 < hf2 z i) : pw13 (hf2 z i) := by
  induction i with
  | zero => exact hz
  | succ i ih =>
    have e : hf2 z (i + 1) = hf2 z i / 2 := rfl
    rw [e] at h ⊢
    exact (pw_half (ih (by omega)) (by omega)).1
/-- a free block lies in a whole one -/
theorem fr_wh {T : MT} {x : Int} (n : Nat) : ∀ p s : Int, 4096 < s + n → frB T x p s → ∃ p2 s2, whB T x p2 s2 ∧ s ≤ s2 := by
  induction n with
  | zero => exact fun p s h1 h2 => absurd (pw13_b h2.1).2 (by omega)
  | succ n ih =>
    intro p s h1 h2
    have hs := pw13_b h2.1
    by_cases c : frB T x (p - p % (2 * s)) (2 * s)
    · obtain ⟨p2, s2, h3, h4⟩ := ih _ (2 * s) (by omega) c
      exact ⟨p2, s2, h3, by omega⟩
    · exact ⟨p, s, ⟨h2, c⟩, Int.le_refl _⟩
theorem Inv.fr {np : Nat} {T : MT} (h : Inv np T) {x s : Int} (hx : isS T x) (hs : pw13 s) (hle : s ≤ T 16 x.toNat) (k : Nat) : frM T x (T 5 x.toNat + k * s) s ↔ frB T x (T 15 x.toNat + k * s) s := by
  have he := h.eqs hx
  have hb := h.bd hx
  have hsb := pw13_b hs
  have hg := h.geo.2.1 x.toNat (by omega) hx.2.2
  have hd := pw_dvd hs hg.1 hle
  have hm := emod_mul hg.2.1 hd
  have hk0 : 0 ≤ (k : Int) * s := Int.mul_nonneg (by omega) (by omega)
  have hal : (T 15 x.toNat + k * s) % s = 0 := by rw [Int.add_mul_emod_self_right]; exact hm
  unfold frM liM frB
  rw [h.cnt, he.2.1, he.2.2.1]
  constructor
  · rintro ⟨⟨q1, q2⟩, q3⟩; exact ⟨hs, hal, q1, q2, q3⟩
  · rintro ⟨-, -, q1, q2, q3⟩; exact ⟨⟨q1, q2⟩, q3⟩
/-- an aligned place of a span is one of its grid -/
theorem Inv.grid {np : Nat} {T : MT} (h : Inv np T) {x p s : Int} (hx : isS T x) (hf : frB T x p s) : ∃ k : Nat, p = T 15 x.toNat + k * s ∧ (k : Int) * s < T 16 x.toNat ∧ s ≤ T 16 x.toNat := by
  obtain ⟨s1, s2, s3, s4, s5⟩ := hf
  have hb := h.bd hx
  have hsb := pw13_b s1
  have hg := h.geo.2.1 x.toNat (by omega) hx.2.2
  have hd := pw_dvd s1 hg.1 (by omega)
  have hm := emod_mul hg.2.1 hd
  obtain ⟨m, hm1⟩ := Int.dvd_of_emod_eq_zero hm
  obtain ⟨m2, hm2⟩ := Int.dvd_of_emod_eq_zero s2
  have e : p = T 15 x.toNat + (m2 - m) * s := by rw [hm2, hm1, Int.sub_mul, Int.mul_comm s m, Int.mul_comm s m2]; omega
  have h0 : 0 ≤ m2 - m := by
    refine Classical.byContradiction fun q => ?_
    have h1 : (m2 - m + 1) * s ≤ 0 * s := Int.mul_le_mul_of_nonneg_right (by omega) (by omega)
    rw [Int.add_mul, Int.one_mul, Int.zero_mul] at h1
    omega
  refine ⟨(m2 - m).toNat, ?_, ?_, by omega⟩
  · rw [Int.toNat_of_nonneg h0]; exact e
  · rw [Int.toNat_of_nonneg h0]; omega
