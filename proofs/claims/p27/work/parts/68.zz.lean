/-! towards carve: what the model calls whole is whole -/
theorem Inv.wh {np : Nat} {T : MT} (h : Inv np T) {x s : Int} (hx : isS T x) (hs : pw13 s) (hle : s ≤ T 16 x.toNat) (k : Nat) : whM T x (T 5 x.toNat + k * s) s ↔ whB T x (T 15 x.toNat + k * s) s := by
  have he := h.eqs hx
  have hb := h.bd hx
  have hsb := pw13_b hs
  have h1 := h.fr hx hs hle k
  have hk0 : 0 ≤ (k : Int) * s := Int.mul_nonneg (by omega) (by omega)
  have hm := md_b (B := T 15 x.toNat + k * s) (t := 2 * s) (by omega) (by omega)
  have hal : (T 15 x.toNat + k * s - (T 15 x.toNat + k * s) % (2 * s)) % (2 * s) = 0 := by
    have e := Int.mul_ediv_add_emod (T 15 x.toNat + k * s) (2 * s)
    rw [show T 15 x.toNat + k * s - (T 15 x.toNat + k * s) % (2 * s) = 2 * s * ((T 15 x.toNat + k * s) / (2 * s)) by omega]
    exact Int.mul_emod_right _ _
  have h2 : frM T x (T 5 x.toNat + k * s - (T 5 x.toNat + k * s) % (2 * s)) (2 * s) ↔ frB T x (T 15 x.toNat + k * s - (T 15 x.toNat + k * s) % (2 * s)) (2 * s) := by
    unfold frM liM frB
    rw [h.cnt, he.2.1, he.2.2.1]
    constructor
    · rintro ⟨⟨q1, q2⟩, q3⟩
      refine ⟨?_, hal, q1, q2, q3⟩
      have q4 : 2 * s ≤ 4096 := by omega
      unfold pw13 at hs ⊢
      omega
    · rintro ⟨-, -, q1, q2, q3⟩; exact ⟨⟨q1, q2⟩, q3⟩
  unfold whM whB
  rw [h1, h2]
theorem sz2_sh (S : Int) (i : Nat) : sz2 (2 * S) i = sz2 S (i + 1) := by
  induction i with
  | zero => rfl
  | succ i ih =>
    show 2 * sz2 (2 * S) i = 2 * sz2 S (i + 1)
    rw [ih]
theorem sz2_ex (n : Nat) : ∀ S s : Int, 4096 < S + n → pw13 S → pw13 s → S ≤ s → ∃ i, s = sz2 S i := by
  induction n with
  | zero => exact fun S s h1 h2 => absurd (pw13_b h2).2 (by omega)
  | succ n ih =>
    intro S s h1 h2 h3 h4
    have hb := pw13_b h2
    by_cases e : s = S
    · exact ⟨0, e⟩
    · have hd := pw_dbl h2 h3 (by omega)
      obtain ⟨i, hi⟩ := ih (2 * S) s (by omega) hd.1 h3 hd.2.1
      exact ⟨i + 1, by rw [hi, sz2_sh]⟩
