theorem inv_gf {np : Nat} {T : MT} (h : Inv np T) {x r : Int} (hx : isS T x) (hr : gfP T x r) : gfC T x = r := by
  have he := h.eqs hx
  have hb := h.bd hx
  have hz := (h.geo.2.1 x.toNat (by omega) hx.2.2).1
  have hzb := pw13_b hz
  have hcb := h.chB (S := 1) false hx
  unfold gfP at hr
  rw [he.2.2.1] at hr
  have hfree : ∀ i, 0 < hf2 (T 16 x.toNat) (i + 1) → ∀ k : Nat, frB T x (T 15 x.toNat + k * hf2 (T 16 x.toNat) (i + 1)) (hf2 (T 16 x.toNat) (i + 1)) → frM T x (T 5 x.toNat + k * hf2 (T 16 x.toNat) (i + 1)) (hf2 (T 16 x.toNat) (i + 1)) := fun i h1 k h2 => by
    have h3 := hf2_le (T 16 x.toNat) (by omega) 0 (i + 1)
    rw [Nat.zero_add] at h3
    have h4 : hf2 (T 16 x.toNat) 0 = T 16 x.toNat := rfl
    exact (h.fr hx (hf2_pw hz (i + 1) h1) (by omega) k).mpr h2
  have hwhole : frB T x (T 15 x.toNat) (T 16 x.toNat) → 0 < T 16 x.toNat / 2 → frB T x (T 15 x.toNat + (0 : Nat) * hf2 (T 16 x.toNat) (0 + 1)) (hf2 (T 16 x.toNat) (0 + 1)) := fun h1 h2 => by
    obtain ⟨s1, s2, s3, s4, s5⟩ := h1
    have h3 := pw_half hz (by omega)
    have e : hf2 (T 16 x.toNat) (0 + 1) = T 16 x.toNat / 2 := rfl
    rw [e]
    simp only [Int.natCast_zero, Int.zero_mul, Int.add_zero]
    refine ⟨h3.1, emod_mul s2 (Int.emod_eq_zero_of_dvd ⟨2, by omega⟩), Int.le_refl _, by omega, ?_⟩
    have h4 := h.cpart (a := x) (B := T 15 x.toNat) (S := T 16 x.toNat) (by omega)
    rw [cntC_eq]
    refine cnt_z (fun j hj q1 q2 q3 => ?_)
    have := h4 j hj q1 q2
    have := h.1.2 j hj
    omega
  unfold gfC
  rcases hr with ⟨r1, r2⟩ | ⟨i, k, r1, r2, r3, r4, r5⟩
  · rcases hcb with ⟨c1, -⟩ | ⟨c1, c2, -⟩
    · rw [if_pos c1]; exact r1.symm
    · have c3 := c1.1.2.2.1
      obtain ⟨k, k1, k2, k3⟩ := h.grid hx c1.1
      have c4 := c1.1
      rw [if_neg (by omega)]
      by_cases q : roomC T x (chB T x 1 false) < T 16 x.toNat
      · exfalso
        obtain ⟨i, hi⟩ := hf2_ex 4096 (T 16 x.toNat) (roomC T x (chB T x 1 false)) (by omega) hz c4.1 q
        generalize roomC T x (chB T x 1 false) = w at hi c4 k1 k2 c2
        rw [k1] at c4
        subst hi
        exact r2 i k (by omega) k2 (hfree i (by omega) k c4)
      · rw [if_neg q]
        by_cases q2 : 0 < T 16 x.toNat / 2
        · exfalso
          have e1 : roomC T x (chB T x 1 false) = T 16 x.toNat := by omega
          have e2 : chB T x 1 false = T 15 x.toNat := by have := c4.2.2.2.1; omega
          rw [e1, e2] at c4
          have h1 := hwhole c4 q2
          exact r2 0 0 q2 (by show ((0 : Nat) : Int) * _ < _; simp; omega) (hfree 0 q2 0 h1)
        · omega
  · have h3 := hf2_le (T 16 x.toNat) (by omega) 0 (i + 1)
    rw [Nat.zero_add] at h3
    have h4 : hf2 (T 16 x.toNat) 0 = T 16 x.toNat := rfl
    have hrp : pw13 r := by rw [r2]; exact hf2_pw hz (i + 1) (by omega)
    have hrf : frB T x (T 15 x.toNat + k * r) r := (h.fr hx hrp (by omega) k).mp r4
    obtain ⟨p2, s2, w1, w2⟩ := fr_wh 4096 _ r (by omega) hrf
    rcases hcb with ⟨c1, c2⟩ | ⟨c1, c2, c3⟩
    · exact absurd (show (1 : Int) ≤ s2 by omega) (c2 p2 s2 w1)
    · have c4 := c1.1
      have c5 := c4.2.2.1
      have c6 := c3 p2 s2 w1 (by omega)
      simp at c6
      have hge : r ≤ roomC T x (chB T x 1 false) := by omega
      obtain ⟨k2, k3, k4, k5⟩ := h.grid hx c4
      rw [if_neg (by omega)]
      by_cases q : roomC T x (chB T x 1 false) < T 16 x.toNat
      · rw [if_pos q]
        obtain ⟨i2, hi2⟩ := hf2_ex 4096 (T 16 x.toNat) (roomC T x (chB T x 1 false)) (by omega) hz c4.1 q
        by_cases q2 : i2 < i
        · exfalso
          generalize roomC T x (chB T x 1 false) = w at hi2 c4 k3 k4 c2
          rw [k3] at c4
          subst hi2
          exact r5 i2 k2 q2 (by omega) k4 (hfree i2 (by omega) k2 c4)
        · have h5 := hf2_le (T 16 x.toNat) (by omega) (i + 1) (i2 - i)
          rw [show i + 1 + (i2 - i) = i2 + 1 by omega, ← hi2, ← r2] at h5
          omega
      · rw [if_neg q]
        have e1 : roomC T x (chB T x 1 false) = T 16 x.toNat := by omega
        have e2 : chB T x 1 false = T 15 x.toNat := by have := c4.2.2.2.1; omega
        rw [e1, e2] at c4
        have q2 : 0 < T 16 x.toNat / 2 := by
          have h6 := hf2_le (T 16 x.toNat) (by omega) 1 i
          have e3 : hf2 (T 16 x.toNat) 1 = T 16 x.toNat / 2 := rfl
          rw [show 1 + i = i + 1 by omega] at h6
          omega
        by_cases q3 : i = 0
        · subst q3; rw [r2]; rfl
        · exact absurd (hfree 0 q2 0 (hwhole c4 q2)) (r5 0 0 (by omega) q2 (by show ((0 : Nat) : Int) * _ < _; simp; omega))
