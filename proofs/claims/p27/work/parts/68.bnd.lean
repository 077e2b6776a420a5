/-- an aligned free block of a span -/
def frB (T : MT) (x p s : Int) : Prop := pw13 s ∧ p % s = 0 ∧ T 15 x.toNat ≤ p ∧ p + s ≤ T 15 x.toNat + T 16 x.toNat ∧ cntC T x p s 60 = 0
/-- no aligned free block goes over p -/
def bnd (T : MT) (x at_ : Int) : Prop := ∀ p s, frB T x p s → p < at_ → p + s ≤ at_
theorem nest {s w p q : Int} (hs : pw13 s) (hw : pw13 w) (h : s ≤ w) (hp : p % s = 0) (hq : q % w = 0) (h1 : q ≤ p) (h2 : p < q + w) : p + s ≤ q + w := by
  have hsb := pw13_b hs
  have hd := pw_dvd hs hw h
  have hx := emod_mul hq hd
  have ha := al_in (S := s) (x := q) (y := q + w) (t := p) (by omega) hx (by rw [Int.add_emod, hx, hd]; simp) h1 h2
  omega
theorem bnd_room {np : Nat} {T : MT} (h : Inv np T) {x p : Int} (hx : isS T x) (hb : bnd T x p) (hp : T 15 x.toNat ≤ p ∧ p < T 15 x.toNat + T 16 x.toNat) (hn : ∀ j : Nat, j < 60 → T 1 j ≠ 0 → T 14 j = x → ¬ (T 15 j ≤ p ∧ p < T 15 j + T 16 j)) : bnd T x (p + roomC T x p) := by
  obtain ⟨r1, r2, r3, r4, r5⟩ := h.room hx hp hn
  have r1b := pw13_b r1
  generalize roomC T x p = w at r1 r2 r3 r4 r5 r1b ⊢
  rintro p2 s ⟨s1, s2, s3, s4, s5⟩ hlt
  have s1b := pw13_b s1
  by_cases c1 : p2 < p
  · have := hb p2 s ⟨s1, s2, s3, s4, s5⟩ c1
    omega
  · by_cases c2 : s ≤ w
    · exact nest s1 r1 c2 s2 r2 (by omega) hlt
    · have hd := pw_dvd r1 s1 (by omega)
      have h2 := emod_mul s2 hd
      have h3 := nest r1 r1 (Int.le_refl _) h2 r2 (by omega) hlt
      obtain rfl : p2 = p := by omega
      have := r5 s s1 s2 s4 (by omega)
      omega
theorem bnd_child {np : Nat} {T : MT} (h : Inv np T) {x p : Int} {c : Nat} (hb : bnd T x p) (hc : c < 60 ∧ T 1 c ≠ 0 ∧ T 14 c = x ∧ T 15 c ≤ p ∧ p < T 15 c + T 16 c) : bnd T x (T 15 c + T 16 c) := by
  rintro p2 s ⟨s1, s2, s3, s4, s5⟩ hlt
  have s1b := pw13_b s1
  by_cases c1 : p2 < p
  · have := hb p2 s ⟨s1, s2, s3, s4, s5⟩ c1
    omega
  · have := h.cpart (a := x) (B := p2) (S := s) (by omega) c hc.1 hc.2.1 hc.2.2.1
    omega
/-- the block at a boundary's free address is a whole one -/
theorem room_whole {np : Nat} {T : MT} (h : Inv np T) {x p : Int} (hx : isS T x) (hb : bnd T x p) (hp : T 15 x.toNat ≤ p ∧ p < T 15 x.toNat + T 16 x.toNat) (hn : ∀ j : Nat, j < 60 → T 1 j ≠ 0 → T 14 j = x → ¬ (T 15 j ≤ p ∧ p < T 15 j + T 16 j)) : frB T x p (roomC T x p) ∧ ¬ frB T x (p - p % (2 * roomC T x p)) (2 * roomC T x p) := by
  obtain ⟨r1, r2, r3, r4, r5⟩ := h.room hx hp hn
  have r1b := pw13_b r1
  generalize roomC T x p = w at r1 r2 r3 r4 r5 r1b ⊢
  refine ⟨⟨r1, r2, hp.1, r3, r4⟩, fun hd => ?_⟩
  have hm := Int.emod_nonneg p (b := 2 * w) (by omega)
  have hm2 := Int.emod_lt_of_pos p (b := 2 * w) (by omega)
  by_cases c : p % (2 * w) = 0
  · obtain ⟨d1, d2, d3, d4, d5⟩ := hd
    rw [c, Int.sub_zero] at d4 d5
    have := r5 (2 * w) d1 c d4 (by omega)
    omega
  · have := hb _ _ hd (by omega)
    omega
