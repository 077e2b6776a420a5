/-! the step: inTheWay -/
theorem cnb_z {h q b z : Nat → Int} {x B S i : Int} {n : Nat} (hc : ∀ j : Nat, j < n → (j : Int) ≠ i → h j ≠ 0 → q j = x → ¬ (b j < B + S ∧ B < b j + z j)) : cnb h q b z x B S i n = 0 := by
  induction n with
  | zero => rfl
  | succ n ih =>
    show _ + ite _ _ _ = _
    rw [ih (fun j hj => hc j (by omega)), if_neg (fun q => hc n (by omega) q.2.2.1 q.1 q.2.1 q.2.2.2)]; rfl
theorem kS {k k2 : Nat} {S : Int} (hS : 1 ≤ S) : (k < k2 → (k : Int) * S + S ≤ (k2 : Int) * S) ∧ (k ≤ k2 → (k : Int) * S ≤ (k2 : Int) * S) := by
  constructor
  · intro h
    have h1 : ((k : Int) + 1) * S ≤ (k2 : Int) * S := Int.mul_le_mul_of_nonneg_right (by omega) (by omega)
    rw [Int.add_mul, Int.one_mul] at h1
    exact h1
  · exact fun h => Int.mul_le_mul_of_nonneg_right (by omega) (by omega)
/-- a block of a size below a child's, right in the child: the child alone has addresses of it -/
theorem Inv.cin {np : Nat} {T : MT} (h : Inv np T) {x p S c : Int} (hc : isS T c) (hcx : T 14 c.toNat = x) (hS : 1 ≤ S) (h1 : T 15 c.toNat ≤ p) (h2 : p + S ≤ T 15 c.toNat + T 16 c.toNat) : cntC T x p S 60 = 1 := by
  have hb := h.bd hc
  have e1 := cnt_but (h := T 1) (q := T 14) (b := T 15) (z := T 16) (x := x) (B := p) (S := S) (i := c.toNat) (n := 60)
  rw [if_pos ⟨by omega, hc.2.2, hcx, by omega, by omega⟩, cnb_z (fun j hj hne q1 q2 q3 => ?_)] at e1
  · rw [cntC_eq, e1]; rfl
  · have := h.geo.2.2 c.toNat j (by omega) hj (by omega) hc.2.2 q1 (by rw [hcx, q2])
    omega
theorem Inv.itw {np : Nat} {T : MT} (h : Inv np T) {x S r : Int} (hs : isS T x) (hS : szp S) (hlt : S < T 16 x.toNat) (hr1 : ∀ k : Nat, (k : Int) * S < T 16 x.toNat → r ≤ cntC T x (T 15 x.toNat + k * S) S 60) (hr2 : ∃ k : Nat, (k : Int) * S < T 16 x.toNat ∧ r = cntC T x (T 15 x.toNat + k * S) S 60) : itwC T x S = r := by
  have hb := h.bd hs
  have hSp := szp_pw hS
  have hS1 := pw13_b hSp
  have hg := h.geo.2.1 x.toNat (by omega) hs.2.2
  have hd := pw_dvd hSp hg.1 (by omega)
  have hx := emod_mul hg.2.1 hd
  have key : ∀ n : Nat, ∃ k : Nat, (itI T x S n).2 = T 15 x.toNat + k * S ∧ (∀ k' : Nat, k' < k → (k' : Int) * S < T 16 x.toNat → (itI T x S n).1 ≤ cntC T x (T 15 x.toNat + k' * S) S 60) ∧ (((itI T x S n).1 = 60 ∧ k = 0) ∨ ∃ k' : Nat, (k' : Int) * S < T 16 x.toNat ∧ (itI T x S n).1 = cntC T x (T 15 x.toNat + k' * S) S 60) ∧ (n ≤ k ∨ T 16 x.toNat ≤ (k : Int) * S ∨ (itI T x S n).1 ≤ 0) := by
    intro n
    induction n with
    | zero => exact ⟨0, by show T 15 x.toNat = _; simp, fun k' hk => absurd hk (by omega), Or.inl ⟨rfl, rfl⟩, Or.inl (Nat.le_refl _)⟩
    | succ n ih =>
      obtain ⟨k, i1, i2, i3, i4⟩ := ih
      have e9 : itI T x S (n + 1) = itS T x S (itI T x S n) := rfl
      generalize itI T x S n = u at i1 i2 i3 i4 e9
      rw [e9]
      unfold itS
      by_cases q : T 15 x.toNat + T 16 x.toNat ≤ u.2 ∨ u.1 ≤ 0
      · rw [if_pos q]
        exact ⟨k, i1, i2, i3, by omega⟩
      · rw [if_neg q]
        have hku : (k : Int) * S < T 16 x.toNat := by omega
        have hk0 : 0 ≤ (k : Int) * S := Int.mul_nonneg (by omega) (by omega)
        have hcb := cntC_bd T x u.2 S 60
        have hmin : ∃ k' : Nat, (k' : Int) * S < T 16 x.toNat ∧ min u.1 (cntC T x u.2 S 60) = cntC T x (T 15 x.toNat + k' * S) S 60 := by
          by_cases q2 : u.1 < cntC T x u.2 S 60
          · rcases i3 with ⟨q3, q4⟩ | ⟨k', q3, q4⟩
            · omega
            · exact ⟨k', q3, by rw [← q4]; omega⟩
          · exact ⟨k, hku, by rw [← i1]; omega⟩
        have hch := chC_bd T x u.2 60
        by_cases q2 : 0 ≤ chC T x u.2 60 ∧ S < T 16 (chC T x u.2 60).toNat
        · rw [if_pos q2]
          have hc2 := hch.2.2 q2.1
          generalize hcc : chC T x u.2 60 = c at q2 hc2 hch ⊢
          have hcs : isS T c := ⟨q2.1, by omega, hc2.1⟩
          have hbc := h.bd hcs
          have hgc := h.geo.2.1 c.toNat (by omega) hcs.2.2
          have hdc := pw_dvd hSp hgc.1 (by omega)
          have hxc := emod_mul hgc.2.1 hdc
          have hye : (T 15 c.toNat + T 16 c.toNat) % S = 0 := by rw [Int.add_emod, hxc, hdc]; simp
          obtain ⟨m, hm⟩ := Int.dvd_of_emod_eq_zero hx
          obtain ⟨m2, hm2⟩ := Int.dvd_of_emod_eq_zero hye
          have hd0 : T 15 c.toNat + T 16 c.toNat = T 15 x.toNat + (m2 - m) * S := by rw [hm2, hm, Int.sub_mul, Int.mul_comm S m, Int.mul_comm S m2]; omega
          have hkm : (k : Int) < m2 - m := by
            have : (k : Int) * S < (m2 - m) * S := by omega
            exact Int.lt_of_mul_lt_mul_right this (by omega)
          refine ⟨(m2 - m).toNat, ?_, fun k' hk hk2 => ?_, Or.inr hmin, by omega⟩
          · show T 15 c.toNat + T 16 c.toNat = _
            rw [hd0, Int.toNat_of_nonneg (by omega)]
          · show min u.1 (cntC T x u.2 S 60) ≤ _
            by_cases q3 : k' < k
            · have := i2 k' q3 hk2; omega
            · have h5 := (kS (k := k) (k2 := k') (by omega : 1 ≤ S)).2 (by omega)
              have h6 := (kS (k := k') (k2 := (m2 - m).toNat) (by omega : 1 ≤ S)).1 hk
              rw [Int.toNat_of_nonneg (by omega)] at h6
              have h7 := (kS (k := k) (k2 := (m2 - m).toNat) (by omega : 1 ≤ S)).1 (by omega)
              rw [Int.toNat_of_nonneg (by omega)] at h7
              have e1 := h.cin (p := u.2) (S := S) hcs hc2.2.1 (by omega) hc2.2.2.1 (by omega)
              have e2 := h.cin (p := T 15 x.toNat + k' * S) (S := S) hcs hc2.2.1 (by omega) (by omega) (by omega)
              omega
        · rw [if_neg q2]
          refine ⟨k + 1, ?_, fun k' hk hk2 => ?_, Or.inr hmin, by omega⟩
          · show u.2 + S = _
            rw [i1, Int.natCast_add, Int.add_mul, Int.natCast_one, Int.one_mul, Int.add_assoc]
          · show min u.1 (cntC T x u.2 S 60) ≤ _
            by_cases q3 : k' < k
            · have := i2 k' q3 hk2; omega
            · obtain rfl : k' = k := by omega
              rw [← i1]; omega
  obtain ⟨k, i1, i2, i3, i4⟩ := key 4096
  rw [itwC_eq]
  generalize itI T x S 4096 = u at i1 i2 i3 i4 ⊢
  have hend : T 16 x.toNat ≤ (k : Int) * S ∨ u.1 ≤ 0 := by
    rcases i4 with q | q
    · have := (kS (k := 4096) (k2 := k) (by omega : 1 ≤ S)).2 q
      left; omega
    · exact q
  obtain ⟨k2, q1, q2⟩ := hr2
  have hge : r ≤ u.1 := by
    rcases i3 with ⟨q3, q4⟩ | ⟨k', q3, q4⟩
    · subst q4; omega
    · rw [q4]; exact hr1 k' q3
  have hle : u.1 ≤ r := by
    rcases hend with q3 | q3
    · rw [q2]
      refine i2 k2 ?_ q1
      refine Classical.byContradiction fun q4 => ?_
      have := (kS (k := k) (k2 := k2) (by omega : 1 ≤ S)).2 (by omega)
      omega
    · have := cntC_bd T x (T 15 x.toNat + k2 * S) S 60
      omega
  omega
