/-! the steps: lend, free, pass -/
theorem lwf_z (f : Nat → Int) (s n : Nat) (h : 0 ≤ lwf f s n) : f (lwf f s n).toNat = 0 := by
  induction n with
  | zero => exact absurd h (by show ¬ (0 : Int) ≤ -1; decide)
  | succ n ih =>
    by_cases h1 : 0 ≤ lwf f s n
    · have e : lwf f s (n + 1) = lwf f s n := if_pos h1
      rw [e]; exact ih h1
    · by_cases h2 : f (s + n) = 0
      · have e : lwf f s (n + 1) = s + n := by show ite _ _ _ = _; rw [if_neg h1, if_pos h2]
        rw [e]; exact h2
      · have e : lwf f s (n + 1) = -1 := by show ite _ _ _ = _; rw [if_neg h1, if_neg h2]
        rw [e] at h; exact absurd h (by decide)
theorem Inv.lwb {np : Nat} {T : MT} (h : Inv np T) {a : Int} (hs : isS T a) : -1 ≤ lwC T a ∧ lwC T a < 4096 ∧ (0 ≤ lwC T a → T 2 (lwC T a).toNat = 0) := by
  have hb := h.bd hs
  have h1 := lwf_bd (T 2) (T 15 a.toNat).toNat (T 16 a.toNat).toNat
  have h2 := lwf_z (T 2) (T 15 a.toNat).toNat (T 16 a.toNat).toNat
  rw [← lwC_eq] at h1 h2
  exact ⟨by omega, by omega, h2⟩
theorem exMl_eq {np : Nat} {T : MT} (hI : Inv np T) (a d : Int) : exMl T a d = (if fsp T a < 0 then 1 else if ¬ (0 ≤ d ∧ d ≤ 100) then 2 else if T 0 4 < 200 ∧ ¬ cntC T a (T 15 a.toNat) (T 16 a.toNat) 60 > 0 ∧ 0 ≤ lwC T a then 0 else 3 : Nat) := by
  unfold exMl
  by_cases h1 : isS T a
  · rw [if_neg (fun q => q ((hI.isM a).mpr h1)), if_neg (fun q => fsp_neg.mp q h1)]
    by_cases h2 : 0 ≤ d ∧ d ≤ 100
    · rw [if_neg (c := ¬ (0 ≤ d ∧ d ≤ 100)) (fun q => q h2), if_neg (c := ¬ (0 ≤ d ∧ d ≤ 100)) (fun q => q h2), hI.lw h1, hI.2.2.2.2.2.1.1.2.1]
      have h3 := hI.hs h1
      have h4 := hI.lwb h1
      by_cases h5 : T 0 4 < 200 ∧ ¬ cntC T a (T 15 a.toNat) (T 16 a.toNat) 60 > 0 ∧ 0 ≤ lwC T a
      · rw [if_neg (by rintro (q | q | q); exact h5.2.1 (h3.mp q); omega; omega), if_pos h5]; rfl
      · rw [if_pos (by
          by_cases q1 : hsM T a
          · exact Or.inl q1
          · by_cases q2 : 200 ≤ T 0 4
            · exact Or.inr (Or.inl q2)
            · refine Or.inr (Or.inr ?_)
              have q3 : ¬ 0 ≤ lwC T a := fun q => h5 ⟨by omega, fun q4 => q1 (h3.mpr q4), q⟩
              omega), if_neg h5]; rfl
    · rw [if_pos h2, if_pos h2]; rfl
  · rw [if_pos (fun q => h1 ((hI.isM a).mp q)), if_pos (fsp_neg.mpr h1)]; rfl
theorem lnt_le {f : Nat → Int} {s n s2 n2 : Nat} (h1 : s2 ≤ s) (h2 : s + n ≤ s2 + n2) : lnt f s n ≤ lnt f s2 n2 := by
  have key : ∀ (k a : Nat), lnt f s2 (a + k) = lnt f s2 a + lnt f (s2 + a) k := by
    intro k a
    induction k with
    | zero => show _ = _ + (0 : Int); rw [Int.add_zero]; rfl
    | succ k ih =>
      show lnt f s2 (a + k) + _ = _ + (_ + _)
      rw [ih, Int.add_assoc, Nat.add_assoc]
      rfl
  have e1 := key (n2 - (s - s2)) (s - s2)
  have e2 := key (n2 - (s - s2) - n) (s - s2 + n)
  have e3 := key n (s - s2)
  have b1 := lnt_bd f s2 (s - s2)
  have b2 := lnt_bd f (s2 + (s - s2 + n)) (n2 - (s - s2) - n)
  rw [show s - s2 + (n2 - (s - s2)) = n2 by omega] at e1
  rw [show s - s2 + n + (n2 - (s - s2) - n) = n2 by omega] at e2
  rw [show s2 + (s - s2) = s by omega] at e3
  omega
theorem Inv.lii {np : Nat} {T : MT} (h : Inv np T) {a : Int} (hs : isS T a) : liiC T a = if hsM T a then 0 else lnM T (T 5 a.toNat) (T 6 a.toNat) := by
  have hb := h.bd hs
  have he := h.eqs hs
  have h3 := h.hs hs
  have hL := h.2.2.2.2.2.2.2.1
  have el : lnM T (T 5 a.toNat) (T 6 a.toNat) = lnt (T 2) (T 15 a.toNat).toNat (T 16 a.toNat).toNat := by rw [he.2.1, he.2.2.1, h.ln (by omega)]
  rw [el]
  unfold liiC
  by_cases q1 : cntC T a (T 15 a.toNat) (T 16 a.toNat) 60 > 0
  · rw [if_pos (Or.inr q1), if_pos (h3.mpr q1)]
  · rw [if_neg (fun q => q1 (h3.mp q))]
    by_cases q2 : T 0 4 = 0
    · rw [if_pos (Or.inl q2)]
      have b1 := lnt_bd (T 2) (T 15 a.toNat).toNat (T 16 a.toNat).toNat
      have b2 := lnt_le (f := T 2) (s := (T 15 a.toNat).toNat) (n := (T 16 a.toNat).toNat) (s2 := 0) (n2 := 4096) (by omega) (by omega)
      have hL2 : T 0 4 = lnt (T 2) 0 4096 := hL
      rw [← hL2] at b2
      generalize lnt (T 2) (T 15 a.toNat).toNat (T 16 a.toNat).toNat = z at b1 b2 ⊢
      omega
    · rw [if_neg (by rintro (q | q); exact q2 q; exact q1 q)]
theorem chS_f {h q z h' q' z' : Nat → Int} {x : Int} {n : Nat} (he : ∀ i, i < n → h' i = h i ∧ (h i ≠ 0 → q' i = q i ∧ z' i = z i)) : chS h' q' z' x n = chS h q z x n := by
  induction n with
  | zero => rfl
  | succ n ih =>
    have h1 := he n (by omega)
    show _ + ite _ _ _ = _ + ite _ _ _
    rw [ih (fun i hi => he i (by omega))]
    by_cases h2 : h n ≠ 0
    · have h3 := h1.2 h2
      rw [h1.1, h3.1, h3.2]
    · rw [if_neg (fun q => h2 (by rw [← h1.1]; exact q.1)), if_neg (fun q => h2 q.1)]
theorem chS_bd {h q z : Nat → Int} {x : Int} {n : Nat} (he : ∀ i, i < n → h i ≠ 0 → 0 ≤ z i ∧ z i ≤ 4096) : 0 ≤ chS h q z x n ∧ chS h q z x n ≤ 4096 * n := by
  induction n with
  | zero => exact ⟨Int.le_refl 0, Int.le_refl 0⟩
  | succ n ih =>
    have h1 := ih (fun i hi => he i (by omega))
    have h2 := he n (by omega)
    unfold chS
    by_cases h3 : h n ≠ 0 ∧ q n = x
    · rw [if_pos h3]; have := h2 h3.1; omega
    · rw [if_neg h3]; omega
theorem Inv.os {np : Nat} {T : MT} (h : Inv np T) {a : Int} (hs : isS T a) : osM T a = outC T a := by
  have he := h.eqs hs
  rw [osM_eq, he.2.2.1, chS_f (fun i hi => by have := h.eqs2 i hi; exact ⟨this.1, fun q => ⟨(this.2 q).1, (this.2 q).2.2⟩⟩)]
theorem Inv.osb {np : Nat} {T : MT} (h : Inv np T) {a : Int} (hs : isS T a) : -300000 ≤ outC T a ∧ outC T a ≤ 4096 := by
  have hb := h.bd hs
  have h1 := chS_bd (h := T 1) (q := T 14) (z := T 16) (x := a) (n := 60) (fun i hi q => by have := h.1.2 i hi; omega)
  unfold outC
  generalize chS (T 1) (T 14) (T 16) a 60 = z at h1 ⊢
  omega
theorem psN_M {np : Nat} {T : MT} (h : Inv np T) (D : Int) : psN T D 4096 = psC (T 10) D := by
  rw [psC_eq]
  have key : ∀ n, n ≤ 4096 → psN T D n = psM (T 10) D n := by
    intro n
    induction n with
    | zero => exact fun _ => rfl
    | succ n ih =>
      intro hn
      have h1 := h.2.2.2.2.2.1.2.2.2 n (by omega)
      have h2 := h.2.1.2 n (by omega)
      show _ + ite _ _ _ = _ + ite _ _ _
      rw [ih (by omega), h1]
      by_cases q : T 2 n ≠ 0 ∧ T 2 n ≠ -1 ∧ T 2 n ≤ D
      · rw [if_pos q, if_pos (by omega)]
      · rw [if_neg q, if_neg (by omega)]
  exact key 4096 (Nat.le_refl _)
theorem lnt_pas (T : MT) (D : Int) (n : Nat) (N : Nat) (hN : N ≤ n) : lnt (pasT T D n 2) 0 N = lnt (T 2) 0 N - psN T D N := by
  induction N with
  | zero => rfl
  | succ N ih =>
    have e1 : pasT T D n 2 N = if T 2 N ≠ 0 ∧ T 2 N ≠ -1 ∧ T 2 N ≤ D then 0 else T 2 N := by
      unfold pasT
      by_cases q : T 2 N ≠ 0 ∧ T 2 N ≠ -1 ∧ T 2 N ≤ D
      · rw [if_pos ⟨rfl, by omega, q⟩, if_pos q]
      · rw [if_neg (fun h => q h.2.2), if_neg q]
    show lnt _ 0 N + ite _ _ _ = lnt (T 2) 0 N + ite _ _ _ - (psN T D N + ite _ _ _)
    rw [ih (by omega), Nat.zero_add, e1]
    by_cases q : T 2 N ≠ 0 ∧ T 2 N ≠ -1 ∧ T 2 N ≤ D
    · simp only [if_pos q]
      rw [if_pos q.1]; simp; omega
    · simp only [if_neg q]
      omega
