/-! the yard and the model side by side: what the steps rest on -/
/-- the contract of a model's method whose end is known -/
theorem Inv.n13 {np : Nat} {T : MT} (h : Inv np T) : 13 ≤ np := by have := h.1.1; omega
theorem Inv.isM {np : Nat} {T : MT} (h : Inv np T) (a : Int) : isM T a ↔ isS T a := by
  obtain ⟨hC, -, -, -, -, hR, -⟩ := h
  have h1 := hC.1
  have h2 := hR.1.1
  unfold _root_.Jvm.Pilot.@@N@@.isM isS
  constructor
  · rintro ⟨q1, q2, q3⟩
    rw [hR.2.1 a.toNat (by omega)] at q3
    exact ⟨q1, by omega, q3⟩
  · rintro ⟨q1, q2, q3⟩
    have h4 := hC.2 a.toNat (by omega)
    refine ⟨q1, by omega, ?_⟩
    rw [hR.2.1 a.toNat (by omega)]
    exact q3
theorem fsp_neg {T : MT} {a : Int} : fsp T a < 0 ↔ ¬ isS T a := by
  rcases fsp_or T a with ⟨h1, h2⟩ | ⟨h1, h2⟩
  · rw [h1]; exact ⟨fun _ => h2, fun _ => by decide⟩
  · rw [h1]; exact ⟨fun h => by have := h2.1; omega, fun h => absurd h2 h⟩
/-- a span's numbers are the same on both sides -/
theorem Inv.eqs {np : Nat} {T : MT} (h : Inv np T) {a : Int} (ha : isS T a) : T 7 a.toNat = T 14 a.toNat ∧ T 5 a.toNat = T 15 a.toNat ∧ T 6 a.toNat = T 16 a.toNat ∧ T 8 a.toNat = T 17 a.toNat := by
  have h1 := (h.isM a).mpr ha
  have h2 := h.2.2.2.2.2.1
  exact h2.2.2.1 a.toNat (by have := h2.1.1; have := h1.2.1; have := h1.1; omega)
/-- what is written outside the registers that Inv speaks of changes nothing -/
theorem VA.same {T T' : MT} (h : VA T) (he : ∀ r i, (r = 0 ∧ i ≠ 2) ∨ r = 2 ∨ r = 3 → T' r i = T r i) : VA T' := by
  obtain ⟨h1, h2⟩ := h
  refine ⟨by rw [he 0 4 (by omega), he 0 5 (by omega), he 0 7 (by omega)]; exact h1, fun a ha => ?_⟩
  rw [he 2 a (by omega), he 3 a (by omega)]
  exact h2 a ha
theorem chA_f (h q b z h' q' b' z' : Nat → Int) (x a : Int) (j : Nat) (he : ∀ i, i < j → h' i = h i ∧ (h i ≠ 0 → q' i = q i ∧ b' i = b i ∧ z' i = z i)) : chA h' q' b' z' x a j = chA h q b z x a j := by
  induction j with
  | zero => rfl
  | succ j ih =>
    have ih := ih (fun i hi => he i (by omega))
    have h1 := he j (by omega)
    show ite _ _ _ = ite _ _ _
    rw [ih]
    by_cases h2 : h j ≠ 0
    · have h3 := h1.2 h2
      rw [h1.1, h3.1, h3.2.1, h3.2.2]
    · by_cases h4 : 0 ≤ chA h q b z x a j
      · rw [if_pos h4, if_pos h4]
      · rw [if_neg h4, if_neg h4, if_neg (fun q => h2 (by rw [← h1.1]; exact q.1)), if_neg (fun q => h2 q.1)]
theorem nsI_f {T T' : MT} (he : ∀ i, i < 60 → T' 1 i = T 1 i ∧ (T 1 i ≠ 0 → T' 14 i = T 14 i ∧ T' 15 i = T 15 i ∧ T' 16 i = T 16 i)) (a : Int) (n : Nat) : nsI T' a n = nsI T a n := by
  induction n with
  | zero => rfl
  | succ n ih =>
    have e1 : ∀ x, chC T' x a 60 = chC T x a 60 := fun x => by rw [chC_eq, chC_eq, chA_f _ _ _ _ _ _ _ _ x a 60 he]
    show ite _ _ _ = ite _ _ _
    rw [ih, e1]
theorem lnt_f {f g : Nat → Int} {s n : Nat} (he : ∀ i, s ≤ i → i < s + n → f i = g i) : lnt f s n = lnt g s n := by
  induction n with
  | zero => rfl
  | succ n ih =>
    show _ + _ = _ + _
    rw [ih (fun i h1 h2 => he i h1 (by omega)), he (s + n) (by omega) (by omega)]
theorem GEO.same {T T' : MT} (h : GEO T) (he : ∀ r i, r = 1 ∨ (14 ≤ r ∧ r ≤ 16) → T' r i = T r i) : GEO T' := by
  have e1 : T' 1 = T 1 := funext fun i => he 1 i (by omega)
  have e4 : T' 14 = T 14 := funext fun i => he 14 i (by omega)
  have e5 : T' 15 = T 15 := funext fun i => he 15 i (by omega)
  have e6 : T' 16 = T 16 := funext fun i => he 16 i (by omega)
  unfold GEO
  rw [e1, e4, e5, e6]
  exact h
theorem Inv.same {np : Nat} {T T' : MT} (h : Inv np T) (he : ∀ r i, ¬ (r = 4 ∧ i = 0) → r ≠ 12 → ¬ (r = 11 ∧ i ≠ 0) → T' r i = T r i) : Inv np T' := by
  obtain ⟨hC, hA, hP, hT, hM, hR, hG, hL, hW⟩ := h
  have g : ∀ r i, r ≠ 4 → r ≠ 12 → r ≠ 11 → T' r i = T r i := fun r i h1 h2 h3 => he r i (fun q => h1 q.1) h2 (fun q => h3 q.1)
  have g4 : ∀ i, i ≠ 0 → T' 4 i = T 4 i := fun i h1 => he 4 i (fun q => h1 q.2) (by decide) (fun q => absurd q.1 (by decide))
  refine ⟨?_, hA.same (fun r i hr => g r i (by omega) (by omega) (by omega)), fun j hj => ?_, fun j hj h1 h2 => ?_, ?_, ?_, hG.same (fun r i hr => g r i (by omega) (by omega) (by omega)), ?_, ?_⟩
  · refine ⟨by rw [g 0 2 (by decide) (by decide) (by decide), g 1 0 (by decide) (by decide) (by decide)]; exact hC.1, fun j hj => ?_⟩
    rw [g 1 j (by decide) (by decide) (by decide), g 0 2 (by decide) (by decide) (by decide), g 13 j (by decide) (by decide) (by decide), g 14 j (by decide) (by decide) (by decide), g 15 j (by decide) (by decide) (by decide), g 16 j (by decide) (by decide) (by decide), g 17 j (by decide) (by decide) (by decide)]
    exact hC.2 j hj
  · rw [g 0 2 (by decide) (by decide) (by decide)] at hj
    rw [g 14 j (by decide) (by decide) (by decide)]
    exact hP j hj
  · rw [g 1 j (by decide) (by decide) (by decide)] at h1
    rw [g 14 j (by decide) (by decide) (by decide)] at h2 ⊢
    rw [g 1 _ (by decide) (by decide) (by decide)]
    exact hT j hj h1 h2
  · refine hM.same (fun r i hr => ?_)
    by_cases e : r = 4
    · subst e; exact g4 i (by omega)
    · by_cases e2 : r = 11
      · subst e2
        exact he 11 i (by omega) (by decide) (by omega)
      · exact g r i e (by omega) e2
  · refine ⟨by rw [g4 6 (by decide), g4 8 (by decide), g4 9 (by decide), g 0 2 (by decide) (by decide) (by decide), g 0 4 (by decide) (by decide) (by decide), g 0 5 (by decide) (by decide) (by decide)]; exact hR.1, fun j hj => ?_, fun j hj => ?_, fun a ha => ?_⟩
    · rw [g 9 j (by decide) (by decide) (by decide), g 1 j (by decide) (by decide) (by decide)]; exact hR.2.1 j hj
    · rw [g 0 2 (by decide) (by decide) (by decide)] at hj
      rw [g 7 j (by decide) (by decide) (by decide), g 5 j (by decide) (by decide) (by decide), g 6 j (by decide) (by decide) (by decide), g 8 j (by decide) (by decide) (by decide), g 14 j (by decide) (by decide) (by decide), g 15 j (by decide) (by decide) (by decide), g 16 j (by decide) (by decide) (by decide), g 17 j (by decide) (by decide) (by decide)]
      exact hR.2.2.1 j hj
    · rw [g 10 a (by decide) (by decide) (by decide), g 2 a (by decide) (by decide) (by decide)]; exact hR.2.2.2 a ha
  · show T' 0 4 = lnt (T' 2) 0 4096
    rw [g 0 4 (by decide) (by decide) (by decide), lnt_f (fun i _ _ => g 2 i (by decide) (by decide) (by decide))]
    exact hL
  · intro h7 a ha
    rw [g 0 7 (by decide) (by decide) (by decide)] at h7
    rw [g 3 a (by decide) (by decide) (by decide), nsI_f (T := T) (fun i _ => ⟨g 1 i (by decide) (by decide) (by decide), fun _ => ⟨g 14 i (by decide) (by decide) (by decide), g 15 i (by decide) (by decide) (by decide), g 16 i (by decide) (by decide) (by decide)⟩⟩)]
    exact hW h7 a ha
theorem Inv.o {np : Nat} {T : MT} (h : Inv np T) (w : Int) : Inv np (mst T 12 0 w) := h.same (fun r i _ h2 _ => mst_r h2)
theorem Inv.th {np : Nat} {T : MT} (h : Inv np T) (z : Int) : Inv np (mst T 4 0 z) := h.same (fun r i h1 _ _ => mst_ne h1)
theorem isS_o {T : MT} {w a : Int} : isS (mst T 12 0 w) a ↔ isS T a := by
  unfold isS
  rw [mst_r (by decide)]
theorem Inv.bd {np : Nat} {T : MT} (h : Inv np T) {a : Int} (ha : isS T a) : 0 ≤ a ∧ a < 60 ∧ (-1 ≤ T 14 a.toNat ∧ T 14 a.toNat < 60) ∧ 0 ≤ T 15 a.toNat ∧ 1 ≤ T 16 a.toNat ∧ T 15 a.toNat + T 16 a.toNat ≤ 4096 ∧ 0 ≤ T 17 a.toNat ∧ T 17 a.toNat ≤ 7 := by
  have h1 := h.1.s ha
  omega
theorem th_12 (T : MT) (w z : Int) : mst (mst T 12 0 w) 4 0 z 12 0 = w := by rw [mst_r (by decide), mst_eq]
theorem th_r (T : MT) (w z : Int) {r i : Nat} (h4 : r ≠ 4) (h12 : r ≠ 12) : mst (mst T 12 0 w) 4 0 z r i = T r i := by rw [mst_r h4, mst_r h12]
