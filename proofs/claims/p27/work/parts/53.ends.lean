/-! the steps: takeBack, lend, pass -/
theorem lnt_set {f : Nat → Int} {i : Nat} {v : Int} {s n : Nat} : lnt (fun j => if j = i then v else f j) s n = lnt f s n + (if s ≤ i ∧ i < s + n then (if v ≠ 0 then 1 else 0) - (if f i ≠ 0 then 1 else 0) else 0) := by
  induction n with
  | zero => show (0 : Int) = 0 + _; rw [if_neg (by omega)]; rfl
  | succ n ih =>
    show lnt _ s n + _ = lnt f s n + _ + _
    rw [ih]
    dsimp only
    by_cases e : s + n = i
    · subst e
      by_cases hv : v = 0 <;> by_cases hf : f (s + n) = 0 <;> simp [hv, hf] <;> omega
    · have e3 : (s ≤ i ∧ i < s + (n + 1)) ↔ (s ≤ i ∧ i < s + n) := by omega
      simp only [if_neg e, e3]
      rw [Int.add_assoc, Int.add_assoc, Int.add_comm (ite _ _ _)]
/-- what is lent has changed -/
theorem inv_ends {np : Nat} {T T' : MT} (h : Inv np T) (g : ∀ r i, r ≠ 2 → r ≠ 10 → ¬ (r = 0 ∧ (i = 4 ∨ i = 5)) → ¬ (r = 4 ∧ (i = 8 ∨ i = 9)) → T' r i = T r i) (h2 : ∀ i, i < 4096 → -1 ≤ T' 2 i ∧ T' 2 i ≤ 200000 ∧ T' 10 i = T' 2 i) (h04 : T' 0 4 = lnt (T' 2) 0 4096) (h48 : T' 4 8 = T' 0 4) (h05 : 0 ≤ T' 0 5 ∧ T' 0 5 ≤ 100000) (h49 : T' 4 9 = T' 0 5) : Inv np T' := by
  obtain ⟨hC, hA, hP, hT, hM, hR, hG, hL, hW⟩ := h
  have gg : ∀ r i, r ≠ 2 → r ≠ 10 → r ≠ 0 → r ≠ 4 → T' r i = T r i := fun r i h1 h2 h3 h4 => g r i h1 h2 (fun q => h3 q.1) (fun q => h4 q.1)
  have hlb := lnt_bd (T' 2) 0 4096
  have g02 : T' 0 2 = T 0 2 := g 0 2 (by decide) (by decide) (by decide) (by decide)
  have g07 : T' 0 7 = T 0 7 := g 0 7 (by decide) (by decide) (by decide) (by decide)
  have g46 : T' 4 6 = T 4 6 := g 4 6 (by decide) (by decide) (by decide) (by decide)
  have hA1 := hA.1
  have h04b : 0 ≤ T' 0 4 ∧ T' 0 4 ≤ 4096 := by rw [h04]; exact hlb
  refine ⟨hC.same (fun r i hr => ?_), ⟨⟨h04b.1, h04b.2, h05.1, h05.2, by rw [g07]; exact hA1.2.2.2.2⟩, fun a ha => ?_⟩, fun j hj => ?_, fun j hj h1 h2 => ?_, ⟨?_, fun j hj => ?_, fun j hj => ?_⟩, ?_, hG.same (fun r i hr => gg r i (by omega) (by omega) (by omega) (by omega)), h04, ?_⟩
  · rcases hr with ⟨rfl, rfl⟩ | rfl | hr
    · exact g02
    · exact gg 1 i (by decide) (by decide) (by decide) (by decide)
    · exact gg r i (by omega) (by omega) (by omega) (by omega)
  · have h3 := hA.2 a ha
    have h4 := h2 a ha
    rw [gg 3 a (by decide) (by decide) (by decide) (by decide)]
    omega
  · rw [g02] at hj
    rw [gg 14 j (by decide) (by decide) (by decide) (by decide)]
    exact hP j hj
  · rw [gg 1 j (by decide) (by decide) (by decide) (by decide)] at h1
    rw [gg 14 j (by decide) (by decide) (by decide) (by decide)] at h2 ⊢
    rw [gg 1 _ (by decide) (by decide) (by decide) (by decide)]
    exact hT j hj h1 h2
  · have h3 := hM.1
    rw [g46, h48, h49, gg 11 0 (by decide) (by decide) (by decide) (by decide)]
    omega
  · rw [gg 9 j (by decide) (by decide) (by decide) (by decide), gg 7 j (by decide) (by decide) (by decide) (by decide), gg 5 j (by decide) (by decide) (by decide) (by decide), gg 6 j (by decide) (by decide) (by decide) (by decide), gg 8 j (by decide) (by decide) (by decide) (by decide), g46]
    exact hM.2.1 j hj
  · have h4 := h2 j hj
    omega
  · refine ⟨by rw [g46, g02, h48, h49]; exact ⟨hR.1.1, rfl, rfl⟩, fun j hj => ?_, fun j hj => ?_, fun j hj => (h2 j hj).2.2⟩
    · rw [gg 9 j (by decide) (by decide) (by decide) (by decide), gg 1 j (by decide) (by decide) (by decide) (by decide)]; exact hR.2.1 j hj
    · rw [g02] at hj
      rw [gg 7 j (by decide) (by decide) (by decide) (by decide), gg 5 j (by decide) (by decide) (by decide) (by decide), gg 6 j (by decide) (by decide) (by decide) (by decide), gg 8 j (by decide) (by decide) (by decide) (by decide), gg 14 j (by decide) (by decide) (by decide) (by decide), gg 15 j (by decide) (by decide) (by decide) (by decide), gg 16 j (by decide) (by decide) (by decide) (by decide), gg 17 j (by decide) (by decide) (by decide) (by decide)]
      exact hR.2.2.1 j hj
  · intro h7 j hj
    rw [g07] at h7
    rw [gg 3 j (by decide) (by decide) (by decide) (by decide), nsI_f (T := T) (fun i _ => ⟨gg 1 i (by decide) (by decide) (by decide) (by decide), fun _ => ⟨gg 14 i (by decide) (by decide) (by decide) (by decide), gg 15 i (by decide) (by decide) (by decide) (by decide), gg 16 i (by decide) (by decide) (by decide) (by decide)⟩⟩)]
    exact hW h7 j hj
theorem inv_set {np : Nat} {T : MT} (h : Inv np T) {i : Nat} (hi : i < 4096) {v n : Int} (hv : -1 ≤ v ∧ v ≤ 200000) (hn : n = T 0 4 + ((if v ≠ 0 then 1 else 0) - (if T 2 i ≠ 0 then 1 else 0))) : Inv np (mst (mst (mst (mst T 2 i v) 0 4 n) 10 i v) 4 8 n) := by
  have hR := h.2.2.2.2.2.1
  have hA := h.2.1
  have hL := h.2.2.2.2.2.2.2.1
  have e2 : mst (mst (mst (mst T 2 i v) 0 4 n) 10 i v) 4 8 n 2 = fun j => if j = i then v else T 2 j := by
    funext j
    rw [mst_r (by decide), mst_r (by decide), mst_r (by decide)]
    unfold mst
    by_cases e : j = i
    · rw [if_pos ⟨rfl, e⟩, if_pos e]
    · rw [if_neg (fun q => e q.2), if_neg e]
  have e10 : ∀ j, mst (mst (mst (mst T 2 i v) 0 4 n) 10 i v) 4 8 n 10 j = if j = i then v else T 10 j := by
    intro j
    rw [mst_r (by decide)]
    by_cases e : j = i
    · subst e; rw [mst_eq, if_pos rfl]
    · rw [mst_i e, mst_r (by decide), mst_r (by decide), if_neg e]
  have e04 : mst (mst (mst (mst T 2 i v) 0 4 n) 10 i v) 4 8 n 0 4 = n := by rw [mst_r (by decide), mst_r (by decide), mst_eq]
  have e05 : mst (mst (mst (mst T 2 i v) 0 4 n) 10 i v) 4 8 n 0 5 = T 0 5 := by rw [mst_r (by decide), mst_r (by decide), mst_i (by decide), mst_r (by decide)]
  have e49 : mst (mst (mst (mst T 2 i v) 0 4 n) 10 i v) 4 8 n 4 9 = T 4 9 := by rw [mst_i (by decide), mst_r (by decide), mst_r (by decide), mst_r (by decide)]
  refine inv_ends h (fun r j h1 h2 h3 h4 => ?_) (fun j hj => ?_) ?_ ?_ ?_ ?_
  · rw [mst_ne (fun q => h4 ⟨q.1, Or.inl q.2⟩), mst_r h2, mst_ne (fun q => h3 ⟨q.1, Or.inl q.2⟩), mst_r h1]
  · have h5 := hA.2 j hj
    have h6 := hR.2.2.2 j hj
    rw [e10, e2]
    dsimp only
    by_cases e : j = i
    · rw [if_pos e, if_pos e]; omega
    · rw [if_neg e, if_neg e]; omega
  · rw [e04, e2, lnt_set, if_pos (by omega), hn, ← hL]
  · rw [e04, mst_eq]
  · rw [e05]; have := hA.1; omega
  · rw [e49, e05]; exact hR.1.2.2