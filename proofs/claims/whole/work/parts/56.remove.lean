/-! the steps: remove, grow, halve -/
theorem cnt_0 {h q b z : Nat → Int} {x B S : Int} {n : Nat} (hc : cnt h q b z x B S n ≤ 0) : ∀ j, j < n → h j ≠ 0 → q j = x → ¬ (b j < B + S ∧ B < b j + z j) := by
  induction n with
  | zero => exact fun j hj => absurd hj (by omega)
  | succ n ih =>
    intro j hj h1 h2 h3
    have hb := cnt_bd h q b z x B S n
    have e : cnt h q b z x B S (n + 1) = cnt h q b z x B S n + (if h n ≠ 0 ∧ q n = x ∧ b n < B + S ∧ B < b n + z n then 1 else 0) := rfl
    by_cases q1 : j = n
    · subst q1
      rw [if_pos ⟨h1, h2, h3⟩] at e
      omega
    · refine ih ?_ j (by omega) h1 h2 h3
      split at e <;> omega
theorem cnt_z {h q b z : Nat → Int} {x B S : Int} {n : Nat} (hc : ∀ j, j < n → h j ≠ 0 → q j = x → ¬ (b j < B + S ∧ B < b j + z j)) : cnt h q b z x B S n = 0 := by
  induction n with
  | zero => rfl
  | succ n ih =>
    show _ + ite _ _ _ = _
    rw [ih (fun j hj => hc j (by omega)), if_neg (fun q => hc n (by omega) q.1 q.2.1 q.2.2)]; rfl
theorem Inv.geo {np : Nat} {T : MT} (h : Inv np T) : GEO T := h.2.2.2.2.2.2.1
/-- a span that is right in another lies in it -/
theorem Inv.inp {np : Nat} {T : MT} (h : Inv np T) {j : Nat} (hj : j < 60) (h1 : T 1 j ≠ 0) (h0 : j ≠ 0) : 0 ≤ T 14 j ∧ T 14 j < j ∧ isS T (T 14 j) ∧ T 15 (T 14 j).toNat ≤ T 15 j ∧ T 15 j + T 16 j ≤ T 15 (T 14 j).toNat + T 16 (T 14 j).toNat ∧ T 16 j ≤ T 16 (T 14 j).toNat := by
  have h2 := (h.geo.2.1 j hj h1).2.2 h0
  have h3 := h.1.2 j hj
  exact ⟨h2.1, by omega, ⟨h2.1, by omega, h.2.2.2.1 j hj h1 h2.1⟩, h2.2⟩
theorem Inv.nokids {np : Nat} {T : MT} (h : Inv np T) {a : Int} (ha : isS T a) (hc : cntC T a (T 15 a.toNat) (T 16 a.toNat) 60 ≤ 0) : ∀ j : Nat, j < 60 → T 1 j ≠ 0 → T 14 j ≠ a := by
  intro j hj h1 h2
  rw [cntC_eq] at hc
  have h3 := cnt_0 hc j hj h1 h2
  have h4 := h.1.2 j hj
  have h0 : j ≠ 0 := by
    rintro rfl
    have := h.geo.1.2.2
    have := ha.1
    omega
  have h5 := h.inp hj h1 h0
  rw [h2] at h5
  omega
theorem Inv.p0 {np : Nat} {T : MT} (h : Inv np T) {a : Int} (ha : isS T a) : 0 ≤ T 14 a.toNat ↔ a ≠ 0 := by
  constructor
  · rintro h1 rfl
    have h9 : T 14 (Int.toNat 0) = -1 := h.geo.1.2.2
    omega
  · intro h1
    exact (h.inp (j := a.toNat) (by have := ha.2.1; have := ha.1; omega) ha.2.2 (by have := ha.1; omega)).1
theorem inv_remove {np : Nat} {T U : MT} (h : Inv np T) {a : Int} (ha : isS T a) (h0 : a ≠ 0) (hk : ∀ j : Nat, j < 60 → T 1 j ≠ 0 → T 14 j ≠ a) (g : ∀ r i, ¬ (r = 1 ∧ i = a.toNat) → ¬ (r = 9 ∧ i = a.toNat) → ¬ (r = 0 ∧ i = 7) → ¬ (r = 4 ∧ i = 0) → r ≠ 12 → U r i = T r i) (g1 : U 1 a.toNat = 0) (g9 : U 9 a.toNat = 0) (g7 : U 0 7 = 0) : Inv np U := by
  obtain ⟨hC, hA, hP, hT, hM, hR, hG, hL, hW⟩ := h
  have gg : ∀ r i, r ≠ 1 → r ≠ 9 → r ≠ 0 → r ≠ 4 → r ≠ 12 → U r i = T r i := fun r i q1 q2 q3 q4 q5 => g r i (fun q => q1 q.1) (fun q => q2 q.1) (fun q => q3 q.1) (fun q => q4 q.1) q5
  have g0 : ∀ i, i ≠ 7 → U 0 i = T 0 i := fun i q => g 0 i (by omega) (by omega) (fun q1 => q q1.2) (by omega) (by omega)
  have g4 : ∀ i, i ≠ 0 → U 4 i = T 4 i := fun i q => g 4 i (by omega) (by omega) (by omega) (fun q1 => q q1.2) (by omega)
  have gi : ∀ i, i ≠ a.toNat → U 1 i = T 1 i ∧ U 9 i = T 9 i := fun i q => ⟨g 1 i (fun q1 => q q1.2) (by omega) (by omega) (by omega) (by omega), g 9 i (by omega) (fun q1 => q q1.2) (by omega) (by omega) (by omega)⟩
  have ha0 := ha.1
  have hne : ∀ j, U 1 j ≠ 0 → j ≠ a.toNat ∧ T 1 j ≠ 0 := fun j q => by
    have e : j ≠ a.toNat := fun e => q (by rw [e]; exact g1)
    exact ⟨e, by rw [← (gi j e).1]; exact q⟩
  refine ⟨⟨by rw [g0 2 (by decide), (gi 0 (by omega)).1]; exact hC.1, fun j hj => ?_⟩, ⟨by rw [g0 4 (by decide), g0 5 (by decide), g7]; have := hA.1; omega, fun i hi => by rw [gg 2 i (by decide) (by decide) (by decide) (by decide) (by decide), gg 3 i (by decide) (by decide) (by decide) (by decide) (by decide)]; exact hA.2 i hi⟩, fun j hj => ?_, fun j hj h1 h2 => ?_, ⟨?_, fun j hj => ?_, fun i hi => ?_⟩, ⟨?_, fun j hj => ?_, fun j hj => ?_, fun i hi => ?_⟩, ⟨?_, fun j hj h1 => ?_, fun i j hi hj hij h1 h2 h3 => ?_⟩, ?_, fun q => absurd g7 q⟩
  · by_cases e : j = a.toNat
    · exact Or.inl (by rw [e]; exact g1)
    · have h1 := hC.2 j hj
      rw [(gi j e).1, g0 2 (by decide), gg 13 j (by decide) (by decide) (by decide) (by decide) (by decide), gg 14 j (by decide) (by decide) (by decide) (by decide) (by decide), gg 15 j (by decide) (by decide) (by decide) (by decide) (by decide), gg 16 j (by decide) (by decide) (by decide) (by decide) (by decide), gg 17 j (by decide) (by decide) (by decide) (by decide) (by decide)]
      exact h1
  · rw [g0 2 (by decide)] at hj
    rw [gg 14 j (by decide) (by decide) (by decide) (by decide) (by decide)]
    exact hP j hj
  · obtain ⟨e, h3⟩ := hne j h1
    rw [gg 14 j (by decide) (by decide) (by decide) (by decide) (by decide)] at h2 ⊢
    rw [(gi _ (fun q => hk j hj h3 (by omega))).1]
    exact hT j hj h3 h2
  · rw [g4 6 (by decide), g4 8 (by decide), g4 9 (by decide), gg 11 0 (by decide) (by decide) (by decide) (by decide) (by decide)]; exact hM.1
  · have h1 := hM.2.1 j hj
    rw [gg 7 j (by decide) (by decide) (by decide) (by decide) (by decide), gg 5 j (by decide) (by decide) (by decide) (by decide) (by decide), gg 6 j (by decide) (by decide) (by decide) (by decide) (by decide), gg 8 j (by decide) (by decide) (by decide) (by decide) (by decide), g4 6 (by decide)]
    by_cases e : j = a.toNat
    · rw [e] at h1 ⊢
      rw [g9]; omega
    · rw [(gi j e).2]; exact h1
  · rw [gg 10 i (by decide) (by decide) (by decide) (by decide) (by decide)]; exact hM.2.2 i hi
  · rw [g4 6 (by decide), g4 8 (by decide), g4 9 (by decide), g0 2 (by decide), g0 4 (by decide), g0 5 (by decide)]; exact hR.1
  · by_cases e : j = a.toNat
    · rw [e, g1, g9]
    · rw [(gi j e).1, (gi j e).2]; exact hR.2.1 j hj
  · rw [g0 2 (by decide)] at hj
    rw [gg 7 j (by decide) (by decide) (by decide) (by decide) (by decide), gg 5 j (by decide) (by decide) (by decide) (by decide) (by decide), gg 6 j (by decide) (by decide) (by decide) (by decide) (by decide), gg 8 j (by decide) (by decide) (by decide) (by decide) (by decide), gg 14 j (by decide) (by decide) (by decide) (by decide) (by decide), gg 15 j (by decide) (by decide) (by decide) (by decide) (by decide), gg 16 j (by decide) (by decide) (by decide) (by decide) (by decide), gg 17 j (by decide) (by decide) (by decide) (by decide) (by decide)]
    exact hR.2.2.1 j hj
  · rw [gg 10 i (by decide) (by decide) (by decide) (by decide) (by decide), gg 2 i (by decide) (by decide) (by decide) (by decide) (by decide)]; exact hR.2.2.2 i hi
  · rw [gg 15 0 (by decide) (by decide) (by decide) (by decide) (by decide), gg 16 0 (by decide) (by decide) (by decide) (by decide) (by decide), gg 14 0 (by decide) (by decide) (by decide) (by decide) (by decide)]; exact hG.1
  · obtain ⟨e, h3⟩ := hne j h1
    rw [gg 14 j (by decide) (by decide) (by decide) (by decide) (by decide), gg 15 j (by decide) (by decide) (by decide) (by decide) (by decide), gg 16 j (by decide) (by decide) (by decide) (by decide) (by decide), gg 15 _ (by decide) (by decide) (by decide) (by decide) (by decide), gg 16 _ (by decide) (by decide) (by decide) (by decide) (by decide)]
    exact hG.2.1 j hj h3
  · rw [gg 14 i (by decide) (by decide) (by decide) (by decide) (by decide), gg 14 j (by decide) (by decide) (by decide) (by decide) (by decide)] at h3
    rw [gg 15 i (by decide) (by decide) (by decide) (by decide) (by decide), gg 16 i (by decide) (by decide) (by decide) (by decide) (by decide), gg 15 j (by decide) (by decide) (by decide) (by decide) (by decide), gg 16 j (by decide) (by decide) (by decide) (by decide) (by decide)]
    exact hG.2.2 i j hi hj hij (hne i h1).2 (hne j h2).2 h3
  · show U 0 4 = lnt (U 2) 0 4096
    rw [g0 4 (by decide), lnt_f (fun i _ _ => gg 2 i (by decide) (by decide) (by decide) (by decide) (by decide))]
    exact hL
theorem st_remove {l : Launch} {cs : CSt} {np : Nat} {ad : Nat → Nat} {T : MT} (hI : Inv np T) (a0 : Int) (ha0 : -2147483648 ≤ a0 ∧ a0 < 2147483648) : ∃ PRh : Option Value → St3 → Prop, KC l cs yL_remove (Cond.codeWith yL_remove cL_remove 4 (some .int) [(0, 9, 12, 13), (0, 9, 15, 17)] :: GW) 8 8 48 [.ref (ad 0), .int (zI a0), .ref (ad 12)] np ad T PRh (fun _ _ => False) ∧ ∀ v u, PRh v u → okP l cs yX2_remove (Cond.code yX2_remove cX2_remove 3 (some .int) :: GW) 2 [.int (zI a0)] ad (fun _ => True) v u := by
  have h13 := hI.n13
  have hM := hI.2.2.2.2.1
  have hA := hI.2.1
  have K1 := k_X1_remove (l := l) (cs := cs) (ad := ad) hI.1 hA a0 ha0
  have hcase : (¬ isS T a0 ∧ (if fsp T a0 < 0 then 1 else if 0 ≤ T 14 a0.toNat ∧ cntC T a0 (T 15 a0.toNat) (T 16 a0.toNat) 60 ≤ 0 ∧ lnt (T 2) (T 15 a0.toNat).toNat (T 16 a0.toNat).toNat ≤ 0 then 0 else 3 : Nat) = 1 ∧ exMr T a0 = 1) ∨ ((if fsp T a0 < 0 then 1 else if 0 ≤ T 14 a0.toNat ∧ cntC T a0 (T 15 a0.toNat) (T 16 a0.toNat) 60 ≤ 0 ∧ lnt (T 2) (T 15 a0.toNat).toNat (T 16 a0.toNat).toNat ≤ 0 then 0 else 3 : Nat) = 3 ∧ exMr T a0 = 2) ∨ (isS T a0 ∧ a0 ≠ 0 ∧ cntC T a0 (T 15 a0.toNat) (T 16 a0.toNat) 60 ≤ 0 ∧ (if fsp T a0 < 0 then 1 else if 0 ≤ T 14 a0.toNat ∧ cntC T a0 (T 15 a0.toNat) (T 16 a0.toNat) 60 ≤ 0 ∧ lnt (T 2) (T 15 a0.toNat).toNat (T 16 a0.toNat).toNat ≤ 0 then 0 else 3 : Nat) = 0 ∧ exMr T a0 = 0) := by
    unfold exMr
    by_cases h1 : isS T a0
    · have hb := hI.bd h1
      have he := hI.eqs h1
      have h3 := hI.hs h1
      have hp := hI.p0 h1
      have el : lnM T (T 5 a0.toNat) (T 6 a0.toNat) = lnt (T 2) (T 15 a0.toNat).toNat (T 16 a0.toNat).toNat := by rw [he.2.1, he.2.2.1, hI.ln (by omega)]
      rw [if_neg (fun q => fsp_neg.mp q h1), if_neg (c := ¬ isM T a0) (fun q => q ((hI.isM a0).mpr h1)), el]
      by_cases q : 0 ≤ T 14 a0.toNat ∧ cntC T a0 (T 15 a0.toNat) (T 16 a0.toNat) 60 ≤ 0 ∧ lnt (T 2) (T 15 a0.toNat).toNat (T 16 a0.toNat).toNat ≤ 0
      · right; right
        refine ⟨h1, hp.mp q.1, q.2.1, if_pos q, if_neg ?_⟩
        rintro (q1 | q1 | q1)
        · exact hp.mp q.1 q1
        · exact absurd (h3.mp q1) (by have := q.2.1; omega)
        · have := q.2.2; omega
      · right; left
        refine ⟨if_neg q, if_pos ?_⟩
        by_cases q1 : a0 = 0
        · exact Or.inl q1
        · by_cases q2 : hsM T a0
          · exact Or.inr (Or.inl q2)
          · refine Or.inr (Or.inr (Classical.byContradiction fun q3 => q ⟨hp.mpr q1, ?_, by omega⟩))
            exact Classical.byContradiction fun q4 => q2 (h3.mpr (by omega))
    · left
      exact ⟨h1, if_pos (fsp_neg.mpr h1), if_pos (fun q => h1 ((hI.isM a0).mp q))⟩
  generalize (if fsp T a0 < 0 then 1 else if 0 ≤ T 14 a0.toNat ∧ cntC T a0 (T 15 a0.toNat) (T 16 a0.toNat) 60 ≤ 0 ∧ lnt (T 2) (T 15 a0.toNat).toNat (T 16 a0.toNat).toNat ≤ 0 then 0 else 3 : Nat) = ex at hcase K1
  have hexs : ex = 0 ∨ ex = 1 ∨ ex = 3 := by omega
  refine ⟨_, k_L_remove h13 K1 (hWt_KD h13 (fun h0 => ?_)) hexs, st_KD hI (E := exMr T a0) (fun h0 => ?_) trivial (k_X2_remove h13 hM a0 ha0) (fun h0 => ?_)⟩
  · rcases hcase with ⟨-, q, -⟩ | ⟨q, -⟩ | ⟨hs, -⟩
    · omega
    · omega
    · have := hI.bd hs; omega
  · rcases hcase with ⟨-, rfl, e⟩ | ⟨rfl, e⟩ | ⟨-, -, -, q, -⟩
    · rw [e]; decide
    · rw [e]; decide
    · exact absurd q h0
  · obtain ⟨hs, hne, hc, -, hx⟩ : isS T a0 ∧ a0 ≠ 0 ∧ cntC T a0 (T 15 a0.toNat) (T 16 a0.toNat) 60 ≤ 0 ∧ ex = 0 ∧ exMr T a0 = 0 := by
      rcases hcase with ⟨-, q, -⟩ | ⟨q, -⟩ | q
      · omega
      · omega
      · exact q
    have hb := hI.bd hs
    have he := hI.eqs hs
    have hag : ag (mst (mst (mst T 1 a0.toNat 0) 0 7 0) 12 0 (T 16 a0.toNat)) T := ag_o (fun r i h1 h2 => by rw [mst_r (by omega), mst_r (by omega)])
    have K := k_X2_remove (l := l) (cs := cs) (ad := ad) h13 (hag.VM hM) a0 ha0
    generalize hTT : mst (mst (mst T 1 a0.toNat 0) 0 7 0) 12 0 (T 16 a0.toNat) = T' at hag K ⊢
    have hex : exMr T' a0 = 0 := by
      refine Eq.trans ?_ hx
      simp only [exMr, hsM, hag.isM, hag.cnt, hag.ln, hag.f (r := 5) (by decide) (by decide), hag.f (r := 6) (by decide) (by decide)]
    rw [hex, if_pos rfl, if_pos rfl, hag 6 a0.toNat (by decide) (by decide), he.2.2.1] at K
    refine ⟨_, K, ⟨by omega, by omega, trivial⟩, ?_, ?_, ?_⟩
    · rw [mst_r (by decide), mst_eq]
    · rw [mst_r (by decide), mst_r (by decide), ← hTT, mst_eq]
    · refine inv_remove hI hs hne (hI.nokids hs hc) (fun r i q1 q2 q3 q4 q5 => ?_) ?_ ?_ ?_
      · rw [mst_ne q2, mst_ne q4, ← hTT, mst_r q5, mst_ne q3, mst_ne q1]
      · rw [mst_r (by decide), mst_r (by decide), ← hTT, mst_r (by decide), mst_r (by decide), mst_eq]
      · rw [mst_eq]
      · rw [mst_r (by decide), mst_r (by decide), ← hTT, mst_r (by decide), mst_eq]
