/-! the step: pass; the start -/
theorem pasM_10 (T : MT) (D : Int) (n i : Nat) : pasM T D n 10 i = if i < n ∧ 0 < T 10 i ∧ T 10 i ≤ D then 0 else T 10 i := by
  unfold pasM
  by_cases q : i < n ∧ 0 < T 10 i ∧ T 10 i ≤ D
  · rw [if_pos ⟨rfl, q⟩, if_pos q]
  · rw [if_neg (fun h => q h.2), if_neg q]
theorem pasT_2 (T : MT) (D : Int) (n i : Nat) : pasT T D n 2 i = if i < n ∧ T 2 i ≠ 0 ∧ T 2 i ≠ -1 ∧ T 2 i ≤ D then 0 else T 2 i := by
  unfold pasT
  by_cases q : i < n ∧ T 2 i ≠ 0 ∧ T 2 i ≠ -1 ∧ T 2 i ≤ D
  · rw [if_pos ⟨rfl, q⟩, if_pos q]
  · rw [if_neg (fun h => q h.2), if_neg q]
theorem inv_pass {np : Nat} {T U : MT} (h : Inv np T) {D P : Int} (hD : 0 ≤ D ∧ D ≤ 100000) (hP : psN T D 4096 = P) (g : ∀ r i, r ≠ 2 → r ≠ 10 → r ≠ 12 → r ≠ 0 → r ≠ 4 → U r i = T r i) (g0 : ∀ i, i ≠ 4 → i ≠ 5 → U 0 i = T 0 i) (g4 : ∀ i, i ≠ 0 → i ≠ 8 → i ≠ 9 → U 4 i = T 4 i) (h2 : ∀ i, U 2 i = if i < 4096 ∧ T 2 i ≠ 0 ∧ T 2 i ≠ -1 ∧ T 2 i ≤ D then 0 else T 2 i) (h10 : ∀ i, U 10 i = if i < 4096 ∧ 0 < T 10 i ∧ T 10 i ≤ D then 0 else T 10 i) (h05 : U 0 5 = D) (h49 : U 4 9 = D) (h04 : U 0 4 = T 0 4 - P) (h48 : U 4 8 = T 0 4 - P) : Inv np U := by
  have hA := h.2.1
  have hR := h.2.2.2.2.2.1
  have hL := h.2.2.2.2.2.2.2.1
  have hb : ∀ i, i < 4096 → -1 ≤ U 2 i ∧ U 2 i ≤ 200000 ∧ U 10 i = U 2 i := fun i hi => by
    have h3 := hA.2 i hi
    have h4 := hR.2.2.2 i hi
    rw [h2, h10, h4]
    by_cases q : i < 4096 ∧ T 2 i ≠ 0 ∧ T 2 i ≠ -1 ∧ T 2 i ≤ D
    · rw [if_pos q, if_pos (by omega)]; omega
    · rw [if_neg q, if_neg (by omega)]; omega
  have hl : T 0 4 - P = lnt (U 2) 0 4096 := by
    have e1 := lnt_pas T D 4096 4096 (Nat.le_refl _)
    rw [hP] at e1
    have e2 : lnt (U 2) 0 4096 = lnt (pasT T D 4096 2) 0 4096 := lnt_f (fun i _ _ => by rw [h2, pasT_2])
    rw [e2, e1]
    exact congrArg (fun z => z - P) hL
  have hW : Inv np (fun r i => if r = 4 ∧ i = 0 then T 4 0 else if r = 12 then T 12 i else U r i) := by
    refine inv_ends h (fun r i q1 q2 q3 q4 => ?_) (fun i hi => hb i hi) (h04.trans hl) (h48.trans h04.symm) (by show 0 ≤ U 0 5 ∧ U 0 5 ≤ 100000; omega) (h49.trans h05.symm)
    by_cases e1 : r = 4 ∧ i = 0
    · rw [if_pos e1, e1.1, e1.2]
    · by_cases e2 : r = 12
      · rw [if_neg e1, if_pos e2, e2]
      · rw [if_neg e1, if_neg e2]
        by_cases e3 : r = 0
        · subst e3; exact g0 i (by omega) (by omega)
        · by_cases e4 : r = 4
          · subst e4; exact g4 i (by omega) (by omega) (by omega)
          · exact g r i q1 q2 e2 e3 e4
  refine hW.same (fun r i q1 q2 q3 => ?_)
  rw [if_neg q1, if_neg q2]
theorem st_pass {l : Launch} {cs : CSt} {np : Nat} {ad : Nat → Nat} {T : MT} (hI : Inv np T) (a0 : Int) (ha0 : -2147483648 ≤ a0 ∧ a0 < 2147483648) : ∃ PRh : Option Value → St3 → Prop, KC l cs yL_pass (Cond.codeWith yL_pass cL_pass 4 (some .int) [(0, 9, 12, 15), (0, 9, 15, 17)] :: GW) 8 8 48 [.ref (ad 0), .int (zI a0), .ref (ad 12)] np ad T PRh (fun _ _ => False) ∧ ∀ v u, PRh v u → okP l cs yX2_pass (Cond.code yX2_pass cX2_pass 5 (some .int) :: GW) 1 [.int (zI a0)] ad (fun _ => True) v u := by
  have h13 := hI.n13
  have hM := hI.2.2.2.2.1
  have hA := hI.2.1
  have hA1 := hA.1
  have hR := hI.2.2.2.2.2.1
  have hpb := psN_bd T (T 0 5 + a0) 4096
  have hpm := psN_M hI (T 0 5 + a0)
  have K1 := k_X1_pass (l := l) (cs := cs) (ad := ad) h13 hA a0 ha0
  have K2 := k_X2_pass (l := l) (cs := cs) (ad := ad) h13 hM a0 ha0
  obtain ⟨D, hD⟩ : ∃ D, D = T 0 5 + a0 := ⟨_, rfl⟩
  rw [← hD] at hpb hpm K1
  rw [hR.1.2.2, ← hD, ← hpm] at K2
  have hps : ∀ n, psN T D n = psN T D n := fun _ => rfl
  obtain ⟨P, hP⟩ : ∃ P, P = psN T D 4096 := ⟨_, rfl⟩
  rw [← hP] at hpb hpm K1 K2
  have hx : exMp T a0 = if ¬ (1 ≤ a0 ∧ a0 ≤ 1000) then 1 else if 100000 < D then 2 else 0 := by
    unfold exMp
    rw [hR.1.2.2, ← hD]
  have hx1 : (if ¬ (1 ≤ a0 ∧ a0 ≤ 1000) then 2 else if 100000 - T 0 5 < a0 then 3 else 0 : Nat) = if ¬ (1 ≤ a0 ∧ a0 ≤ 1000) then 2 else if 100000 < D then 3 else 0 := by
    have q : (100000 - T 0 5 < a0) ↔ (100000 < D) := by omega
    simp only [q]
  rw [hx1] at K1
  have hex4 : (if ¬ (1 ≤ a0 ∧ a0 ≤ 1000) then 2 else if 100000 < D then 3 else 0 : Nat) = 0 ∨ (if ¬ (1 ≤ a0 ∧ a0 ≤ 1000) then 2 else if 100000 < D then 3 else 0 : Nat) = 2 ∨ (if ¬ (1 ≤ a0 ∧ a0 ≤ 1000) then 2 else if 100000 < D then 3 else 0 : Nat) = 3 := by
    by_cases q1 : 1 ≤ a0 ∧ a0 ≤ 1000
    · by_cases q2 : 100000 < D
      · simp [q1, q2]
      · simp [q1, q2]
    · simp [q1]
  refine ⟨_, k_L_pass h13 K1 (hWt_KD h13 (fun h0 => by omega)) hex4, st_KD hI (E := exMp T a0) (fun h0 => ?_) trivial K2 (fun h0 => ?_)⟩
  · rw [hx]
    by_cases q1 : 1 ≤ a0 ∧ a0 ≤ 1000
    · by_cases q2 : 100000 < D
      · simp [q1, q2]
      · simp [q1, q2] at h0
    · simp [q1]
  · have hd : 1 ≤ a0 ∧ a0 ≤ 1000 := Classical.byContradiction fun q => by rw [if_pos q] at h0; omega
    have hd2 : ¬ 100000 < D := fun q => by rw [if_neg (fun q => q hd), if_pos q] at h0; omega
    have hag : ag (mst (mst (mst (pasT T D 4096) 0 5 D) 0 4 (T 0 4 - P)) 12 0 P) T := ag_o (fun r i h1 h2 => by rw [mst_r (by omega), mst_r (by omega), pasT_r (Or.inl (by omega))])
    have K := k_X2_pass (l := l) (cs := cs) (ad := ad) h13 (hag.VM hM) a0 ha0
    generalize hTT : mst (mst (mst (pasT T D 4096) 0 5 D) 0 4 (T 0 4 - P)) 12 0 P = T' at hag K ⊢
    have hex : exMp T' a0 = 0 := by
      unfold exMp
      rw [hag 4 9 (by decide) (by decide), hR.1.2.2, ← hD, if_neg (fun q => q hd), if_neg hd2]
    rw [hex, if_pos rfl, if_pos rfl, hag 4 9 (by decide) (by decide), hag 4 8 (by decide) (by decide), hag.f (r := 10) (by decide) (by decide), hR.1.2.2, ← hD, ← hpm, hR.1.2.1] at K
    have hT0 : ∀ r i, r ≠ 2 → r ≠ 12 → r ≠ 0 → T' r i = T r i := fun r i q1 q2 q3 => by rw [← hTT, mst_r q2, mst_r q3, mst_r q3, pasT_r (Or.inl q1)]
    refine ⟨_, K, ⟨by omega, by omega, trivial⟩, ?_, ?_, ?_⟩
    · rw [mst_i (by decide), pasM_r (Or.inl (by decide)), mst_i (by decide), mst_eq]
    · rw [mst_r (by decide), pasM_r (Or.inl (by decide)), mst_r (by decide), mst_r (by decide), ← hTT, mst_eq]
    · refine inv_pass hI (D := D) (P := P) (by omega) hP.symm (fun r i q1 q2 q3 q4 q5 => ?_) (fun i q1 q2 => ?_) (fun i q1 q2 q3 => ?_) (fun i => ?_) (fun i => ?_) ?_ ?_ ?_ ?_
      · rw [mst_r q5, pasM_r (Or.inl q2), mst_r q5, mst_r q5, hT0 r i q1 q3 q4]
      · rw [mst_r (by decide), pasM_r (Or.inl (by decide)), mst_r (by decide), mst_r (by decide), ← hTT, mst_r (by decide), mst_i q1, mst_i q2, pasT_r (Or.inl (by decide))]
      · rw [mst_i q2, pasM_r (Or.inl (by decide)), mst_i q3, mst_i q1, hT0 4 i (by decide) (by decide) (by decide)]
      · rw [mst_r (by decide), pasM_r (Or.inl (by decide)), mst_r (by decide), mst_r (by decide), ← hTT, mst_r (by decide), mst_r (by decide), mst_r (by decide), pasT_2]
      · rw [mst_r (by decide), pasM_10, mst_r (by decide), mst_r (by decide), hT0 10 i (by decide) (by decide) (by decide)]
      · rw [mst_r (by decide), pasM_r (Or.inl (by decide)), mst_r (by decide), mst_r (by decide), ← hTT, mst_r (by decide), mst_i (by decide), mst_eq]
      · rw [mst_i (by decide), pasM_r (Or.inl (by decide)), mst_eq]
      · rw [mst_r (by decide), pasM_r (Or.inl (by decide)), mst_r (by decide), mst_r (by decide), ← hTT, mst_r (by decide), mst_eq]
      · rw [mst_eq]
