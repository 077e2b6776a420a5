theorem tri {np : Nat} {T : MT} (hI : Inv np T) (a : Int) {Cc Cm : Prop} [Decidable Cc] [Decidable Cm] (h : isS T a → (Cc ↔ Cm)) {ex : Nat} {E : Int} (hx : (if fsp T a < 0 then 1 else if Cc then 0 else 3 : Nat) = ex) (hE : (if ¬ isM T a then 1 else if Cm then 0 else 2 : Int) = E) : (ex = 0 ∨ ex = 1 ∨ ex = 3) ∧ (ex = 0 → isS T a ∧ Cc ∧ E = 0) ∧ (ex ≠ 0 → 1 ≤ (if ex = 1 then 1 else if ex = 3 then 2 else 0 : Int) ∧ (if ex = 1 then 1 else if ex = 3 then 2 else 0 : Int) ≤ 3 ∧ E = (if ex = 1 then 1 else if ex = 3 then 2 else 0 : Int)) := by
  by_cases h1 : isS T a
  · rw [if_neg (fun q => fsp_neg.mp q h1)] at hx
    rw [if_neg (fun q => q ((hI.isM a).mpr h1))] at hE
    by_cases h2 : Cc
    · rw [if_pos h2] at hx
      rw [if_pos ((h h1).mp h2)] at hE
      subst hx
      exact ⟨Or.inl rfl, fun _ => ⟨h1, h2, hE.symm⟩, fun q => absurd rfl q⟩
    · rw [if_neg h2] at hx
      rw [if_neg (fun q => h2 ((h h1).mpr q))] at hE
      subst hx; subst hE
      exact ⟨Or.inr (Or.inr rfl), fun q => absurd q (by decide), fun _ => by decide⟩
  · rw [if_pos (fsp_neg.mpr h1)] at hx
    rw [if_pos (fun q => h1 ((hI.isM a).mp q))] at hE
    subst hx; subst hE
    exact ⟨Or.inr (Or.inl rfl), fun q => absurd q (by decide), fun _ => by decide⟩
theorem pw_half {t : Int} (h : pw13 t) (h2 : t / 2 ≠ 0) : pw13 (t / 2) ∧ t = 2 * (t / 2) := by
  unfold pw13 at h ⊢
  rcases h with rfl | rfl | rfl | rfl | rfl | rfl | rfl | rfl | rfl | rfl | rfl | rfl | rfl <;> first | omega | decide
theorem halve_kids {np : Nat} {T : MT} (hI : Inv np T) {a : Int} (hs : isS T a) (h2 : T 16 a.toNat / 2 ≠ 0) (hc : cntC T a (T 15 a.toNat + T 16 a.toNat / 2) (T 16 a.toNat / 2) 60 ≤ 0) : ∀ j : Nat, j < 60 → T 1 j ≠ 0 → T 14 j = a → T 15 a.toNat ≤ T 15 j ∧ T 15 j + T 16 j ≤ T 15 a.toNat + T 16 a.toNat / 2 := by
  intro j hj h1 h3
  rw [cntC_eq] at hc
  have h4 := cnt_0 hc j hj h1 h3
  have h5 := hI.1.2 j hj
  have hb := hI.bd hs
  have h0 : j ≠ 0 := by
    rintro rfl
    have := hI.geo.1.2.2
    omega
  have h6 := hI.inp hj h1 h0
  rw [h3] at h6
  have h7 := pw_half (hI.geo.2.1 a.toNat (by omega) hs.2.2).1 h2
  omega
theorem st_halve {l : Launch} {cs : CSt} {np : Nat} {ad : Nat → Nat} {T : MT} (hI : Inv np T) (a0 : Int) (ha0 : -2147483648 ≤ a0 ∧ a0 < 2147483648) : ∃ PRh : Option Value → St3 → Prop, KC l cs yL_halve (Cond.codeWith yL_halve cL_halve 4 (some .int) [(0, 9, 12, 13), (0, 9, 15, 17)] :: GW) 8 8 48 [.ref (ad 0), .int (zI a0), .ref (ad 12)] np ad T PRh (fun _ _ => False) ∧ ∀ v u, PRh v u → okP l cs yX2_halve (Cond.code yX2_halve cX2_halve 3 (some .int) :: GW) 2 [.int (zI a0)] ad (fun _ => True) v u := by
  have h13 := hI.n13
  have hM := hI.2.2.2.2.1
  have hA := hI.2.1
  have hz : isS T a0 → T 16 a0.toNat = 1 ∨ T 16 a0.toNat % 2 = 0 := fun hs => by
    have h1 := (hI.geo.2.1 a0.toNat (by have := hs.1; have := hs.2.1; omega) hs.2.2).1
    unfold pw13 at h1; omega
  have hiff : isS T a0 → ((0 ≤ T 14 a0.toNat ∧ T 16 a0.toNat / 2 ≠ 0 ∧ cntC T a0 (T 15 a0.toNat + T 16 a0.toNat / 2) (T 16 a0.toNat / 2) 60 ≤ 0 ∧ lnt (T 2) (T 15 a0.toNat + T 16 a0.toNat / 2).toNat (T 16 a0.toNat / 2).toNat ≤ 0) ↔ hvM T a0) := fun hs => by
    have hb := hI.bd hs
    have he := hI.eqs hs
    have hp := hI.p0 hs
    have hl := lnt_bd (T 2) (T 15 a0.toNat + T 16 a0.toNat / 2).toNat (T 16 a0.toNat / 2).toNat
    have hcb := cntC_bd T a0 (T 15 a0.toNat + T 16 a0.toNat / 2) (T 16 a0.toNat / 2) 60
    unfold hvM
    rw [he.2.1, he.2.2.1, hI.cnt, hI.ln (by omega)]
    omega
  have K1 := k_X1_halve (l := l) (cs := cs) (ad := ad) hI.1 hA a0 ha0 hz
  generalize hx : (if fsp T a0 < 0 then 1 else if 0 ≤ T 14 a0.toNat ∧ T 16 a0.toNat / 2 ≠ 0 ∧ cntC T a0 (T 15 a0.toNat + T 16 a0.toNat / 2) (T 16 a0.toNat / 2) 60 ≤ 0 ∧ lnt (T 2) (T 15 a0.toNat + T 16 a0.toNat / 2).toNat (T 16 a0.toNat / 2).toNat ≤ 0 then 0 else 3 : Nat) = ex at K1
  obtain ⟨t1, t2, t3⟩ := tri hI a0 hiff hx (E := exMh T a0) rfl
  refine ⟨_, k_L_halve h13 K1 (hWt_KD h13 (fun h0 => ?_)) t1, st_KD hI (E := exMh T a0) t3 trivial (k_X2_halve h13 hM a0 ha0) (fun h0 => ?_)⟩
  · have := hI.bd (t2 h0).1; omega
  · obtain ⟨hs, hc, hx0⟩ := t2 h0
    have hb := hI.bd hs
    have he := hI.eqs hs
    have hg := hI.geo.2.1 a0.toNat (by omega) hs.2.2
    have hph := pw_half hg.1 hc.2.1
    have hne := (hI.p0 hs).mp hc.1
    have hin := hI.inp (j := a0.toNat) (by omega) hs.2.2 (by omega)
    have hag : ag (mst (mst (mst T 16 a0.toNat (T 16 a0.toNat / 2)) 0 7 0) 12 0 (T 16 a0.toNat / 2)) T := ag_o (fun r i h1 h2 => by rw [mst_r (by omega), mst_r (by omega)])
    have K := k_X2_halve (l := l) (cs := cs) (ad := ad) h13 (hag.VM hM) a0 ha0
    generalize hTT : mst (mst (mst T 16 a0.toNat (T 16 a0.toNat / 2)) 0 7 0) 12 0 (T 16 a0.toNat / 2) = T' at hag K ⊢
    have hex : exMh T' a0 = 0 := by
      refine Eq.trans ?_ hx0
      simp only [exMh, hvM, hag.isM, hag.cnt, hag.ln, hag.f (r := 5) (by decide) (by decide), hag.f (r := 6) (by decide) (by decide)]
    rw [hex, if_pos rfl, if_pos rfl, hag 6 a0.toNat (by decide) (by decide), he.2.2.1] at K
    refine ⟨_, K, ⟨by omega, by omega, trivial⟩, ?_, ?_, ?_⟩
    · rw [mst_r (by decide), mst_eq]
    · rw [mst_r (by decide), mst_r (by decide), ← hTT, mst_eq]
    · refine inv_size hI (a := a0) (B := T 15 a0.toNat) (S := T 16 a0.toNat / 2) hs hne hph.1 (emod_mul hg.2.1 (by rw [hph.2]; rw [Int.mul_ediv_cancel_left _ (by decide)]; exact Int.mul_emod_left _ _)) (by omega) (by omega) (halve_kids hI hs hc.2.1 hc.2.2.1) (fun j hj q1 q2 q3 => ?_) (fun r i q1 q2 q3 q4 => ?_) ?_ ?_ ?_ ?_ ?_
      · have := hI.geo.2.2 a0.toNat j (by omega) hj (fun q => q1 q.symm) hs.2.2 q2 q3.symm
        omega
      · rw [mst_ne (by omega), mst_ne q3, ← hTT, mst_r q4, mst_ne q2, mst_ne (by omega)]
      · rw [mst_r (by decide), mst_r (by decide), ← hTT, mst_r (by decide), mst_r (by decide), mst_r (by decide), he.2.1]
      · rw [mst_eq]
      · rw [mst_r (by decide), mst_r (by decide), ← hTT, mst_r (by decide), mst_r (by decide), mst_r (by decide)]
      · rw [mst_r (by decide), mst_r (by decide), ← hTT, mst_r (by decide), mst_r (by decide), mst_eq]
      · rw [mst_r (by decide), mst_r (by decide), ← hTT, mst_r (by decide), mst_eq]
