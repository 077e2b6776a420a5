theorem st_greatestFree {l : Launch} {cs : CSt} {np : Nat} {ad : Nat → Nat} {T : MT} (hI : Inv np T) (a0 : Int) (ha0 : -2147483648 ≤ a0 ∧ a0 < 2147483648) : ∃ PRh : Option Value → St3 → Prop, KC l cs yL_greatestFree (Cond.codeWith yL_greatestFree cL_greatestFree 4 (some .int) [(0, 9, 12, 13)] :: GW) 8 8 48 [.ref (ad 0), .int (zI a0), .ref (ad 12)] np ad T PRh (fun _ _ => False) ∧ ∀ v u, PRh v u → okP l cs yX2_greatestFree (Cond.code yX2_greatestFree cX2_greatestFree 4 (some .int) :: GW) 2 [.int (zI a0)] ad (fun _ => True) v u := by
  have h13 := hI.n13
  have hM := hI.2.2.2.2.1
  have hgb : isS T a0 → 0 ≤ gfC T a0 ∧ gfC T a0 ≤ 4096 := fun hs => by
    have hb := hI.bd hs
    have h1 := roomC_b2 T a0 (chB T a0 1 false)
    unfold gfC
    split
    · omega
    · split <;> omega
  refine ⟨_, k_L_greatestFree h13 (k_X1_greatestFree hI.1 a0 ha0) (hWt_KD h13 (fun h0 => ?_)) (by split <;> simp), ok_KD h13 (fun h0 => ?_) (fun h0 => ?_) (fun h0 => ?_)⟩
  · have hs : isS T a0 := Classical.byContradiction fun q => by rw [if_pos (fsp_neg.mpr q)] at h0; omega
    have := hgb hs
    omega
  · split at h0
    · rw [if_pos (if_pos (by assumption))]; decide
    · exact absurd rfl h0
  · have hs : isS T a0 := Classical.byContradiction fun q => by rw [if_pos (fsp_neg.mpr q)] at h0; omega
    have hI' := hI.o (gfC T a0)
    have hag : ag (mst T 12 0 (gfC T a0)) T := ag_o (fun r i _ _ => rfl)
    have K := k_X2_greatestFree (l := l) (cs := cs) (ad := ad) h13 hI'.2.2.2.2.1 a0 ha0
    refine KC.mono K ?_ (fun _ _ h => h)
    rintro v u ⟨r, U, rfl, hr, rfl⟩
    rcases hr with ⟨-, hgf, hr1, hr2, rfl⟩ | ⟨q, -⟩
    · have hgf2 : gfP T a0 r := by
        unfold gfP at hgf ⊢
        simp only [frM, liM, hag.cnt, hag 5 a0.toNat (by decide) (by decide), hag 6 a0.toNat (by decide) (by decide)] at hgf
        exact hgf
      have hwr := inv_gf hI hs hgf2
      refine ⟨r, _, rfl, ⟨by omega, by omega, trivial⟩, rfl, mst_eq _ _ _ _, ?_, hI'.th 0⟩
      rw [th_12]; exact hwr
    · exact absurd ((hI'.isM a0).mpr (isS_o.mpr hs)) q
  · have hs : ¬ isS T a0 := fsp_neg.mp (Classical.byContradiction fun q => by rw [if_neg q] at h0; omega)
    have K := k_X2_greatestFree (l := l) (cs := cs) (ad := ad) h13 hM a0 ha0
    refine KC.mono K ?_ (fun _ _ h => h)
    rintro v u ⟨r, U, rfl, hr, rfl⟩
    rcases hr with ⟨q, -⟩ | ⟨-, rfl, rfl⟩
    · exact absurd ((hI.isM a0).mp q) hs
    · refine ⟨0, _, rfl, ⟨by decide, by decide, trivial⟩, rfl, ?_, hI.th _⟩
      rw [mst_eq, if_pos (if_pos (fsp_neg.mpr hs))]
