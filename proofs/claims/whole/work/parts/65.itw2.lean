theorem itI_bd (T : MT) (x S : Int) (n : Nat) : 0 ≤ (itI T x S n).1 ∧ (itI T x S n).1 ≤ 60 := by
  induction n with
  | zero => exact ⟨(by decide : (0 : Int) ≤ 60), (by decide : (60 : Int) ≤ 60)⟩
  | succ n ih =>
    show 0 ≤ (itS T x S (itI T x S n)).1 ∧ (itS T x S (itI T x S n)).1 ≤ 60
    generalize itI T x S n = u at ih ⊢
    unfold itS
    split
    · exact ih
    · have := cntC_bd T x u.2 S 60
      show 0 ≤ min u.1 (cntC T x u.2 S 60) ∧ min u.1 (cntC T x u.2 S 60) ≤ 60
      omega
theorem itw_bd (T : MT) (x S : Int) : 0 ≤ itwC T x S ∧ itwC T x S ≤ 60 := by
  have h := itI_bd T x S 4096
  rw [itwC_eq]
  exact h
theorem st_inTheWay {l : Launch} {cs : CSt} {np : Nat} {ad : Nat → Nat} {T : MT} (hI : Inv np T) (a0 a1 : Int) (ha0 : -2147483648 ≤ a0 ∧ a0 < 2147483648) (ha1 : -2147483648 ≤ a1 ∧ a1 < 2147483648) : ∃ PRh : Option Value → St3 → Prop, KC l cs yL_inTheWay (Cond.codeWith yL_inTheWay cL_inTheWay 5 (some .int) [(0, 10, 13, 13), (0, 10, 17, 15)] :: GW) 8 8 48 [.ref (ad 0), .int (zI a0), .int (zI a1), .ref (ad 12)] np ad T PRh (fun _ _ => False) ∧ ∀ v u, PRh v u → okP l cs yX2_inTheWay (Cond.code yX2_inTheWay cX2_inTheWay 6 (some .int) :: GW) 2 [.int (zI a0), .int (zI a1)] ad (fun _ => True) v u := by
  have h13 := hI.n13
  have hM := hI.2.2.2.2.1
  have K1 := k_X1_inTheWay (l := l) (cs := cs) (ad := ad) hI.1 a0 a1 ha0 ha1
  have hcase : (¬ isS T a0 ∧ (if fsp T a0 < 0 then 1 else if szp a1 then 0 else 2 : Nat) = 1) ∨ (isS T a0 ∧ ¬ szp a1 ∧ (if fsp T a0 < 0 then 1 else if szp a1 then 0 else 2 : Nat) = 2) ∨ (isS T a0 ∧ szp a1 ∧ (if fsp T a0 < 0 then 1 else if szp a1 then 0 else 2 : Nat) = 0) := by
    by_cases h1 : isS T a0
    · rw [if_neg (fun q => fsp_neg.mp q h1)]
      by_cases h2 : szp a1
      · right; right; exact ⟨h1, h2, if_pos h2⟩
      · right; left; exact ⟨h1, h2, if_neg h2⟩
    · left; exact ⟨h1, if_pos (fsp_neg.mpr h1)⟩
  generalize (if fsp T a0 < 0 then 1 else if szp a1 then 0 else 2 : Nat) = ex at hcase K1
  have hib := itw_bd T a0 a1
  have hwb : -1 ≤ (if a1 < T 16 a0.toNat then itwC T a0 a1 else -1) ∧ (if a1 < T 16 a0.toNat then itwC T a0 a1 else -1) ≤ 60 := by split <;> omega
  refine ⟨_, k_L_inTheWay h13 K1 (hWt_KD h13 (fun h0 => by omega)) (by rcases hcase with ⟨-, q⟩ | ⟨-, -, q⟩ | ⟨-, -, q⟩ <;> omega), ok_KD h13 (fun h0 => ?_) (fun h0 => ?_) (fun h0 => ?_)⟩
  · rcases hcase with ⟨-, rfl⟩ | ⟨-, -, rfl⟩ | ⟨-, -, q⟩
    · decide
    · decide
    · exact absurd q h0
  · obtain ⟨hs, hS⟩ : isS T a0 ∧ szp a1 := by
      rcases hcase with ⟨-, q⟩ | ⟨-, -, q⟩ | ⟨q1, q2, -⟩
      · omega
      · omega
      · exact ⟨q1, q2⟩
    have he := hI.eqs hs
    have hI' := hI.o (if a1 < T 16 a0.toNat then itwC T a0 a1 else -1)
    have hag : ag (mst T 12 0 (if a1 < T 16 a0.toNat then itwC T a0 a1 else -1)) T := ag_o (fun r i _ _ => rfl)
    have K := k_X2_inTheWay (l := l) (cs := cs) (ad := ad) h13 hI'.2.2.2.2.1 a0 a1 ha0 ha1
    refine KC.mono K ?_ (fun _ _ h => h)
    rintro v u ⟨r, U, rfl, hr, rfl⟩
    rcases hr with ⟨-, -, hiw, hr1, hr2, rfl⟩ | ⟨q, -⟩
    · have hwr : (if a1 < T 16 a0.toNat then itwC T a0 a1 else -1) = r := by
        unfold iwP at hiw
        simp only [hag.cnt, hag 5 a0.toNat (by decide) (by decide), hag 6 a0.toNat (by decide) (by decide), he.2.1, he.2.2.1, hI.cnt] at hiw
        rcases hiw with ⟨q1, q2⟩ | ⟨q1, q2, q3⟩
        · rw [if_neg (by omega), q2]
        · rw [if_pos q1]
          exact hI.itw hs hS q1 q2 q3
      refine ⟨r, _, rfl, ⟨by omega, by omega, trivial⟩, rfl, mst_eq _ _ _ _, ?_, hI'.th 0⟩
      rw [th_12]; exact hwr
    · exact absurd ⟨(hI'.isM a0).mpr (isS_o.mpr hs), hS⟩ q
  · have K := k_X2_inTheWay (l := l) (cs := cs) (ad := ad) h13 hM a0 a1 ha0 ha1
    refine KC.mono K ?_ (fun _ _ h => h)
    rintro v u ⟨r, U, rfl, hr, rfl⟩
    have hi := hI.isM a0
    rcases hr with ⟨q1, q2, -⟩ | ⟨-, rfl, rfl⟩
    · rcases hcase with ⟨q, -⟩ | ⟨-, q, -⟩ | ⟨-, -, q⟩
      · exact absurd (hi.mp q1) q
      · exact absurd q2 q
      · exact absurd q h0
    · refine ⟨0, _, rfl, ⟨by decide, by decide, trivial⟩, rfl, ?_, hI.th _⟩
      rw [mst_eq]
      rcases hcase with ⟨q, rfl⟩ | ⟨q, -, rfl⟩ | ⟨-, -, q⟩
      · rw [if_neg (fun q2 => q (hi.mp q2))]; rfl
      · rw [if_pos (hi.mpr q)]; rfl
      · exact absurd q h0
