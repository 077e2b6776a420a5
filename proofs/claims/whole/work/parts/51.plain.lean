/-! the steps: what is asked plainly -/
theorem st_base {l : Launch} {cs : CSt} {np : Nat} {ad : Nat → Nat} {T : MT} (hI : Inv np T) (a0 : Int) (ha0 : -2147483648 ≤ a0 ∧ a0 < 2147483648) : ∃ PRh : Option Value → St3 → Prop, KC l cs yL_base (Cond.codeWith yL_base cL_base 4 (some .int) [(0, 9, 12, 13)] :: GW) 8 8 48 [.ref (ad 0), .int (zI a0), .ref (ad 12)] np ad T PRh (fun _ _ => False) ∧ ∀ v u, PRh v u → okP l cs yX2_base (Cond.code yX2_base cX2_base 2 (some .int) :: GW) 2 [.int (zI a0)] ad (fun _ => True) v u := by
  have h13 := hI.n13
  refine ⟨_, k_L_base h13 (k_X1_base hI.1 a0 ha0) (hWt_KD h13 (fun h0 => ?_)) ?_, ok_KD h13 (fun h0 => ?_) (fun h0 => ?_) (fun h0 => ?_)⟩
  · have hs : isS T a0 := Classical.byContradiction fun q => by rw [if_pos (fsp_neg.mpr q)] at h0; omega
    have := hI.bd hs
    omega
  · split <;> simp
  · split at h0
    · rw [if_pos (if_pos (by assumption))]; decide
    · exact absurd rfl h0
  · have hs : isS T a0 := Classical.byContradiction fun q => by rw [if_pos (fsp_neg.mpr q)] at h0; omega
    have hb := hI.bd hs
    have he := hI.eqs hs
    have hI' := hI.o (T 15 a0.toNat)
    have K := k_X2_base (l := l) (cs := cs) (ad := ad) h13 hI'.2.2.2.2.1 a0 ha0
    rw [if_pos ((hI'.isM a0).mpr (isS_o.mpr hs)), if_pos ((hI'.isM a0).mpr (isS_o.mpr hs)), mst_r (by decide)] at K
    exact mk_KD K ⟨_, _, rfl, ⟨by omega, by omega, trivial⟩, rfl, mst_eq _ _ _ _, by rw [th_12]; omega, hI'.th 0⟩
  · have hs : ¬ isS T a0 := fsp_neg.mp (Classical.byContradiction fun q => by rw [if_neg q] at h0; omega)
    have K := k_X2_base (l := l) (cs := cs) (ad := ad) h13 hI.2.2.2.2.1 a0 ha0
    rw [if_neg (fun q => hs ((hI.isM a0).mp q)), if_neg (fun q => hs ((hI.isM a0).mp q))] at K
    refine mk_KD K ⟨_, _, rfl, ⟨by decide, by decide, trivial⟩, rfl, ?_, hI.th 1⟩
    rw [mst_eq, if_pos (if_pos (fsp_neg.mpr hs))]

theorem st_size {l : Launch} {cs : CSt} {np : Nat} {ad : Nat → Nat} {T : MT} (hI : Inv np T) (a0 : Int) (ha0 : -2147483648 ≤ a0 ∧ a0 < 2147483648) : ∃ PRh : Option Value → St3 → Prop, KC l cs yL_size (Cond.codeWith yL_size cL_size 4 (some .int) [(0, 9, 12, 13)] :: GW) 8 8 48 [.ref (ad 0), .int (zI a0), .ref (ad 12)] np ad T PRh (fun _ _ => False) ∧ ∀ v u, PRh v u → okP l cs yX2_size (Cond.code yX2_size cX2_size 2 (some .int) :: GW) 2 [.int (zI a0)] ad (fun _ => True) v u := by
  have h13 := hI.n13
  refine ⟨_, k_L_size h13 (k_X1_size hI.1 a0 ha0) (hWt_KD h13 (fun h0 => ?_)) ?_, ok_KD h13 (fun h0 => ?_) (fun h0 => ?_) (fun h0 => ?_)⟩
  · have hs : isS T a0 := Classical.byContradiction fun q => by rw [if_pos (fsp_neg.mpr q)] at h0; omega
    have := hI.bd hs
    omega
  · split <;> simp
  · split at h0
    · rw [if_pos (if_pos (by assumption))]; decide
    · exact absurd rfl h0
  · have hs : isS T a0 := Classical.byContradiction fun q => by rw [if_pos (fsp_neg.mpr q)] at h0; omega
    have hb := hI.bd hs
    have he := hI.eqs hs
    have hI' := hI.o (T 16 a0.toNat)
    have K := k_X2_size (l := l) (cs := cs) (ad := ad) h13 hI'.2.2.2.2.1 a0 ha0
    rw [if_pos ((hI'.isM a0).mpr (isS_o.mpr hs)), if_pos ((hI'.isM a0).mpr (isS_o.mpr hs)), mst_r (by decide)] at K
    exact mk_KD K ⟨_, _, rfl, ⟨by omega, by omega, trivial⟩, rfl, mst_eq _ _ _ _, by rw [th_12]; omega, hI'.th 0⟩
  · have hs : ¬ isS T a0 := fsp_neg.mp (Classical.byContradiction fun q => by rw [if_neg q] at h0; omega)
    have K := k_X2_size (l := l) (cs := cs) (ad := ad) h13 hI.2.2.2.2.1 a0 ha0
    rw [if_neg (fun q => hs ((hI.isM a0).mp q)), if_neg (fun q => hs ((hI.isM a0).mp q))] at K
    refine mk_KD K ⟨_, _, rfl, ⟨by decide, by decide, trivial⟩, rfl, ?_, hI.th 1⟩
    rw [mst_eq, if_pos (if_pos (fsp_neg.mpr hs))]

theorem st_parent {l : Launch} {cs : CSt} {np : Nat} {ad : Nat → Nat} {T : MT} (hI : Inv np T) (a0 : Int) (ha0 : -2147483648 ≤ a0 ∧ a0 < 2147483648) : ∃ PRh : Option Value → St3 → Prop, KC l cs yL_parent (Cond.codeWith yL_parent cL_parent 4 (some .int) [(0, 9, 12, 13)] :: GW) 8 8 48 [.ref (ad 0), .int (zI a0), .ref (ad 12)] np ad T PRh (fun _ _ => False) ∧ ∀ v u, PRh v u → okP l cs yX2_parent (Cond.code yX2_parent cX2_parent 2 (some .int) :: GW) 2 [.int (zI a0)] ad (fun _ => True) v u := by
  have h13 := hI.n13
  refine ⟨_, k_L_parent h13 (k_X1_parent hI.1 hI.2.2.2.1 a0 ha0) (hWt_KD h13 (fun h0 => ?_)) ?_, ok_KD h13 (fun h0 => ?_) (fun h0 => ?_) (fun h0 => ?_)⟩
  · have hs : isS T a0 := Classical.byContradiction fun q => by rw [if_pos (fsp_neg.mpr q)] at h0; omega
    have := hI.bd hs
    omega
  · split <;> simp
  · split at h0
    · rw [if_pos (if_pos (by assumption))]; decide
    · exact absurd rfl h0
  · have hs : isS T a0 := Classical.byContradiction fun q => by rw [if_pos (fsp_neg.mpr q)] at h0; omega
    have hb := hI.bd hs
    have he := hI.eqs hs
    have hI' := hI.o (T 14 a0.toNat)
    have K := k_X2_parent (l := l) (cs := cs) (ad := ad) h13 hI'.2.2.2.2.1 a0 ha0
    rw [if_pos ((hI'.isM a0).mpr (isS_o.mpr hs)), if_pos ((hI'.isM a0).mpr (isS_o.mpr hs)), mst_r (by decide)] at K
    exact mk_KD K ⟨_, _, rfl, ⟨by omega, by omega, trivial⟩, rfl, mst_eq _ _ _ _, by rw [th_12]; omega, hI'.th 0⟩
  · have hs : ¬ isS T a0 := fsp_neg.mp (Classical.byContradiction fun q => by rw [if_neg q] at h0; omega)
    have K := k_X2_parent (l := l) (cs := cs) (ad := ad) h13 hI.2.2.2.2.1 a0 ha0
    rw [if_neg (fun q => hs ((hI.isM a0).mp q)), if_neg (fun q => hs ((hI.isM a0).mp q))] at K
    refine mk_KD K ⟨_, _, rfl, ⟨by decide, by decide, trivial⟩, rfl, ?_, hI.th 1⟩
    rw [mst_eq, if_pos (if_pos (fsp_neg.mpr hs))]

theorem st_day {l : Launch} {cs : CSt} {np : Nat} {ad : Nat → Nat} {T : MT} (hI : Inv np T)  : ∃ (w : Int) (U : MT), KD l cs yX1_day (Cond.code yX1_day cX1_day 1 (some .int) :: GW) 7 8 48 [.ref (ad 0)] np ad T 0 (some (.int (zI w))) (np, ad, T) ∧ KD l cs yX2_day (Cond.code yX2_day cX2_day 1 (some .int) :: GW) 0 0 0 [.ref (ad 4)] np ad T 0 (some (.int (zI w))) (np, ad, U) ∧ (-2147483648 ≤ w ∧ w < 2147483648) ∧ Inv np U := by
  have hA := hI.2.1.1
  have hR := hI.2.2.2.2.2.1.1
  have K := k_X2_day (l := l) (cs := cs) (ad := ad) (T := T) hI.n13
  rw [hR.2.2] at K
  exact ⟨T 0 5, _, k_X1_day hI.n13, K, by omega, hI.th 0⟩

theorem st_lent {l : Launch} {cs : CSt} {np : Nat} {ad : Nat → Nat} {T : MT} (hI : Inv np T)  : ∃ (w : Int) (U : MT), KD l cs yX1_lent (Cond.code yX1_lent cX1_lent 1 (some .int) :: GW) 7 8 48 [.ref (ad 0)] np ad T 0 (some (.int (zI w))) (np, ad, T) ∧ KD l cs yX2_lent (Cond.code yX2_lent cX2_lent 1 (some .int) :: GW) 0 0 0 [.ref (ad 4)] np ad T 0 (some (.int (zI w))) (np, ad, U) ∧ (-2147483648 ≤ w ∧ w < 2147483648) ∧ Inv np U := by
  have hA := hI.2.1.1
  have hR := hI.2.2.2.2.2.1.1
  have K := k_X2_lent (l := l) (cs := cs) (ad := ad) (T := T) hI.n13
  rw [hR.2.1] at K
  exact ⟨T 0 4, _, k_X1_lent hI.n13, K, by omega, hI.th 0⟩

theorem st_isThere {l : Launch} {cs : CSt} {np : Nat} {ad : Nat → Nat} {T : MT} (hI : Inv np T) (a0 : Int) (ha0 : -2147483648 ≤ a0 ∧ a0 < 2147483648) : ∃ (w : Int) (U : MT), KD l cs yX1_isThere (Cond.code yX1_isThere cX1_isThere 2 (some .boolean) :: GW) 7 8 48 [.ref (ad 0), .int (zI a0)] np ad T 0 (some (.int (zI w))) (np, ad, T) ∧ KD l cs yX2_isThere (Cond.code yX2_isThere cX2_isThere 2 (some .boolean) :: GW) 2 0 0 [.ref (ad 4), .int (zI a0)] np ad T 0 (some (.int (zI w))) (np, ad, U) ∧ (-2147483648 ≤ w ∧ w < 2147483648) ∧ Inv np U := by
  have K := k_X2_isThere (l := l) (cs := cs) (ad := ad) (T := T) hI.n13 hI.2.2.2.2.1 a0 ha0
  have K1 := k_X1_isThere (l := l) (cs := cs) (ad := ad) (T := T) hI.n13 a0 ha0
  have e1 : bz (isM T a0) = if fsp T a0 < 0 then 0 else 1 := by
    by_cases h : isS T a0
    · rw [bz_t ((hI.isM a0).mpr h), if_neg (fun q => fsp_neg.mp q h)]
    · rw [bz_f (fun q => h ((hI.isM a0).mp q)), if_pos (fsp_neg.mpr h)]
  rw [e1] at K
  exact ⟨_, _, K1, K, by split <;> omega, hI.th 0⟩

theorem spN_f {f g : Nat → Int} {n : Nat} (he : ∀ i, i < n → f i = g i) : spN f n = spN g n := by
  induction n with
  | zero => rfl
  | succ n ih =>
    show _ + _ = _ + _
    rw [ih (fun i h => he i (by omega)), he n (by omega)]
theorem spN_bd (f : Nat → Int) (n : Nat) : 0 ≤ spN f n ∧ spN f n ≤ n := by
  induction n with
  | zero => exact ⟨Int.le_refl 0, Int.le_refl 0⟩
  | succ n ih =>
    unfold spN
    split <;> omega

theorem st_spans {l : Launch} {cs : CSt} {np : Nat} {ad : Nat → Nat} {T : MT} (hI : Inv np T)  : ∃ (w : Int) (U : MT), KD l cs yX1_spans (Cond.code yX1_spans cX1_spans 6 (some .int) :: GW) 7 8 48 [.ref (ad 0)] np ad T 0 (some (.int (zI w))) (np, ad, T) ∧ KD l cs yX2_spans (Cond.code yX2_spans cX2_spans 3 (some .int) :: GW) 0 0 0 [.ref (ad 4)] np ad T 0 (some (.int (zI w))) (np, ad, U) ∧ (-2147483648 ≤ w ∧ w < 2147483648) ∧ Inv np U := by
  have K := k_X2_spans (l := l) (cs := cs) (ad := ad) (T := T) hI.n13 hI.2.2.2.2.1
  rw [spN_f (g := T 1) (fun i h => hI.2.2.2.2.2.1.2.1 i h)] at K
  have hb := spN_bd (T 1) 60
  exact ⟨_, _, k_X1_spans hI.1, K, ⟨Int.le_trans (by decide) hb.1, Int.lt_of_le_of_lt hb.2 (by decide)⟩, hI.th 0⟩

theorem st_isLent {l : Launch} {cs : CSt} {np : Nat} {ad : Nat → Nat} {T : MT} (hI : Inv np T) (a0 : Int) (ha0 : -2147483648 ≤ a0 ∧ a0 < 2147483648) : ∃ PRh : Option Value → St3 → Prop, KC l cs yL_isLent (Cond.codeWith yL_isLent cL_isLent 4 (some .int) [(0, 16, 19, 13)] :: GW) 8 8 48 [.ref (ad 0), .int (zI a0), .ref (ad 12)] np ad T PRh (fun _ _ => False) ∧ ∀ v u, PRh v u → okP l cs yX2_isLent (Cond.code yX2_isLent cX2_isLent 2 (some .boolean) :: GW) 2 [.int (zI a0)] ad (fun r => r = 0 ∨ r = 1) v u := by
  have h13 := hI.n13
  have hR := hI.2.2.2.2.2.1
  refine ⟨_, k_L_isLent h13 (k_X1_isLent h13 hI.2.1 a0 ha0) (hWt_KD h13 (fun h0 => by split <;> omega)) (fun v u h => by split <;> simp) (by unfold exq; split <;> simp), ok_KD h13 (fun h0 => ?_) (fun h0 => ?_) (fun h0 => ?_)⟩
  · rw [exq_f (exq_ne h0)]; decide
  · have hs := exq_eq h0 (by decide)
    have hI' := hI.o (if T 2 a0.toNat = 0 then 0 else 1)
    have K := k_X2_isLent (l := l) (cs := cs) (ad := ad) h13 hI'.2.2.2.2.1 a0 ha0
    have e1 := hR.2.2.2 a0.toNat (by omega)
    have e2 : bz ((0 ≤ a0 ∧ a0 < 4096) ∧ mst T 12 0 (if T 2 a0.toNat = 0 then 0 else 1) 10 a0.toNat ≠ 0) = if T 2 a0.toNat = 0 then 0 else 1 := by
      rw [mst_r (by decide), e1]
      by_cases h : T 2 a0.toNat = 0
      · rw [if_pos h, bz_f (fun q => q.2 h)]
      · rw [if_neg h, bz_t ⟨hs, h⟩]
    rw [if_pos hs, e2] at K
    exact mk_KD K ⟨_, _, rfl, ⟨by split <;> omega, by split <;> omega, by split <;> simp⟩, rfl, mst_eq _ _ _ _, by rw [th_12], hI'.th 0⟩
  · have hs := exq_ne h0
    have K := k_X2_isLent (l := l) (cs := cs) (ad := ad) h13 hI.2.2.2.2.1 a0 ha0
    rw [if_neg hs, bz_f (fun q => hs q.1)] at K
    refine mk_KD K ⟨_, _, rfl, ⟨by decide, by decide, Or.inl rfl⟩, rfl, ?_, hI.th 1⟩
    rw [mst_eq, exq_f hs]; rfl
