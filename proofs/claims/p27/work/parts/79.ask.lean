/-! the greatest free block, and what is in the way -/
theorem cnt_mono {h q b z : Nat → Int} {x B S B' S' : Int} (h1 : B ≤ B') (h2 : B' + S' ≤ B + S) (n : Nat) : cnt h q b z x B' S' n ≤ cnt h q b z x B S n := by
  induction n with
  | zero => exact Int.le_refl _
  | succ n ih =>
    show _ + ite _ _ _ ≤ _ + ite _ _ _
    by_cases c : h n ≠ 0 ∧ q n = x ∧ b n < B' + S' ∧ B' < b n + z n
    · rw [if_pos c, if_pos ⟨c.1, c.2.1, by omega, by omega⟩]
      exact Int.add_le_add_right ih 1
    · rw [if_neg c, Int.add_zero]
      refine Int.le_trans ih ?_
      split
      · exact Int.le_add_of_nonneg_right (by decide)
      · rw [Int.add_zero]; exact Int.le_refl _
theorem min_ex (f : Nat → Int) (P : Nat → Prop) (n : Nat) : (∃ k, k < n ∧ P k) → ∃ k, k < n ∧ P k ∧ ∀ k', k' < n → P k' → f k ≤ f k' := by
  induction n with
  | zero => rintro ⟨k, hk, -⟩; omega
  | succ n ih =>
    intro hex
    by_cases c : ∃ k, k < n ∧ P k
    · obtain ⟨k, k1, k2, k3⟩ := ih c
      by_cases c2 : P n ∧ f n < f k
      · refine ⟨n, by omega, c2.1, fun k' h1 h2 => ?_⟩
        by_cases e : k' = n
        · subst e; exact Int.le_refl _
        · have := k3 k' (by omega) h2; omega
      · refine ⟨k, by omega, k2, fun k' h1 h2 => ?_⟩
        by_cases e : k' = n
        · subst e; exact Classical.byContradiction fun q => c2 ⟨h2, by omega⟩
        · exact k3 k' (by omega) h2
    · obtain ⟨k, k1, k2⟩ := hex
      have e : k = n := Classical.byContradiction fun q => c ⟨k, by omega, k2⟩
      subst e
      refine ⟨k, by omega, k2, fun k' h1 h2 => ?_⟩
      have e : k' = k := Classical.byContradiction fun q => c ⟨k', by omega, h2⟩
      subst e
      exact Int.le_refl _
theorem Inv.itx {np : Nat} {T : MT} (h : Inv np T) {x S : Int} (hs : isS T x) (hS : szp S) (hlt : S < T 16 x.toNat) : ∃ k : Nat, (k : Int) * S < T 16 x.toNat ∧ itwC T x S = cntC T x (T 15 x.toNat + k * S) S 60 ∧ ∀ k' : Nat, (k' : Int) * S < T 16 x.toNat → itwC T x S ≤ cntC T x (T 15 x.toNat + k' * S) S 60 := by
  have hb := h.bd hs
  have hSb := pw13_b (szp_pw hS)
  obtain ⟨k, -, k2, k3⟩ := min_ex (fun k => cntC T x (T 15 x.toNat + k * S) S 60) (fun k => (k : Int) * S < T 16 x.toNat) 4097 ⟨0, by omega, by rw [Int.natCast_zero, Int.zero_mul]; omega⟩
  have k4 : ∀ k' : Nat, (k' : Int) * S < T 16 x.toNat → cntC T x (T 15 x.toNat + k * S) S 60 ≤ cntC T x (T 15 x.toNat + k' * S) S 60 := fun k' hk' => by
    refine k3 k' ?_ hk'
    have h1 : (k' : Int) * 1 ≤ (k' : Int) * S := Int.mul_le_mul_of_nonneg_left (by omega) (by omega)
    rw [Int.mul_one] at h1
    omega
  have e := h.itw hs hS hlt k4 ⟨k, k2, rfl⟩
  exact ⟨k, k2, e, fun k' hk' => by rw [e]; exact k4 k' hk'⟩
theorem inv_gf_fr {np : Nat} {T : MT} (h : Inv np T) {x : Int} (hs : isS T x) : (0 ≤ gfC T x ∧ gfC T x < T 16 x.toNat) ∧ ∀ S, pw13 S → S < T 16 x.toNat → ((∃ p, frB T x p S) ↔ S ≤ gfC T x) := by
  have hb := h.bd hs
  have hg := h.geo.2.1 x.toNat (by omega) hs.2.2
  unfold gfC
  rcases h.chB (S := 1) false hs with ⟨h1, h2⟩ | ⟨h1, h2, h3⟩
  · rw [if_pos h1]
    refine ⟨by omega, fun S hS hlt => ⟨fun ⟨p, hp⟩ => ?_, fun q => ?_⟩⟩
    · obtain ⟨p2, s2, w1, w2⟩ := fr_wh 4096 p S (by have := pw13_b hS; omega) hp
      have := h2 p2 s2 w1
      have := pw13_b w1.1.1
      omega
    · have := pw13_b hS; omega
  · have hne : chB T x 1 false ≠ -1 := fun q => by
      rw [q] at h1
      have := h1.1.2.2.1
      omega
    rw [if_neg hne]
    generalize chB T x 1 false = c at h1 h2 h3 ⊢
    generalize roomC T x c = z at h1 h2 h3 ⊢
    obtain ⟨⟨q1, q2, q3, q4, q5⟩, -⟩ := h1
    have hzb := pw13_b q1
    have mx : ∀ p s, whB T x p s → s ≤ z := fun p s hw => by
      have h4 := h3 p s hw (pw13_b hw.1.1).1
      rw [if_neg (by decide)] at h4
      omega
    have sub : ∀ S, pw13 S → S ≤ z → frB T x c S := fun S hS hSz => by
      refine ⟨hS, emod_mul q2 (pw_dvd hS q1 hSz), q3, by have := pw13_b hS; omega, ?_⟩
      have h5 := cnt_mono (h := T 1) (q := T 14) (b := T 15) (z := T 16) (x := x) (B := c) (S := z) (B' := c) (S' := S) (Int.le_refl _) (by omega) 60
      rw [← cntC_eq, ← cntC_eq, q5] at h5
      have h6 := cntC_bd T x c S 60
      omega
    by_cases c2 : z < T 16 x.toNat
    · rw [if_pos c2]
      refine ⟨by omega, fun S hS hlt => ⟨fun ⟨p, hp⟩ => ?_, fun q => ⟨c, sub S hS q⟩⟩⟩
      obtain ⟨p2, s2, w1, w2⟩ := fr_wh 4096 p S (by have := pw13_b hS; omega) hp
      have := mx p2 s2 w1
      omega
    · rw [if_neg c2]
      refine ⟨by omega, fun S hS hlt => ⟨fun _ => ?_, fun q => ⟨c, sub S hS (by omega)⟩⟩⟩
      have hd := pw_dbl hS hg.1 hlt
      omega
theorem Inv.itw0 {np : Nat} {T : MT} (h : Inv np T) {x S : Int} (hs : isS T x) (hS : szp S) (hlt : S < T 16 x.toNat) : itwC T x S = 0 ↔ S ≤ gfC T x := by
  have hb := h.bd hs
  have hSp := szp_pw hS
  have hSb := pw13_b hSp
  have hg := h.geo.2.1 x.toNat (by omega) hs.2.2
  have hd := pw_dvd hSp hg.1 (by omega)
  have hm := emod_mul hg.2.1 hd
  have hib := itw_bd T x S
  obtain ⟨k, k1, k2, k3⟩ := h.itx hs hS hlt
  rw [← (inv_gf_fr h hs).2 S hSp hlt]
  constructor
  · intro q
    rw [k2] at q
    have hk0 : 0 ≤ (k : Int) * S := Int.mul_nonneg (by omega) (by omega)
    have hal : (T 15 x.toNat + k * S) % S = 0 := by rw [Int.add_mul_emod_self_right]; exact hm
    exact ⟨_, hSp, hal, by omega, h.blk hs hSp (by omega) hal ⟨by omega, by omega⟩, q⟩
  · rintro ⟨p, hp⟩
    obtain ⟨k', e1, e2, -⟩ := h.grid hs hp
    have h1 := k3 k' e2
    rw [← e1, hp.2.2.2.2] at h1
    omega
theorem Inv.itwm {np : Nat} {T : MT} (h : Inv np T) {x S : Int} (hs : isS T x) (hS : szp S) (hS2 : szp (2 * S)) (hlt : 2 * S < T 16 x.toNat) : itwC T x S ≤ itwC T x (2 * S) := by
  have hSb := pw13_b (szp_pw hS)
  obtain ⟨k, k1, k2, -⟩ := h.itx hs hS2 hlt
  obtain ⟨-, -, -, j3⟩ := h.itx hs hS (by omega)
  have e : ((2 * k : Nat) : Int) * S = k * (2 * S) := by
    rw [show ((2 * k : Nat) : Int) = k * 2 by omega, Int.mul_assoc]
  have h1 := j3 (2 * k) (by rw [e]; exact k1)
  rw [e] at h1
  rw [k2]
  refine Int.le_trans h1 ?_
  rw [cntC_eq, cntC_eq]
  exact cnt_mono (Int.le_refl _) (by omega) 60
/-! the class's answers at a span that is there -/
section
variable {l : Launch} {cs : CSt} {np : Nat} {ad : Nat → Nat} {T : MT}
theorem isS_r {T : MT} {a : Int} (h : isS T a) : -2147483648 ≤ a ∧ a < 2147483648 := by have := h.1; have := h.2.1; omega
theorem fsp_no {T : MT} {a : Int} (h : isS T a) : ¬ fsp T a < 0 := fun q => fsp_neg.mp q h
theorem q_there (hI : Inv np T) (a : Int) (ha : -2147483648 ≤ a ∧ a < 2147483648) (hs : isS T a) : KD l cs yX1_isThere (Cond.code yX1_isThere cX1_isThere 2 (some .boolean) :: GW) 7 0 0 [.ref (ad 0), .int (zI a)] np ad T 0 (some (.int (zI 1))) (np, ad, T) := by
  have K := k_X1_isThere (l := l) (cs := cs) (ad := ad) (T := T) hI.n13 a ha
  rw [if_neg (fsp_no hs)] at K
  exact K
theorem q_gone (hI : Inv np T) (a : Int) (ha : -2147483648 ≤ a ∧ a < 2147483648) (hs : ¬ isS T a) : KD l cs yX1_isThere (Cond.code yX1_isThere cX1_isThere 2 (some .boolean) :: GW) 7 0 0 [.ref (ad 0), .int (zI a)] np ad T 0 (some (.int (zI 0))) (np, ad, T) := by
  have K := k_X1_isThere (l := l) (cs := cs) (ad := ad) (T := T) hI.n13 a ha
  rw [if_pos (fsp_neg.mpr hs)] at K
  exact K
theorem q_base (hI : Inv np T) {a : Int} (hs : isS T a) : KD l cs yX1_base (Cond.code yX1_base cX1_base 2 (some .int) :: GW) 7 1 6 [.ref (ad 0), .int (zI a)] np ad T 0 (some (.int (zI (T 15 a.toNat)))) (np, ad, T) := by
  have K := k_X1_base (l := l) (cs := cs) (ad := ad) hI.1 a (isS_r hs)
  rw [if_neg (fsp_no hs)] at K
  exact K
theorem q_size (hI : Inv np T) {a : Int} (hs : isS T a) : KD l cs yX1_size (Cond.code yX1_size cX1_size 2 (some .int) :: GW) 7 1 6 [.ref (ad 0), .int (zI a)] np ad T 0 (some (.int (zI (T 16 a.toNat)))) (np, ad, T) := by
  have K := k_X1_size (l := l) (cs := cs) (ad := ad) hI.1 a (isS_r hs)
  rw [if_neg (fsp_no hs)] at K
  exact K
theorem q_parent (hI : Inv np T) {a : Int} (hs : isS T a) : KD l cs yX1_parent (Cond.code yX1_parent cX1_parent 3 (some .int) :: GW) 7 1 6 [.ref (ad 0), .int (zI a)] np ad T 0 (some (.int (zI (T 14 a.toNat)))) (np, ad, T) := by
  have K := k_X1_parent (l := l) (cs := cs) (ad := ad) hI.1 hI.2.2.2.1 a (isS_r hs)
  rw [if_neg (fsp_no hs)] at K
  exact K
theorem q_free (hI : Inv np T) {a : Int} (hs : isS T a) : KD l cs yX1_free (Cond.code yX1_free cX1_free 3 (some .int) :: GW) 7 1 6 [.ref (ad 0), .int (zI a)] np ad T 0 (some (.int (zI (frC T a)))) (np, ad, T) := by
  have K := k_X1_free (l := l) (cs := cs) (ad := ad) hI.1 hI.2.1 a (isS_r hs)
  rw [if_neg (fsp_no hs)] at K
  unfold frC
  rw [hid_eq]
  exact K
theorem q_gf (hI : Inv np T) {a : Int} (hs : isS T a) : KD l cs yX1_greatestFree (Cond.code yX1_greatestFree cX1_greatestFree 5 (some .int) :: GW) 7 8 48 [.ref (ad 0), .int (zI a)] np ad T 0 (some (.int (zI (gfC T a)))) (np, ad, T) := by
  have K := k_X1_greatestFree (l := l) (cs := cs) (ad := ad) hI.1 a (isS_r hs)
  rw [if_neg (fsp_no hs)] at K
  exact K
theorem q_itw (hI : Inv np T) {a S : Int} (hs : isS T a) (hS : szp S) (hlt : S < T 16 a.toNat) : KD l cs yX1_inTheWay (Cond.code yX1_inTheWay cX1_inTheWay 8 (some .int) :: GW) 7 8 48 [.ref (ad 0), .int (zI a), .int (zI S)] np ad T 0 (some (.int (zI (itwC T a S)))) (np, ad, T) := by
  have K := k_X1_inTheWay (l := l) (cs := cs) (ad := ad) hI.1 a S (isS_r hs) (by have := szp_bd hS; omega)
  rw [if_neg (fsp_no hs), if_pos hS, if_pos hlt] at K
  exact K
theorem q_itn (hI : Inv np T) {a S : Int} (hs : isS T a) (hS : szp S) (hlt : ¬ S < T 16 a.toNat) : KD l cs yX1_inTheWay (Cond.code yX1_inTheWay cX1_inTheWay 8 (some .int) :: GW) 7 8 48 [.ref (ad 0), .int (zI a), .int (zI S)] np ad T 0 (some (.int (zI (-1)))) (np, ad, T) := by
  have K := k_X1_inTheWay (l := l) (cs := cs) (ad := ad) hI.1 a S (isS_r hs) (by have := szp_bd hS; omega)
  rw [if_neg (fsp_no hs), if_pos hS, if_neg hlt] at K
  exact K
theorem q_spans (hI : Inv np T) : KD l cs yX1_spans (Cond.code yX1_spans cX1_spans 6 (some .int) :: GW) 7 0 0 [.ref (ad 0)] np ad T 0 (some (.int (zI (spC T 60)))) (np, ad, T) := by
  have K := k_X1_spans (l := l) (cs := cs) (ad := ad) hI.1
  unfold spC
  rw [hid_eq]
  exact K
theorem q_near (hI : Inv np T) {a : Int} (ha : 0 ≤ a ∧ a < 4096) : KD l cs yX1_nearest (Cond.code yX1_nearest cX1_nearest 5 (some .int) :: GW) 7 8 48 [.ref (ad 0), .int (zI a)] np ad T 0 (some (.int (zI (nsC T a)))) (np, ad, T) := by
  have K := k_X1_nearest (l := l) (cs := cs) (ad := ad) hI.1 a (by omega)
  rw [exq_t ha] at K
  unfold nsC
  rw [hid_eq]
  exact K
theorem q_row (hI : Inv np T) {a : Int} (ha : 0 ≤ a ∧ a < 4096) : KD l cs yX1_nearestByRow (Cond.code yX1_nearestByRow cX1_nearestByRow 2 (some .int) :: GW) 7 8 48 [.ref (ad 0), .int (zI a)] np ad T 0 (some (.int (zI (nsC T a)))) (np, ad, lyR T) := by
  have K := k_X1_nearestByRow (l := l) (cs := cs) (ad := ad) hI.1 hI.2.1 a (by omega)
  rw [exq_t ha, hI.row (a := a.toNat) (by omega), Int.toNat_of_nonneg ha.1] at K
  unfold nsC
  rw [hid_eq]
  exact K
theorem q_owned (hI : Inv np T) {o : Int} (ho : 0 ≤ o ∧ o < 8) : KD l cs yX1_owned (Cond.code yX1_owned cX1_owned 7 (some .int) :: GW) 7 8 48 [.ref (ad 0), .int (zI o)] np ad T 0 (some (.int (zI (owC T o)))) (np, ad, T) := by
  have K := k_X1_owned (l := l) (cs := cs) (ad := ad) hI.1 o (by omega)
  rw [exq_t ho] at K
  unfold owC
  rw [hid_eq]
  exact K
theorem q_blocks (hI : Inv np T) {o : Int} (ho : 0 ≤ o ∧ o < 8) : KD l cs yX1_blocks (Cond.code yX1_blocks cX1_blocks 6 (some .int) :: GW) 7 8 48 [.ref (ad 0), .int (zI o)] np ad T 0 (some (.int (zI (blC T o)))) (np, ad, lyR T) := by
  have K := k_X1_blocks (l := l) (cs := cs) (ad := ad) hI.1 hI.2.1 o (by omega)
  rw [exq_t ho] at K
  unfold blC
  rw [hid_eq]
  exact K
end
