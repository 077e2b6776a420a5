/-! the step: carve -/
theorem sz2_pwi {S : Int} (hS : pw13 S) (i : Nat) (h : sz2 S i ≤ 4096) : pw13 (sz2 S i) ∧ S ≤ sz2 S i := by
  induction i with
  | zero => exact ⟨hS, Int.le_refl _⟩
  | succ i ih =>
    have e : sz2 S (i + 1) = 2 * sz2 S i := rfl
    have hb := pw13_b hS
    rw [e] at h ⊢
    have h0 : 1 ≤ sz2 S i := by
      rcases Nat.eq_zero_or_pos i with q | q
      · subst q; exact hb.1
      · have := sz2_lt hb.1 q
        have e0 : sz2 S 0 = S := rfl
        omega
    have h1 := ih (by omega)
    refine ⟨?_, by omega⟩
    have h2 := h1.1
    unfold pw13 at h2 ⊢
    omega
theorem sz2_inj {S : Int} (hS : 1 ≤ S) {i k : Nat} : (sz2 S i < sz2 S k ↔ i < k) ∧ (sz2 S i = sz2 S k ↔ i = k) := by
  by_cases c1 : i < k
  · have := sz2_lt hS c1
    omega
  · by_cases c2 : k < i
    · have := sz2_lt hS c2
      omega
    · obtain rfl : i = k := by omega
      omega
/-- the model's find is the class's choice -/
theorem find_eq {np : Nat} {T : MT} (h : Inv np T) {x S w r : Int} (hx : isS T x) (hS : pw13 S) (hw : 0 ≤ w ∧ w ≤ 2) (hr : fndP T x S w r) : (chB T x S (decide (w = 0)) = -1 ∧ r = -1) ∨ (chB T x S (decide (w = 0)) ≠ -1 ∧ 0 ≤ r ∧ r = cvB T x S w ∧ r % S = 0 ∧ T 15 x.toNat ≤ r ∧ r + S ≤ T 15 x.toNat + T 16 x.toNat ∧ ∀ j : Nat, j < 60 → T 1 j ≠ 0 → T 14 j = x → r + S ≤ T 15 j ∨ T 15 j + T 16 j ≤ r) := by
  have he := h.eqs hx
  have hb := h.bd hx
  have hSb := pw13_b hS
  have hcb := h.chB (S := S) (decide (w = 0)) hx
  have hcv : cvB T x S w = if w = 2 ∧ S < roomC T x (chB T x S (decide (w = 0))) then chB T x S (decide (w = 0)) + roomC T x (chB T x S (decide (w = 0))) / 2 else chB T x S (decide (w = 0)) := rfl
  rw [hcv]
  generalize chB T x S (decide (w = 0)) = cb at hcb ⊢
  generalize hrm : roomC T x cb = rm at hcb ⊢
  obtain ⟨f, fs, hr1, hr2⟩ := hr
  have hvl : ∀ i k, vl2 T x S i k ↔ (sz2 S i ≤ T 16 x.toNat ∧ (k : Int) * sz2 S i < T 16 x.toNat) := fun i k => by unfold vl2; rw [he.2.2.1]
  have hwh : ∀ i k, vl2 T x S i k → (wh2 T x S i k ↔ whB T x (T 15 x.toNat + k * sz2 S i) (sz2 S i)) := fun i k hv => by
    have hv2 := (hvl i k).mp hv
    exact h.wh hx (sz2_pwi hS i (by omega)).1 hv2.1 k
  have hof : ∀ p s, whB T x p s → S ≤ s → ∃ i k : Nat, vl2 T x S i k ∧ wh2 T x S i k ∧ p = T 15 x.toNat + k * sz2 S i ∧ s = sz2 S i := fun p s hp hs => by
    obtain ⟨k, k1, k2, k3⟩ := h.grid hx hp.1
    obtain ⟨i, hi⟩ := sz2_ex 4096 S s (by omega) hS hp.1.1 hs
    subst hi
    have hv := (hvl i k).mpr ⟨k3, k2⟩
    exact ⟨i, k, hv, (hwh i k hv).mpr (by rw [← k1]; exact hp), k1, rfl⟩
  rcases hr2 with ⟨f1, f2, f3⟩ | ⟨i, k, f1, f2, f3, f4, f5⟩
  · left
    have hr3 : r = -1 := by rw [hr1, if_neg (by omega), f1]
    rcases hcb with ⟨c1, -⟩ | ⟨c1, c2, -⟩
    · exact ⟨c1, hr3⟩
    · obtain ⟨i, k, q1, q2, -⟩ := hof _ _ c1 c2
      exact absurd q2 (f3 i k q1)
  · right
    have hwb := (hwh i k f1).mp f2
    have hv := (hvl i k).mp f1
    have hp := sz2_pwi hS i (by omega)
    rw [he.2.1] at f3
    rw [← f3, ← f4] at hwb
    rw [← f4] at hp hv
    have hpb := pw13_b hp.1
    rcases hcb with ⟨-, c2⟩ | ⟨c1, c2, c3⟩
    · exact absurd hp.2 (c2 f fs hwb)
    · obtain ⟨i', k', q1, q2, q3, q4⟩ := hof cb rm c1 c2
      have g1 := c3 f fs hwb hp.2
      have g2 := f5 i' k' q1 q2
      have j1 := sz2_inj (S := S) hSb.1 (i := i) (k := i')
      have j2 := sz2_inj (S := S) hSb.1 (i := i') (k := i)
      rw [← q4, ← f4] at j1 j2
      have hkk : i = i' → k ≤ k' → f ≤ cb := fun e1 e2 => by
        subst e1
        have : (k : Int) * sz2 S i ≤ k' * sz2 S i := Int.mul_le_mul_of_nonneg_right (by omega) (by omega)
        omega
      have hef : rm = fs ∧ cb = f := by
        by_cases c : w = 0
        · rw [if_pos (by simp [c])] at g1
          rw [if_pos (by omega)] at g2
          rcases g2 with g2 | ⟨g2, g3⟩
          · omega
          · have := hkk g2 g3
            omega
        · rw [if_neg (by simp [c])] at g1
          rw [if_neg (by omega)] at g2
          rcases g2 with g2 | ⟨g2, g3⟩
          · omega
          · have := hkk g2 g3
            omega
      obtain ⟨rfl, rfl⟩ := hef
      obtain ⟨⟨s1, s2, s3, s4, s5⟩, -⟩ := hwb
      have hcp := h.cpart (a := x) (B := cb) (S := rm) (by omega)
      have hin : cb ≤ r ∧ r + S ≤ cb + rm ∧ r % S = 0 := by
        have hd := pw_dvd hS s1 c2
        have hm := emod_mul s2 hd
        by_cases q : w = 2 ∧ S < rm
        · rw [if_pos q] at hr1
          have hdb := pw_dbl hS s1 q.2
          have hm2 := emod_mul s2 hdb.2.2
          obtain ⟨t, ht⟩ := Int.dvd_of_emod_eq_zero hdb.2.2
          have e2 : rm / 2 = S * t := by rw [ht, Int.mul_assoc, Int.mul_ediv_cancel_left _ (by decide)]
          have e3 : (rm / 2) % S = 0 := by rw [e2]; exact Int.mul_emod_right _ _
          refine ⟨by omega, by omega, ?_⟩
          rw [hr1, Int.add_emod, hm, e3]
          simp
        · rw [if_neg q] at hr1
          rw [hr1]
          exact ⟨Int.le_refl _, by omega, hm⟩
      refine ⟨by omega, by omega, hr1, hin.2.2, by omega, by omega, fun j hj q5 q6 => ?_⟩
      have := hcp j hj q5 q6
      omega
theorem exMc_eq {np : Nat} {T : MT} (hI : Inv np T) (a S o w : Int) : (exMc T a S o w = (exCv T a S o w : Nat) ∧ exMc T a S o w ≠ 0 ∧ exCv T a S o w ≤ 3) ∨ (exMc T a S o w = 0 ∧ isS T a ∧ szp S ∧ (0 ≤ o ∧ o < 8) ∧ (0 ≤ w ∧ w ≤ 2) ∧ T 0 2 < 60 ∧ S < T 16 a.toNat ∧ ((chB T a S (decide (w = 0)) = -1 ∧ exCv T a S o w = 3) ∨ (chB T a S (decide (w = 0)) ≠ -1 ∧ exCv T a S o w = 0))) := by
  unfold exMc exCv
  by_cases h1 : isS T a
  · rw [if_neg (c := ¬ isM T a) (fun q => q ((hI.isM a).mpr h1)), if_neg (c := fsp T a < 0) (fun q => fsp_neg.mp q h1)]
    by_cases h2 : szp S ∧ (0 ≤ o ∧ o < 8) ∧ (0 ≤ w ∧ w ≤ 2)
    · have hcl := hI.clm h1 S
      have n2 : ¬ ¬ (szp S ∧ (0 ≤ o ∧ o < 8) ∧ (0 ≤ w ∧ w ≤ 2)) := fun q => q h2
      simp only [if_neg n2]
      by_cases h3 : clM T a S
      · have n4 : ¬ (T 0 2 < 60 ∧ S < T 16 a.toNat ∧ liiC T a ≤ 0 ∧ chB T a S (decide (w = 0)) ≠ -1) := fun q => hcl.mp h3 ⟨q.1, q.2.1, q.2.2.1⟩
        simp only [if_pos h3, if_neg n4]
        exact Or.inl ⟨rfl, by decide, by decide⟩
      · have q2 := Classical.byContradiction (fun q2 => h3 (hcl.mpr q2))
        simp only [if_neg h3]
        refine Or.inr ⟨trivial, h1, h2.1, h2.2.1, h2.2.2, q2.1, q2.2.1, ?_⟩
        by_cases h4 : chB T a S (decide (w = 0)) = -1
        · exact Or.inl ⟨h4, if_neg (fun q => q.2.2.2 h4)⟩
        · exact Or.inr ⟨h4, if_pos ⟨q2.1, q2.2.1, q2.2.2, h4⟩⟩
    · rw [if_pos h2, if_pos h2]
      exact Or.inl ⟨rfl, by decide, by decide⟩
  · rw [if_pos (c := ¬ isM T a) (fun q => h1 ((hI.isM a).mp q)), if_pos (c := fsp T a < 0) (fsp_neg.mpr h1)]
    exact Or.inl ⟨rfl, by decide, by decide⟩
theorem ag.fnd {T' T : MT} (hag : ag T' T) {x S w r : Int} (h : fndP T' x S w r) : fndP T x S w r := by
  unfold fndP at h ⊢
  simp only [vl2, wh2, whM, frM, liM, hag.cnt, hag 5 x.toNat (by decide) (by decide), hag 6 x.toNat (by decide) (by decide)] at h ⊢
  exact h
theorem ag.exc {T' T : MT} (hag : ag T' T) (a S o w : Int) : exMc T' a S o w = exMc T a S o w := by
  simp only [exMc, clM, hsM, hag.isM, hag.cnt, hag.ln, hag.f (r := 4) (by decide) (by decide), hag.f (r := 5) (by decide) (by decide), hag.f (r := 6) (by decide) (by decide)]
theorem st_carve {l : Launch} {cs : CSt} {np : Nat} {ad : Nat → Nat} {T : MT} (hI : Inv np T) (a0 a1 a2 a3 : Int) (ha0 : -2147483648 ≤ a0 ∧ a0 < 2147483648) (ha1 : -2147483648 ≤ a1 ∧ a1 < 2147483648) (ha2 : -2147483648 ≤ a2 ∧ a2 < 2147483648) (ha3 : -2147483648 ≤ a3 ∧ a3 < 2147483648) : ∃ PRh : Option Value → St3 → Prop, KC l cs yL_carve (Cond.codeWith yL_carve cL_carve 7 (some .int) [(0, 14, 17, 13), (0, 14, 21, 15), (0, 14, 25, 17)] :: GW) 8 8 48 [.ref (ad 0), .int (zI a0), .int (zI a1), .int (zI a2), .int (zI a3), .ref (ad 12)] np ad T PRh (fun _ _ => False) ∧ ∀ v u, PRh v u → okP l cs yX2_carve (Cond.code yX2_carve cX2_carve 8 (some .int) :: GW) 4 [.int (zI a0), .int (zI a1), .int (zI a2), .int (zI a3)] ad (fun _ => True) v u := by
  have h13 := hI.n13
  have hM := hI.2.2.2.2.1
  have hC := hI.1.1
  have hx := exMc_eq hI a0 a1 a2 a3
  have K1 := k_X1_carve (l := l) (cs := cs) (ad := ad) hI.1 hI.2.1 hI.2.2.1 a0 a1 a2 a3 ha0 ha1 ha2 ha3
  refine ⟨_, k_L_carve h13 K1 (w := T 0 2) (fun v u h => ?_) (by rcases hx with hx | ⟨-, -, -, -, -, -, -, hx | hx⟩ <;> omega), ?_⟩
  · obtain ⟨-, rfl, q, rfl⟩ := h
    exact ⟨rfl, by show 13 ≤ np + 1; omega, va_up_ne _ _ (by omega), by omega, by omega⟩
  · rintro v u (⟨rfl, u', ⟨h0, -, q, rfl⟩, rfl⟩ | ⟨h0, rfl, rfl⟩)
    · rcases hx with ⟨q1, q2, -⟩ | ⟨hx0, hs, hS, ho, hw, hm, hlt, hx1 | ⟨hcb, -⟩⟩
      · rw [h0] at q1; exact absurd q1 q2
      · have := hx1.2; omega
      · have hSp := szp_pw hS
        have hag : ag (mst (mkT T (T 0 2).toNat a0 (cvB T a0 a1 a3) a1 a2) 12 0 (T 0 2)) T := ag_o (fun r i h1 h2 => by
          unfold mkT
          rw [if_neg (by omega), if_neg (by omega), if_neg (by omega), if_neg (by omega)])
        have K := k_X2_carve (l := l) (cs := cs) (ad := va_up ad np q) (np := np + 1) (by omega) (hag.VM hM) a0 a1 a2 a3 ha0 ha1 ha2 ha3
        refine ⟨0, rfl, by omega, by show 13 ≤ np + 1; omega, ⟨va_up_ne _ _ (by omega), va_up_ne _ _ (by omega), va_up_ne _ _ (by omega)⟩, KC.mono K ?_ (fun _ _ h => h)⟩
        rintro v u ⟨r, U, rfl, hr, rfl⟩
        rcases hr with ⟨q1, -⟩ | ⟨-, f, hf, -, -, hr⟩
        · exact absurd ((hag.exc a0 a1 a2 a3).trans hx0) q1
        · rcases find_eq hI hs hSp hw (hag.fnd hf) with ⟨c1, -⟩ | ⟨-, d1, d2, d3, d4, d5, d6⟩
          · exact absurd c1 hcb
          · rcases hr with ⟨e, -⟩ | ⟨-, rfl, rfl⟩
            · omega
            · rw [hag 4 6 (by decide) (by decide), hI.2.2.2.2.2.1.1.1]
              rw [← d2]
              refine ⟨_, _, rfl, ⟨by omega, by omega, trivial⟩, rfl, ?_, fun _ => ?_, ?_⟩
              · unfold mkM
                rw [mst_i (by decide), mst_r (by decide), mst_r (by decide), mst_r (by decide), mst_r (by decide), mst_r (by decide), mst_eq]
              · unfold mkM
                rw [mst_r (by decide), mst_r (by decide), mst_r (by decide), mst_r (by decide), mst_r (by decide), mst_r (by decide), mst_r (by decide), mst_eq]
              · exact inv_make2 hI hs hm hSp d3 ho ⟨d4, d5, by omega⟩ d6
    · have K := k_X2_carve (l := l) (cs := cs) (ad := ad) h13 hM a0 a1 a2 a3 ha0 ha1 ha2 ha3
      have hps : exCv T a0 a1 a2 a3 ≤ 3 → (if exCv T a0 a1 a2 a3 = 1 then 1 else if exCv T a0 a1 a2 a3 = 2 then 2 else if exCv T a0 a1 a2 a3 = 3 then 3 else 0 : Int) = (exCv T a0 a1 a2 a3 : Nat) := by
        intro h3
        generalize exCv T a0 a1 a2 a3 = z at h0 h3 ⊢
        have : z = 1 ∨ z = 2 ∨ z = 3 := by omega
        rcases this with rfl | rfl | rfl <;> rfl
      rcases hx with ⟨q1, q2, q3⟩ | ⟨hx0, hs, hS, ho, hw, hm, hlt, ⟨hcb, hx1⟩ | ⟨-, q1⟩⟩
      · have hps := hps q3
        refine ⟨_, rfl, by rw [hps]; omega, h13, ⟨rfl, rfl, rfl⟩, KC.mono K ?_ (fun _ _ h => h)⟩
        rintro v u ⟨r, U, rfl, hr, rfl⟩
        rcases hr with ⟨-, rfl, rfl⟩ | ⟨e, -⟩
        · exact ⟨_, _, rfl, ⟨by decide, by decide, trivial⟩, rfl, by rw [mst_eq, hps, q1], fun q => absurd (q1.trans (hps.symm.trans q)) q2, hI.th _⟩
        · exact absurd e q2
      · have hps := hps (by omega)
        refine ⟨_, rfl, by rw [hps]; omega, h13, ⟨rfl, rfl, rfl⟩, KC.mono K ?_ (fun _ _ h => h)⟩
        rintro v u ⟨r, U, rfl, hr, rfl⟩
        rcases hr with ⟨e, -⟩ | ⟨-, f, hf, -, -, hr⟩
        · exact absurd hx0 e
        · rcases find_eq hI hs (szp_pw hS) hw hf with ⟨-, c1⟩ | ⟨c1, -⟩
          · rcases hr with ⟨-, rfl, rfl⟩ | ⟨e, -⟩
            · exact ⟨_, _, rfl, ⟨by decide, by decide, trivial⟩, rfl, by rw [mst_eq, hps, hx1]; rfl, fun q => absurd (hps.symm.trans q) (by rw [hx1]; decide), hI.th _⟩
            · exact absurd c1 e
          · exact absurd hcb c1
      · exact absurd q1 h0
