/-! the step: grow -/
theorem cnb_f {h q b z h' q' b' z' : Nat → Int} {x B S i : Int} {n : Nat} (he : ∀ i, i < n → h' i = h i ∧ (h i ≠ 0 → q' i = q i ∧ b' i = b i ∧ z' i = z i)) : cnb h' q' b' z' x B S i n = cnb h q b z x B S i n := by
  induction n with
  | zero => rfl
  | succ n ih =>
    have h1 := he n (by omega)
    show _ + ite _ _ _ = _ + ite _ _ _
    rw [ih (fun i hi => he i (by omega))]
    by_cases h2 : h n ≠ 0
    · have h3 := h1.2 h2
      rw [h1.1, h3.1, h3.2.1, h3.2.2]
    · rw [if_neg (fun q => h2 (by rw [← h1.1]; exact q.1)), if_neg (fun q => h2 q.1)]
theorem grow_geo {np : Nat} {T : MT} (hI : Inv np T) {a : Int} (hs : isS T a) (h0 : a ≠ 0) (h2 : 2 * T 16 a.toNat < T 16 (T 14 a.toNat).toNat) : pw13 (2 * T 16 a.toNat) ∧ T 15 (T 14 a.toNat).toNat ≤ grB T a ∧ grB T a + 2 * T 16 a.toNat ≤ T 15 (T 14 a.toNat).toNat + T 16 (T 14 a.toNat).toNat ∧ grB T a % (2 * T 16 a.toNat) = 0 ∧ grB T a ≤ T 15 a.toNat ∧ T 15 a.toNat + T 16 a.toNat ≤ grB T a + 2 * T 16 a.toNat := by
  have hb := hI.bd hs
  have hin := hI.inp (j := a.toNat) (by omega) hs.2.2 (by omega)
  have hg := hI.geo.2.1 a.toNat (by omega) hs.2.2
  have hps := hin.2.2.1
  have hbp := hI.bd hps
  have hgp := hI.geo.2.1 (T 14 a.toNat).toNat (by omega) hps.2.2
  have hp1 := pw13_b hgp.1
  have hpw : pw13 (2 * T 16 a.toNat) := by
    have h1 := hg.1
    unfold pw13 at h1 ⊢
    omega
  have hd := pw_dvd hpw hgp.1 (by omega)
  have hx := emod_mul hgp.2.1 hd
  have ha := al_in (S := 2 * T 16 a.toNat) (x := T 15 (T 14 a.toNat).toNat) (y := T 15 (T 14 a.toNat).toNat + T 16 (T 14 a.toNat).toNat) (t := T 15 a.toNat) (by omega) hx (by rw [Int.add_emod, hx, hd]; simp) (by omega) (by omega)
  have hm := md_b (B := T 15 a.toNat) (t := 2 * T 16 a.toNat) (by omega) (by omega)
  have hlast : T 15 a.toNat % (2 * T 16 a.toNat) = 0 ∨ T 15 a.toNat % (2 * T 16 a.toNat) = T 16 a.toNat := by
    obtain ⟨k, hk⟩ := Int.dvd_of_emod_eq_zero hg.2.1
    have e1 : T 15 a.toNat % (2 * T 16 a.toNat) = T 16 a.toNat * (k % 2) := by
      rw [Int.mul_comm 2]
      conv => lhs; rw [hk]
      exact Int.mul_emod_mul_of_pos _ _ (by omega)
    have h3 : k % 2 = 0 ∨ k % 2 = 1 := by omega
    rcases h3 with h3 | h3
    · rw [h3] at e1; left; rw [e1]; exact Int.mul_zero _
    · rw [h3] at e1; right; rw [e1]; exact Int.mul_one _
  unfold grB
  exact ⟨hpw, ha.1, ha.2.1, ha.2.2, hm.2, by omega⟩
theorem st_grow {l : Launch} {cs : CSt} {np : Nat} {ad : Nat → Nat} {T : MT} (hI : Inv np T) (a0 : Int) (ha0 : -2147483648 ≤ a0 ∧ a0 < 2147483648) : ∃ PRh : Option Value → St3 → Prop, KC l cs yL_grow (Cond.codeWith yL_grow cL_grow 4 (some .int) [(0, 9, 12, 13), (0, 9, 15, 17)] :: GW) 8 8 48 [.ref (ad 0), .int (zI a0), .ref (ad 12)] np ad T PRh (fun _ _ => False) ∧ ∀ v u, PRh v u → okP l cs yX2_grow (Cond.code yX2_grow cX2_grow 3 (some .int) :: GW) 2 [.int (zI a0)] ad (fun _ => True) v u := by
  have h13 := hI.n13
  have hM := hI.2.2.2.2.1
  have hpwa : isS T a0 → pw13 (T 16 a0.toNat) := fun hs => (hI.geo.2.1 a0.toNat (by have := hs.1; have := hs.2.1; omega) hs.2.2).1
  have hcn : isS T a0 → a0 ≠ 0 → 2 * T 16 a0.toNat < T 16 (T 14 a0.toNat).toNat → cntC T (T 14 a0.toNat) (grB T a0) (2 * T 16 a0.toNat) 60 = cntM T (T 14 a0.toNat) (grB T a0) (2 * T 16 a0.toNat) a0 + 1 := fun hs q1 q2 => by
    have hg := grow_geo hI hs q1 q2
    have hb := hI.bd hs
    have e1 := cnt_but (h := T 1) (q := T 14) (b := T 15) (z := T 16) (x := T 14 a0.toNat) (B := grB T a0) (S := 2 * T 16 a0.toNat) (i := a0.toNat) (n := 60)
    rw [if_pos ⟨by omega, hs.2.2, rfl, by omega, by omega⟩, Int.toNat_of_nonneg hb.1] at e1
    rw [cntC_eq, cntM_eq, e1, cnb_f (fun i hi => hI.eqs2 i hi)]
  have hiff : isS T a0 → ((0 ≤ T 14 a0.toNat ∧ 2 * T 16 a0.toNat < T 16 (T 14 a0.toNat).toNat ∧ cntC T (T 14 a0.toNat) (grB T a0) (2 * T 16 a0.toNat) 60 ≤ 1) ↔ gwM T a0) := fun hs => by
    have hb := hI.bd hs
    have he := hI.eqs hs
    have hp := hI.p0 hs
    have eg : grM T a0 = grB T a0 := by unfold grM grB; rw [he.2.1, he.2.2.1]
    unfold gwM
    rw [eg, he.1, he.2.2.1]
    constructor
    · rintro ⟨q1, q2, q3⟩
      have q0 := hp.mp q1
      have hps := (hI.inp (j := a0.toNat) (by omega) hs.2.2 (by omega)).2.2.1
      have hep := hI.eqs hps
      have hg := grow_geo hI hs q0 q2
      have hc := hcn hs q0 q2
      have hcb := cntM_bd T (T 14 a0.toNat) (grB T a0) (2 * T 16 a0.toNat) a0
      refine ⟨q0, ⟨by rw [hep.2.1]; exact hg.2.1, by rw [hep.2.1, hep.2.2.1]; exact hg.2.2.1⟩, by rw [hep.2.2.1]; exact q2, by omega⟩
    · rintro ⟨q0, -, q2, q3⟩
      have hps := (hI.inp (j := a0.toNat) (by omega) hs.2.2 (by omega)).2.2.1
      have hep := hI.eqs hps
      rw [hep.2.2.1] at q2
      have hc := hcn hs q0 q2
      exact ⟨hp.mpr q0, q2, by omega⟩
  have K1 := k_X1_grow (l := l) (cs := cs) (ad := ad) hI.1 hI.2.2.2.1 a0 ha0 (fun hs => pw13_2 (hpwa hs))
  have h7 : isM T a0 → a0 ≠ 0 → 0 ≤ T 7 a0.toNat := fun hm q => by
    have hs := (hI.isM a0).mp hm
    rw [(hI.eqs hs).1]
    exact (hI.p0 hs).mpr q
  have hz6 : isM T a0 → pw13 (T 6 a0.toNat) := fun hm => by
    have hs := (hI.isM a0).mp hm
    rw [(hI.eqs hs).2.2.1]
    exact hpwa hs
  generalize hx : (if fsp T a0 < 0 then 1 else if 0 ≤ T 14 a0.toNat ∧ 2 * T 16 a0.toNat < T 16 (T 14 a0.toNat).toNat ∧ cntC T (T 14 a0.toNat) (grB T a0) (2 * T 16 a0.toNat) 60 ≤ 1 then 0 else 3 : Nat) = ex at K1
  obtain ⟨t1, t2, t3⟩ := tri hI a0 hiff hx (E := exMg T a0) rfl
  refine ⟨_, k_L_grow h13 K1 (hWt_KD h13 (fun h0 => ?_)) t1, st_KD hI (E := exMg T a0) t3 trivial (k_X2_grow h13 hM a0 ha0 hz6 h7) (fun h0 => ?_)⟩
  · obtain ⟨hs, hc, -⟩ := t2 h0
    have hb := hI.bd hs
    have := grow_geo hI hs ((hI.p0 hs).mp hc.1) hc.2.1
    have := hI.bd (hI.inp (j := a0.toNat) (by omega) hs.2.2 (by have := (hI.p0 hs).mp hc.1; omega)).2.2.1
    omega
  · obtain ⟨hs, hc, hx0⟩ := t2 h0
    have hb := hI.bd hs
    have he := hI.eqs hs
    have hne := (hI.p0 hs).mp hc.1
    have hg := grow_geo hI hs hne hc.2.1
    have hin := hI.inp (j := a0.toNat) (by omega) hs.2.2 (by omega)
    have hbp := hI.bd hin.2.2.1
    have hcc := hcn hs hne hc.2.1
    have hag : ag (mst (mst (mst (mst T 15 a0.toNat (grB T a0)) 16 a0.toNat (2 * T 16 a0.toNat)) 0 7 0) 12 0 (grB T a0)) T := ag_o (fun r i h1 h2 => by rw [mst_r (by omega), mst_r (by omega), mst_r (by omega)])
    have eg : grM T a0 = grB T a0 := by unfold grM grB; rw [he.2.1, he.2.2.1]
    generalize hTT : mst (mst (mst (mst T 15 a0.toNat (grB T a0)) 16 a0.toNat (2 * T 16 a0.toNat)) 0 7 0) 12 0 (grB T a0) = T' at hag ⊢
    have K := k_X2_grow (l := l) (cs := cs) (ad := ad) h13 (hag.VM hM) a0 ha0 (by rw [hag.isM, hag 6 a0.toNat (by decide) (by decide)]; exact hz6) (by rw [hag.isM, hag 7 a0.toNat (by decide) (by decide)]; exact h7)
    have eg2 : grM T' a0 = grB T a0 := by rw [← eg]; unfold grM; rw [hag 5 a0.toNat (by decide) (by decide), hag 6 a0.toNat (by decide) (by decide)]
    have hex : exMg T' a0 = 0 := by
      refine Eq.trans ?_ hx0
      simp only [exMg, gwM, grM, liM, hag.isM, hag.cnt, hag.f (r := 5) (by decide) (by decide), hag.f (r := 6) (by decide) (by decide), hag.f (r := 7) (by decide) (by decide)]
    rw [hex, if_pos rfl, if_pos rfl, eg2, hag 6 a0.toNat (by decide) (by decide), he.2.2.1] at K
    refine ⟨_, K, ⟨by omega, by omega, trivial⟩, ?_, ?_, ?_⟩
    · rw [mst_r (by decide), mst_r (by decide), mst_eq]
    · rw [mst_r (by decide), mst_r (by decide), mst_r (by decide), ← hTT, mst_eq]
    · refine inv_size hI (a := a0) (B := grB T a0) (S := 2 * T 16 a0.toNat) hs hne hg.1 hg.2.2.2.1 (by omega) ⟨hg.2.1, hg.2.2.1, by omega⟩ (fun j hj q1 q2 => ?_) (fun j hj q1 q2 q3 => ?_) (fun r i q1 q2 q3 q4 => ?_) ?_ ?_ ?_ ?_ ?_
      · have h0j : j ≠ 0 := by
          rintro rfl
          have := hI.geo.1.2.2
          omega
        have h6 := hI.inp hj q1 h0j
        rw [q2] at h6
        omega
      · have e1 := cntM_eq T (T 14 a0.toNat) (grB T a0) (2 * T 16 a0.toNat) a0
        rw [cnb_f (fun i hi => hI.eqs2 i hi)] at e1
        have h8 := cntM_bd T (T 14 a0.toNat) (grB T a0) (2 * T 16 a0.toNat) a0
        have h9 : ¬ (T 15 j < grB T a0 + 2 * T 16 a0.toNat ∧ grB T a0 < T 15 j + T 16 j) := by
          have key : ∀ n, cnb (T 1) (T 14) (T 15) (T 16) (T 14 a0.toNat) (grB T a0) (2 * T 16 a0.toNat) a0 n ≤ 0 → j < n → ¬ (T 15 j < grB T a0 + 2 * T 16 a0.toNat ∧ grB T a0 < T 15 j + T 16 j) := by
            intro n
            induction n with
            | zero => exact fun _ q => absurd q (by omega)
            | succ n ih =>
              intro w1 w2 w3
              have hnb := cnb_bd (T 1) (T 14) (T 15) (T 16) (T 14 a0.toNat) (grB T a0) (2 * T 16 a0.toNat) a0 n
              have ee : cnb (T 1) (T 14) (T 15) (T 16) (T 14 a0.toNat) (grB T a0) (2 * T 16 a0.toNat) a0 (n + 1) = cnb (T 1) (T 14) (T 15) (T 16) (T 14 a0.toNat) (grB T a0) (2 * T 16 a0.toNat) a0 n + (if T 1 n ≠ 0 ∧ T 14 n = T 14 a0.toNat ∧ (n : Int) ≠ a0 ∧ T 15 n < grB T a0 + 2 * T 16 a0.toNat ∧ grB T a0 < T 15 n + T 16 n then 1 else 0) := rfl
              by_cases w4 : j = n
              · subst w4
                rw [if_pos ⟨q2, q3, by omega, w3⟩] at ee
                omega
              · refine ih ?_ (by omega) w3
                split at ee <;> omega
          exact key 60 (by rw [← e1]; omega) hj
        omega
      · rw [mst_ne (by omega), mst_ne (by omega), mst_ne q3, ← hTT, mst_r q4, mst_ne q2, mst_ne (by omega), mst_ne (by omega)]
      · rw [mst_eq]
      · rw [mst_r (by decide), mst_eq]
      · rw [mst_r (by decide), mst_r (by decide), mst_r (by decide), ← hTT, mst_r (by decide), mst_r (by decide), mst_r (by decide), mst_eq]
      · rw [mst_r (by decide), mst_r (by decide), mst_r (by decide), ← hTT, mst_r (by decide), mst_r (by decide), mst_eq]
      · rw [mst_r (by decide), mst_r (by decide), mst_r (by decide), ← hTT, mst_r (by decide), mst_eq]
