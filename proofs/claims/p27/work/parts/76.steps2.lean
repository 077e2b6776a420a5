/-! the steps: setOwner, lend, takeBack, pass -/
theorem s_setOwner {np : Nat} {T : MT} (hI : Inv np T) (hL : LF T) (a o : Int) : stp (cSo T a o) := by
  intro h0
  have h0 : exS T a o = 0 := h0
  unfold exS at h0
  by_cases h1 : fsp T a < 0
  · rw [if_pos h1] at h0; omega
  rw [if_neg h1] at h0
  by_cases h2 : 0 ≤ o ∧ o < 8
  · have hs : isS T a := Classical.byContradiction fun q => h1 (fsp_neg.mpr q)
    have hb := hI.bd hs
    have hV := inv_owner hI hs h2
    have hgh : gh (mst (mst T 17 a.toNat o) 8 a.toNat o) (mst T 17 a.toNat o) := gh_mst (by decide)
    have hLU : LF (mst T 17 a.toNat o) := hL.mono (fun i => mst_r (by decide)) (fun i => mst_r (by decide)) (fun i => mst_r (by decide)) (fun i => mst_r (by decide)) (fun b hb9 h3 => by
      rw [mst_r (by decide)] at h3 ⊢
      rw [mst_r (by decide)]
      exact ⟨h3, hL.2 b hb9 h3⟩) hI.b4
    refine ⟨_, hgh, ?_, hLU.gh hgh (fun i hi h3 => ?_), ?_, ?_⟩
    · show Inv ((mst T 17 a.toNat o 0 2).toNat + 13) _
      rw [mst_r (by decide), np_eq hI.1]
      exact hV
    · rw [mst_r (by decide)] at h3
      rw [mst_r (by decide), mst_r (by decide)]
      exact hI.b4 i hi h3
    · show 0 ≤ T 17 a.toNat; omega
    · show T 17 a.toNat ≤ 200000; omega
  · rw [if_neg h2] at h0; omega
theorem s_lend {np : Nat} {T : MT} (hI : Inv np T) (hL : LF T) (a d : Int) : stp (cLe T a d) := by
  intro h0
  have h0 : exL T a d = 0 := h0
  unfold exL at h0
  by_cases h1 : fsp T a < 0
  · rw [if_pos h1] at h0; omega
  rw [if_neg h1] at h0
  by_cases h2 : 0 ≤ d ∧ d ≤ 100
  · rw [if_neg (fun q => q h2)] at h0
    have hc : T 0 4 < 200 ∧ ¬ cntC T a (T 15 a.toNat) (T 16 a.toNat) 60 > 0 ∧ 0 ≤ lwC T a := Classical.byContradiction fun q => by rw [if_neg q] at h0; omega
    have hs : isS T a := Classical.byContradiction fun q => h1 (fsp_neg.mpr q)
    have hb := hI.bd hs
    have hlb := hI.lwb hs
    have hA1 := hI.2.1.1
    have hrg := lwf_bd (T 2) (T 15 a.toNat).toNat (T 16 a.toNat).toNat
    rw [← lwC_eq] at hrg
    have hk := hI.nokids hs (by omega)
    have hv : (if d = 0 then -1 else T 0 5 + d) ≠ 0 ∧ -1 ≤ (if d = 0 then -1 else T 0 5 + d) ∧ (if d = 0 then -1 else T 0 5 + d) ≤ 200000 ∧ ((if d = 0 then -1 else T 0 5 + d) = -1 ∨ T 0 5 < (if d = 0 then -1 else T 0 5 + d)) := by split <;> omega
    have hV := inv_set hI (i := (lwC T a).toNat) (by omega) (v := if d = 0 then -1 else T 0 5 + d) (n := T 0 4 + 1) ⟨hv.2.1, hv.2.2.1⟩ (by rw [if_pos hv.1, if_neg (fun q => q (hlb.2.2 hc.2.2))]; omega)
    obtain ⟨v, hve⟩ : ∃ v, v = if d = 0 then -1 else T 0 5 + d := ⟨_, rfl⟩
    rw [← hve] at hv hV
    obtain ⟨z, hz⟩ : ∃ z, z = (lwC T a).toNat := ⟨_, rfl⟩
    rw [← hz] at hV
    obtain ⟨U, hU⟩ : ∃ U, U = mst (mst T 2 z v) 0 4 (T 0 4 + 1) := ⟨_, rfl⟩
    have er : ∀ r i, r ≠ 2 → r ≠ 0 → U r i = T r i := fun r i q1 q2 => by rw [hU, mst_r q2, mst_r q1]
    have e05 : U 0 5 = T 0 5 := by rw [hU, mst_i (by decide), mst_r (by decide)]
    have e02 : U 0 2 = T 0 2 := by rw [hU, mst_i (by decide), mst_r (by decide)]
    have e2 : ∀ i, i ≠ z → U 2 i = T 2 i := fun i q => by rw [hU, mst_r (by decide), mst_i q]
    have e2z : U 2 z = v := by rw [hU, mst_r (by decide), mst_eq]
    have hx : ∀ (b : Int) i, hasA U b i ↔ hasA T b i := fun b i => by unfold hasA; rw [er 1 i (by decide) (by decide), er 15 i (by decide) (by decide), er 16 i (by decide) (by decide)]
    have hza : hasA T z a.toNat := ⟨by omega, hs.2.2, by omega, by omega⟩
    have hLU : LF U := by
      refine ⟨fun b i j g2 hi hj g1 hp => ?_, fun b hb9 g2 => ?_⟩
      · rw [hx] at hi
        rw [er 1 j (by decide) (by decide)] at g1
        rw [er 14 j (by decide) (by decide)] at hp
        have fin : (∃ k : Nat, hasA T b k ∧ T 14 k = i) → ∃ k : Nat, hasA U b k ∧ U 14 k = i := fun ⟨k, k1, k2⟩ => ⟨k, (hx _ _).mpr k1, by rw [er 14 k (by decide) (by decide)]; exact k2⟩
        by_cases e : b = z
        · subst e
          refine fin ?_
          have hia : i ≠ a.toNat := fun e => hk j hj g1 (by omega)
          by_cases c : i < a.toNat
          · exact hI.upx hi a.toNat c hza
          · obtain ⟨k, k1, k2⟩ := hI.upx hza i (by omega) hi
            exact absurd (show T 14 k = a by omega) (hk k k1.1 k1.2.1)
        · rw [e2 b e] at g2
          exact fin (hL.1 b i j g2 hi hj g1 hp)
      · rw [e05]
        by_cases e : b = z
        · subst e; rw [e2z]; exact hv.2.2.2
        · rw [e2 b e] at g2 ⊢; exact hL.2 b hb9 g2
    have hgh : gh (mst (mst U 10 z v) 4 8 (T 0 4 + 1)) U := (gh_mst (by decide)).tr (gh_mst (by decide))
    refine ⟨mst (mst U 10 z v) 4 8 (T 0 4 + 1), ?_, ?_, hLU.gh hgh (fun i hi g1 => ?_), ?_, ?_⟩
    · show gh _ (mst (mst T 2 (lwC T a).toNat (if d = 0 then -1 else T 0 5 + d)) 0 4 (T 0 4 + 1))
      rw [← hve, ← hz, ← hU]; exact hgh
    · show Inv ((mst (mst T 2 (lwC T a).toNat (if d = 0 then -1 else T 0 5 + d)) 0 4 (T 0 4 + 1) 0 2).toNat + 13) _
      rw [← hve, ← hz, ← hU, e02, np_eq hI.1, hU]
      exact hV
    · rw [er 1 i (by decide) (by decide)] at g1
      rw [er 15 i (by decide) (by decide), er 16 i (by decide) (by decide)]
      exact hI.b4 i hi g1
    · show 0 ≤ lwC T a; omega
    · show lwC T a ≤ 200000; omega
  · rw [if_pos h2] at h0; omega
theorem s_takeBack {np : Nat} {T : MT} (hI : Inv np T) (hL : LF T) (a : Int) : stp (cTk T a) := by
  intro h0
  have h0 : exT T a = 0 := h0
  unfold exT at h0
  by_cases h1 : 0 ≤ a ∧ a < 4096
  · rw [if_neg (fun q => q h1)] at h0
    have h2 : T 2 a.toNat ≠ 0 := fun q => by rw [if_pos q] at h0; omega
    have hu := hL.2 a.toNat (by omega) h2
    have hA := hI.2.1.2 a.toNat (by omega)
    have hA1 := hI.2.1.1
    have hV := inv_set hI (i := a.toNat) (by omega) (v := 0) (n := T 0 4 - 1) (by omega) (by rw [if_pos h2, if_neg (by decide)]; omega)
    obtain ⟨U, hU⟩ : ∃ U, U = mst (mst T 2 a.toNat 0) 0 4 (T 0 4 - 1) := ⟨_, rfl⟩
    have er : ∀ r i, r ≠ 2 → r ≠ 0 → U r i = T r i := fun r i q1 q2 => by rw [hU, mst_r q2, mst_r q1]
    have e05 : U 0 5 = T 0 5 := by rw [hU, mst_i (by decide), mst_r (by decide)]
    have e02 : U 0 2 = T 0 2 := by rw [hU, mst_i (by decide), mst_r (by decide)]
    have e2 : ∀ i, i ≠ a.toNat → U 2 i = T 2 i := fun i q => by rw [hU, mst_r (by decide), mst_i q]
    have e2z : U 2 a.toNat = 0 := by rw [hU, mst_r (by decide), mst_eq]
    have hLU : LF U := hL.mono (fun i => er 1 i (by decide) (by decide)) (fun i => er 14 i (by decide) (by decide)) (fun i => er 15 i (by decide) (by decide)) (fun i => er 16 i (by decide) (by decide)) (fun b hb9 g2 => by
      have e : b ≠ a.toNat := fun e => by subst e; exact g2 e2z
      rw [e2 b e] at g2 ⊢
      rw [e05]
      exact ⟨g2, hL.2 b hb9 g2⟩) hI.b4
    have hgh : gh (mst (mst U 10 a.toNat 0) 4 8 (T 0 4 - 1)) U := (gh_mst (by decide)).tr (gh_mst (by decide))
    refine ⟨mst (mst U 10 a.toNat 0) 4 8 (T 0 4 - 1), ?_, ?_, hLU.gh hgh (fun i hi g1 => ?_), ?_, ?_⟩
    · show gh _ (mst (mst T 2 a.toNat 0) 0 4 (T 0 4 - 1))
      rw [← hU]; exact hgh
    · show Inv ((mst (mst T 2 a.toNat 0) 0 4 (T 0 4 - 1) 0 2).toNat + 13) _
      rw [← hU, e02, np_eq hI.1, hU]
      exact hV
    · rw [er 1 i (by decide) (by decide)] at g1
      rw [er 15 i (by decide) (by decide), er 16 i (by decide) (by decide)]
      exact hI.b4 i hi g1
    · show 0 ≤ (if T 2 a.toNat = -1 then 0 else T 2 a.toNat - T 0 5); split <;> omega
    · show (if T 2 a.toNat = -1 then 0 else T 2 a.toNat - T 0 5) ≤ 200000; split <;> omega
  · rw [if_pos h1] at h0; omega
theorem s_pass {np : Nat} {T : MT} (hI : Inv np T) (hL : LF T) (d : Int) : stp (cPs T d) := by
  intro h0
  have h0 : exP T d = 0 := h0
  unfold exP at h0
  by_cases h1 : 1 ≤ d ∧ d ≤ 1000
  · rw [if_neg (fun q => q h1)] at h0
    have h2 : ¬ 100000 - T 0 5 < d := fun q => by rw [if_pos q] at h0; omega
    have hA1 := hI.2.1.1
    have hpb := psN_bd T (T 0 5 + d) 4096
    obtain ⟨D, hD⟩ : ∃ D, D = T 0 5 + d := ⟨_, rfl⟩
    rw [← hD] at hpb
    obtain ⟨P, hP⟩ : ∃ P, P = psN T D 4096 := ⟨_, rfl⟩
    rw [← hP] at hpb
    obtain ⟨U, hU⟩ : ∃ U, U = mst (mst (pasT T D 4096) 0 5 D) 0 4 (T 0 4 - P) := ⟨_, rfl⟩
    have er : ∀ r i, r ≠ 2 → r ≠ 0 → U r i = T r i := fun r i q1 q2 => by rw [hU, mst_r q2, mst_r q2, pasT_r (Or.inl q1)]
    have e05 : U 0 5 = D := by rw [hU, mst_i (by decide), mst_eq]
    have e04 : U 0 4 = T 0 4 - P := by rw [hU, mst_eq]
    have e0 : ∀ i, i ≠ 4 → i ≠ 5 → U 0 i = T 0 i := fun i q1 q2 => by rw [hU, mst_i q1, mst_i q2, pasT_r (Or.inl (by decide))]
    have e2 : ∀ i, U 2 i = if i < 4096 ∧ T 2 i ≠ 0 ∧ T 2 i ≠ -1 ∧ T 2 i ≤ D then 0 else T 2 i := fun i => by rw [hU, mst_r (by decide), mst_r (by decide), pasT_2]
    have hLU : LF U := hL.mono (fun i => er 1 i (by decide) (by decide)) (fun i => er 14 i (by decide) (by decide)) (fun i => er 15 i (by decide) (by decide)) (fun i => er 16 i (by decide) (by decide)) (fun b hb9 g2 => by
      rw [e2] at g2 ⊢
      rw [e05]
      by_cases q : b < 4096 ∧ T 2 b ≠ 0 ∧ T 2 b ≠ -1 ∧ T 2 b ≤ D
      · rw [if_pos q] at g2; exact absurd rfl g2
      · rw [if_neg q] at g2 ⊢
        have := hL.2 b hb9 g2
        refine ⟨g2, ?_⟩
        omega) hI.b4
    obtain ⟨V, hV⟩ : ∃ V : MT, V = fun r i => if r = 10 then (if i < 4096 ∧ 0 < T 10 i ∧ T 10 i ≤ D then 0 else T 10 i) else if r = 4 ∧ i = 9 then D else if r = 4 ∧ i = 8 then T 0 4 - P else U r i := ⟨_, rfl⟩
    have hgh : gh V U := fun r i h => by rw [hV]; show ite _ _ _ = _; rw [if_neg (by omega), if_neg (by omega), if_neg (by omega)]
    have v10 : ∀ i, V 10 i = if i < 4096 ∧ 0 < T 10 i ∧ T 10 i ≤ D then 0 else T 10 i := fun i => by rw [hV]; exact if_pos rfl
    have v4 : ∀ i, i ≠ 9 → i ≠ 8 → V 4 i = U 4 i := fun i q1 q2 => by rw [hV]; show ite _ _ _ = _; rw [if_neg (by decide), if_neg (fun q => q1 q.2), if_neg (fun q => q2 q.2)]
    have v49 : V 4 9 = D := by rw [hV]; show ite _ _ _ = _; rw [if_neg (by decide), if_pos ⟨rfl, rfl⟩]
    have v48 : V 4 8 = T 0 4 - P := by rw [hV]; show ite _ _ _ = _; rw [if_neg (by decide), if_neg (by decide), if_pos ⟨rfl, rfl⟩]
    have vr : ∀ r i, r ≠ 10 → r ≠ 4 → V r i = U r i := fun r i q1 q2 => by rw [hV]; show ite _ _ _ = _; rw [if_neg q1, if_neg (fun q => q2 q.1), if_neg (fun q => q2 q.1)]
    have hVI : Inv np V := by
      refine inv_pass hI (D := D) (P := P) (by omega) hP.symm (fun r i q1 q2 q3 q4 q5 => ?_) (fun i q1 q2 => ?_) (fun i q1 q2 q3 => ?_) (fun i => ?_) v10 ?_ v49 ?_ v48
      · rw [vr r i q2 q5, er r i q1 q4]
      · rw [vr 0 i (by decide) (by decide), e0 i q1 q2]
      · rw [v4 i q3 q2, er 4 i (by decide) (by decide)]
      · rw [vr 2 i (by decide) (by decide), e2]
      · rw [vr 0 5 (by decide) (by decide), e05]
      · rw [vr 0 4 (by decide) (by decide), e04]
    have ec : cPs T d = (exP T d, P, U) := by unfold cPs; rw [← hD, ← hP, ← hU]
    rw [ec]
    refine ⟨V, hgh, ?_, hLU.gh hgh (fun i hi g1 => ?_), ?_, ?_⟩
    · show Inv ((U 0 2).toNat + 13) V
      rw [e0 2 (by decide) (by decide), np_eq hI.1]
      exact hVI
    · rw [er 1 i (by decide) (by decide)] at g1
      rw [er 15 i (by decide) (by decide), er 16 i (by decide) (by decide)]
      exact hI.b4 i hi g1
    · show 0 ≤ P; omega
    · show P ≤ 200000; omega
  · rw [if_pos h1] at h0; omega
/-! a span made -/
theorem LF_make {np : Nat} {T : MT} (hI : Inv np T) (hL : LF T) {a B S o : Int} (hs : isS T a) (hl : liiC T a ≤ 0) : LF (mkT T (T 0 2).toNat a B S o) := by
  have hb := hI.bd hs
  have hV := hI.1.s hs
  have hC := hI.1.1
  obtain ⟨N, hN⟩ : ∃ N, N = (T 0 2).toNat := ⟨_, rfl⟩
  rw [← hN]
  have hTN : T 1 N = 0 ∨ 60 ≤ N := by
    by_cases h60 : N < 60
    · have := hI.1.2 N h60
      omega
    · omega
  have er : ∀ r i, ¬ (i = N ∧ (r = 1 ∨ (13 ≤ r ∧ r ≤ 17))) → ¬ (r = 0 ∧ (i = 2 ∨ i = 7)) → mkT T N a B S o r i = T r i := fun r i q1 q2 => by
    unfold mkT
    rw [if_neg (by omega), if_neg (by omega), if_neg (by omega), if_neg (by omega)]
  have g14 : mkT T N a B S o 14 N = a := by
    unfold mkT
    rw [if_pos ⟨rfl, by decide, by decide⟩]
    rfl
  generalize mkT T N a B S o = U at er g14 ⊢
  have hx : ∀ (b : Int) i, i ≠ N → (hasA U b i ↔ hasA T b i) := fun b i q => by unfold hasA; rw [er 1 i (by omega) (by omega), er 15 i (by omega) (by omega), er 16 i (by omega) (by omega)]
  refine ⟨fun b i j g2 hi hj g1 hp => ?_, fun b hb9 g2 => ?_⟩
  · rw [er 2 b (by omega) (by omega)] at g2
    have hjN : j ≠ N → T 1 j ≠ 0 ∧ T 14 j = i := fun q => by
      rw [er 1 j (by omega) (by omega)] at g1
      rw [er 14 j (by omega) (by omega)] at hp
      exact ⟨g1, hp⟩
    have hiN : i ≠ N := fun e => by
      subst e
      by_cases q : j = i
      · subst q
        rw [g14] at hp
        omega
      · have h3 := hjN q
        have h4 := hI.par hj h3.1 h3.2
        have h5 := hI.1.2 j hj
        omega
    have hiT := (hx b i hiN).mp hi
    have hb4 := hI.b4 i hiT.1 hiT.2.1
    have fin : (∃ k : Nat, hasA T b k ∧ T 14 k = i) → ∃ k : Nat, hasA U b k ∧ U 14 k = i := fun ⟨k, k1, k2⟩ => by
      have hkN : k ≠ N := fun e => by
        subst e
        rcases hTN with h9 | h9
        · exact k1.2.1 h9
        · have := k1.1; omega
      exact ⟨k, (hx b k hkN).mpr k1, by rw [er 14 k (by omega) (by omega)]; exact k2⟩
    by_cases q : j = N
    · subst q
      rw [g14] at hp
      refine fin ?_
      have hia : i = a.toNat := by omega
      by_cases c : ∃ j' : Nat, j' < 60 ∧ T 1 j' ≠ 0 ∧ T 14 j' = a
      · obtain ⟨j', c1, c2, c3⟩ := c
        exact hL.1 b i j' g2 hiT c1 c2 (by omega)
      · exfalso
        have hz : cntC T a (T 15 a.toNat) (T 16 a.toNat) 60 = 0 := by
          rw [cntC_eq]
          exact cnt_z (fun j' c1 c2 c3 => absurd ⟨j', c1, c2, c3⟩ c)
        unfold liiC at hl
        by_cases h4 : T 0 4 = 0
        · have hLn := hI.2.2.2.2.2.2.2.1
          unfold LEN at hLn
          rw [h4] at hLn
          have h6 := lnt_z (f := T 2) (s := 0) (n := 4096) (by rw [← hLn]; exact Int.le_refl 0) b (by have := hiT.2.2.2; omega)
          rw [Nat.zero_add] at h6
          exact g2 h6
        · rw [if_neg (fun q => by rcases q with q | q; exact h4 q; rw [hz] at q; omega)] at hl
          subst hia
          exact g2 (lnt_z2 hl (by omega) hiT.2.2.1 hiT.2.2.2)
    · have h3 := hjN q
      exact fin (hL.1 b i j g2 hiT hj h3.1 h3.2)
  · rw [er 2 b (by omega) (by omega)] at g2 ⊢
    rw [er 0 5 (by omega) (by omega)]
    exact hL.2 b hb9 g2
theorem s_make {np : Nat} {T : MT} (hI : Inv np T) (hL : LF T) {a B S o : Int} {ex : Nat} (hs : isS T a) (hm : T 0 2 < 60) (hS : pw13 S) (hB : B % S = 0) (ho : 0 ≤ o ∧ o < 8) (hp : T 15 a.toNat ≤ B ∧ B + S ≤ T 15 a.toNat + T 16 a.toNat ∧ S ≤ T 16 a.toNat) (hd : ∀ j : Nat, j < 60 → T 1 j ≠ 0 → T 14 j = a → B + S ≤ T 15 j ∨ T 15 j + T 16 j ≤ B) (hl : liiC T a ≤ 0) : ∃ V, gh V (mkT T (T 0 2).toNat a B S o) ∧ Inv ((mkT T (T 0 2).toNat a B S o 0 2).toNat + 13) V ∧ LF V ∧ 0 ≤ T 0 2 ∧ T 0 2 ≤ 200000 := by
  have hV := inv_make2 hI hs hm hS hB ho hp hd (w := 0)
  have hLU := LF_make hI hL (B := B) (S := S) (o := o) hs hl
  have hC := hI.1.1
  have e02 : mkT T (T 0 2).toNat a B S o 0 2 = T 0 2 + 1 := by
    unfold mkT
    rw [if_neg (by omega), if_neg (by omega), if_pos ⟨rfl, rfl⟩]
  have hgh : gh (mkM (mst (mst (mkT T (T 0 2).toNat a B S o) 12 0 0) 4 0 0) (T 0 2).toNat a B S o) (mkT T (T 0 2).toNat a B S o) := fun r i h => by
    unfold mkM
    rw [mst_r (by omega), mst_r (by omega), mst_r (by omega), mst_r (by omega), mst_r (by omega), mst_r (by omega), mst_r (by omega), mst_r (by omega)]
  have hVb := hV.b4
  generalize mkM (mst (mst (mkT T (T 0 2).toNat a B S o) 12 0 0) 4 0 0) (T 0 2).toNat a B S o = V at hV hgh hVb
  refine ⟨V, hgh, ?_, hLU.gh hgh (fun i hi h1 => ?_), by omega, by omega⟩
  · rw [e02, show (T 0 2 + 1).toNat + 13 = np + 1 by omega]
    exact hV
  · have h9 := hVb i hi
    rw [hgh 1 i (by omega), hgh 15 i (by omega), hgh 16 i (by omega)] at h9
    exact h9 h1
theorem s_carveAt {np : Nat} {T : MT} (hI : Inv np T) (hL : LF T) (a B S o : Int) : stp (cCa T a B S o) := by
  intro h0
  have h0 : exCa T a B S o = 0 := h0
  have h9 := (exMa_eq hI a B S o).2.1 h0
  unfold exCa at h0
  obtain ⟨hs, hS, ho, hB, hm, hlt, hin, hcc⟩ := h9
  rw [if_neg (fun q => fsp_neg.mp q hs), if_neg (fun q => q ⟨hS, ho, hB⟩)] at h0
  have hc := Classical.byContradiction (p := T 0 2 < 60 ∧ S < T 16 a.toNat ∧ liiC T a ≤ 0 ∧ (T 15 a.toNat ≤ B ∧ B < T 15 a.toNat + T 16 a.toNat) ∧ cntC T a B S 60 ≤ 0) fun q => by rw [if_neg q] at h0; omega
  have hSp := szp_pw hS
  exact s_make (ex := 0) hI hL hs hm hSp hB.2 ho ⟨hin.1, hI.blk hs hSp (by omega) hB.2 hin, by omega⟩ (hI.cpart hcc) hc.2.2.1
/-- where a new span lies -/
theorem carve_at {np : Nat} {T : MT} (h : Inv np T) {x S w : Int} (hx : isS T x) (hS : pw13 S) (hcb : chB T x S (decide (w = 0)) ≠ -1) : cvB T x S w % S = 0 ∧ T 15 x.toNat ≤ cvB T x S w ∧ cvB T x S w + S ≤ T 15 x.toNat + T 16 x.toNat ∧ ∀ j : Nat, j < 60 → T 1 j ≠ 0 → T 14 j = x → cvB T x S w + S ≤ T 15 j ∨ T 15 j + T 16 j ≤ cvB T x S w := by
  rcases h.chB (S := S) (decide (w = 0)) hx with ⟨h1, -⟩ | ⟨h1, h2, -⟩
  · exact absurd h1 hcb
  · unfold cvB
    generalize chB T x S (decide (w = 0)) = p at h1 h2 ⊢
    generalize roomC T x p = z at h1 h2 ⊢
    obtain ⟨⟨q1, q2, q3, q4, q5⟩, -⟩ := h1
    have hSb := pw13_b hS
    have hzb := pw13_b q1
    have hd := h.cpart (Int.le_of_eq q5)
    by_cases c : w = 2 ∧ S < z
    · rw [if_pos c]
      have hdb := pw_dbl hS q1 c.2
      have e1 : z / 2 % S = 0 := by
        obtain ⟨m, hm⟩ := Int.dvd_of_emod_eq_zero hdb.2.2
        have e2 : z / 2 = S * m := by rw [hm, Int.mul_assoc]; exact Int.mul_ediv_cancel_left _ (by decide)
        rw [e2]
        exact Int.mul_emod_right _ _
      have e3 : p % S = 0 := emod_mul q2 (pw_dvd hS q1 h2)
      have hh := pw_half q1 (by omega)
      refine ⟨by rw [Int.add_emod, e3, e1]; rfl, by omega, by omega, fun j hj j1 j2 => ?_⟩
      have := hd j hj j1 j2
      omega
    · rw [if_neg c]
      refine ⟨emod_mul q2 (pw_dvd hS q1 h2), q3, by omega, fun j hj j1 j2 => ?_⟩
      have := hd j hj j1 j2
      omega
theorem s_carve {np : Nat} {T : MT} (hI : Inv np T) (hL : LF T) (a S o w : Int) : stp (cCv T a S o w) := by
  intro h0
  have h0 : exCv T a S o w = 0 := h0
  unfold exCv at h0
  by_cases h1 : fsp T a < 0
  · rw [if_pos h1] at h0; omega
  rw [if_neg h1] at h0
  by_cases h2 : szp S ∧ (0 ≤ o ∧ o < 8) ∧ (0 ≤ w ∧ w ≤ 2)
  · rw [if_neg (fun q => q h2)] at h0
    have hc := Classical.byContradiction (p := T 0 2 < 60 ∧ S < T 16 a.toNat ∧ liiC T a ≤ 0 ∧ chB T a S (decide (w = 0)) ≠ -1) fun q => by rw [if_neg q] at h0; omega
    have hs : isS T a := Classical.byContradiction fun q => h1 (fsp_neg.mpr q)
    have hSp := szp_pw h2.1
    have hat := carve_at hI hs hSp hc.2.2.2
    exact s_make (ex := 0) hI hL hs hc.1 hSp hat.1 h2.2.1 ⟨hat.2.1, hat.2.2.1, by omega⟩ hat.2.2.2 hc.2.2.1
  · rw [if_pos h2] at h0; omega
theorem s_act {np : Nat} {T : MT} (hI : Inv np T) (hL : LF T) (x : Int32) : stp (actC x T) := by
  unfold actC
  (repeat' split) <;> first | exact s_carve hI hL _ _ _ _ | exact s_carveAt hI hL _ _ _ _ | exact s_remove hI hL _ | exact s_grow hI hL _ | exact s_halve hI hL _ | exact s_setOwner hI hL _ _ | exact s_lend hI hL _ _ | exact s_takeBack hI hL _ | exact s_pass hI hL _
