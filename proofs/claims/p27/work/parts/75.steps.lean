/-! the steps: what holds behind each command. The registers 4 to 12 stand for no cells here: they are a second count, kept so that Inv may be used as it is -/
def gh (V U : MT) : Prop := ∀ r i, ¬ (4 ≤ r ∧ r ≤ 12) → V r i = U r i
/-- who has spans in it lends nothing itself; what is lent is lent on -/
def LF (T : MT) : Prop := (∀ a i j : Nat, T 2 a ≠ 0 → hasA T a i → j < 60 → T 1 j ≠ 0 → T 14 j = i → ∃ k : Nat, hasA T a k ∧ T 14 k = i) ∧ ∀ a : Nat, a < 4096 → T 2 a ≠ 0 → T 2 a = -1 ∨ T 0 5 < T 2 a
def stp (c : Cmd) : Prop := c.1 = 0 → ∃ V, gh V c.2.2 ∧ Inv ((c.2.2 0 2).toNat + 13) V ∧ LF V ∧ 0 ≤ c.2.1 ∧ c.2.1 ≤ 200000
theorem gh_mst {U : MT} {r i : Nat} {v : Int} (h : 4 ≤ r ∧ r ≤ 12) : gh (mst U r i v) U := fun r' i' h' => mst_r (by omega)
theorem gh.tr {V U W : MT} (h1 : gh V U) (h2 : gh U W) : gh V W := fun r i h => (h1 r i h).trans (h2 r i h)
theorem LF.mono {T U : MT} (h : LF T) (e1 : ∀ i, U 1 i = T 1 i) (e14 : ∀ i, U 14 i = T 14 i) (e15 : ∀ i, U 15 i = T 15 i) (e16 : ∀ i, U 16 i = T 16 i) (e2 : ∀ a, a < 4096 → U 2 a ≠ 0 → T 2 a ≠ 0 ∧ (U 2 a = -1 ∨ U 0 5 < U 2 a)) (hb : ∀ i, i < 60 → T 1 i ≠ 0 → T 15 i + T 16 i ≤ 4096) : LF U := by
  have hx : ∀ (a : Int) i, hasA U a i ↔ hasA T a i := fun a i => by unfold hasA; rw [e1, e15, e16]
  refine ⟨fun a i j h2 hi hj h1 hp => ?_, fun a ha h2 => (e2 a ha h2).2⟩
  rw [hx] at hi
  rw [e1] at h1
  rw [e14] at hp
  have hab := hb i hi.1 hi.2.1
  obtain ⟨k, k1, k2⟩ := h.1 a i j (e2 a (by have := hi.2.2.2; omega) h2).1 hi hj h1 hp
  exact ⟨k, (hx _ _).mpr k1, by rw [e14]; exact k2⟩
theorem Inv.b4 {np : Nat} {T : MT} (h : Inv np T) (i : Nat) (hi : i < 60) (h1 : T 1 i ≠ 0) : T 15 i + T 16 i ≤ 4096 := by
  have := h.1.2 i hi
  omega
theorem LF.gh {V U : MT} (h : LF U) (g : gh V U) (hb : ∀ i, i < 60 → U 1 i ≠ 0 → U 15 i + U 16 i ≤ 4096) : LF V := by
  refine h.mono (fun i => g 1 i (by omega)) (fun i => g 14 i (by omega)) (fun i => g 15 i (by omega)) (fun i => g 16 i (by omega)) (fun a ha h2 => ?_) hb
  rw [g 2 a (by omega)] at h2 ⊢
  rw [g 0 5 (by omega)]
  exact ⟨h2, h.2 a ha h2⟩
theorem ex3 {T : MT} {a : Int} {C : Prop} [Decidable C] (h : (if fsp T a < 0 then 1 else if C then 0 else 3 : Nat) = 0) : isS T a ∧ C := by
  by_cases h1 : fsp T a < 0
  · rw [if_pos h1] at h; omega
  · rw [if_neg h1] at h
    by_cases h2 : C
    · exact ⟨Classical.byContradiction fun q => h1 (fsp_neg.mpr q), h2⟩
    · rw [if_neg h2] at h; omega
theorem lnt_z {f : Nat → Int} {s n : Nat} (h : lnt f s n ≤ 0) : ∀ i, i < n → f (s + i) = 0 := by
  induction n with
  | zero => exact fun i hi => absurd hi (by omega)
  | succ n ih =>
    intro i hi
    have hb := lnt_bd f s n
    have e : lnt f s (n + 1) = lnt f s n + (if f (s + n) ≠ 0 then 1 else 0) := rfl
    by_cases q : f (s + n) ≠ 0
    · rw [if_pos q] at e; omega
    · rw [if_neg q] at e
      by_cases e2 : i = n
      · subst e2; exact Classical.byContradiction fun h9 => q h9
      · exact ih (by omega) i (by omega)
theorem lnt_z2 {f : Nat → Int} {b z : Int} (h : lnt f b.toNat z.toNat ≤ 0) (hb : 0 ≤ b) {a : Nat} (h1 : b ≤ a) (h2 : (a : Int) < b + z) : f a = 0 := by
  have h3 := lnt_z h (a - b.toNat) (by omega)
  rw [show b.toNat + (a - b.toNat) = a by omega] at h3
  exact h3
theorem Inv.upx {np : Nat} {T : MT} (h : Inv np T) {a : Int} {i : Nat} (hi : hasA T a i) (j : Nat) : i < j → hasA T a j → ∃ k : Nat, hasA T a k ∧ T 14 k = i := by
  induction j using Nat.strongRecOn with
  | _ j ih =>
    intro hij hj
    have hp := h.hasP hj (by omega)
    have hc := h.chain i j hij hi hj
    by_cases e : T 14 j = i
    · exact ⟨j, hj, e⟩
    · exact ih (T 14 j).toNat (by omega) (by omega) hp.2.2.1
theorem Inv.par {np : Nat} {T : MT} (h : Inv np T) {j : Nat} (hj : j < 60) (h1 : T 1 j ≠ 0) {i : Nat} (hp : T 14 j = i) : j ≠ 0 ∧ i < j := by
  have h0 : j ≠ 0 := by
    rintro rfl
    have := h.geo.1.2.2
    omega
  have := h.inp hj h1 h0
  omega
/-! remove -/
theorem s_remove {np : Nat} {T : MT} (hI : Inv np T) (hL : LF T) (a : Int) : stp (cRm T a) := by
  intro h0
  obtain ⟨hs, hc1, hc2, hc3⟩ := ex3 (T := T) (a := a) h0
  have hb := hI.bd hs
  have hne := (hI.p0 hs).mp hc1
  have hk := hI.nokids hs hc2
  obtain ⟨U, hU⟩ : ∃ U, U = mst (mst T 1 a.toNat 0) 0 7 0 := ⟨_, rfl⟩
  have u02 : U 0 2 = T 0 2 := by rw [hU, mst_i (by decide), mst_r (by decide)]
  have e1 : ∀ i, U 1 i = if i = a.toNat then 0 else T 1 i := fun i => by
    rw [hU, mst_r (by decide)]
    unfold mst
    by_cases e : i = a.toNat
    · rw [if_pos ⟨rfl, e⟩, if_pos e]
    · rw [if_neg (fun q => e q.2), if_neg e]
  have er : ∀ r i, r ≠ 1 → r ≠ 0 → U r i = T r i := fun r i q1 q2 => by rw [hU, mst_r q2, mst_r q1]
  have e05 : U 0 5 = T 0 5 := by rw [hU, mst_i (by decide), mst_r (by decide)]
  have hUi : Inv np (mst U 9 a.toNat 0) := by
    refine inv_remove hI hs hne hk (fun r i q1 q2 q3 q4 q5 => ?_) ?_ ?_ ?_
    · rw [mst_ne q2, hU, mst_ne q3, mst_ne q1]
    · rw [mst_r (by decide), e1, if_pos rfl]
    · rw [mst_eq]
    · rw [mst_r (by decide), hU, mst_eq]
  have hLU : LF U := by
    refine ⟨fun b i j h2 hi hj h1 hp => ?_, fun b hb9 h2 => ?_⟩
    · rw [er 2 b (by decide) (by decide)] at h2
      have hi2 : i ≠ a.toNat := fun e => by have := hi.2.1; rw [e1, if_pos e] at this; exact this rfl
      have hj2 : j ≠ a.toNat := fun e => by rw [e1, if_pos e] at h1; exact h1 rfl
      rw [e1, if_neg hj2] at h1
      rw [er 14 j (by decide) (by decide)] at hp
      have hi3 : hasA T b i := by
        obtain ⟨q1, q2, q3, q4⟩ := hi
        rw [e1, if_neg hi2] at q2
        rw [er 15 i (by decide) (by decide)] at q3 q4
        rw [er 16 i (by decide) (by decide)] at q4
        exact ⟨q1, q2, q3, q4⟩
      obtain ⟨k, k1, k2⟩ := hL.1 b i j h2 hi3 hj h1 hp
      have hk2 : k ≠ a.toNat := fun e => by
        subst e
        exact h2 (lnt_z2 hc3 hb.2.2.2.1 k1.2.2.1 k1.2.2.2)
      refine ⟨k, ⟨k1.1, by rw [e1, if_neg hk2]; exact k1.2.1, by rw [er 15 k (by decide) (by decide)]; exact k1.2.2.1, by rw [er 15 k (by decide) (by decide), er 16 k (by decide) (by decide)]; exact k1.2.2.2⟩, by rw [er 14 k (by decide) (by decide)]; exact k2⟩
    · rw [er 2 b (by decide) (by decide)] at h2 ⊢
      rw [e05]
      exact hL.2 b hb9 h2
  have hnp : (U 0 2).toNat + 13 = np := by rw [u02]; exact np_eq hI.1
  refine ⟨mst U 9 a.toNat 0, ?_, ?_, hLU.gh (gh_mst (by decide)) (fun i hi h1 => ?_), ?_, ?_⟩
  · rw [hU]; exact gh_mst (by decide)
  · show Inv ((mst (mst T 1 a.toNat 0) 0 7 0 0 2).toNat + 13) _
    rw [← hU, hnp]
    exact hUi
  · rw [er 15 i (by decide) (by decide), er 16 i (by decide) (by decide)]
    rw [e1] at h1
    refine hI.b4 i hi ?_
    split at h1
    · exact absurd rfl h1
    · exact h1
  · show 0 ≤ T 16 a.toNat; omega
  · show T 16 a.toNat ≤ 200000; omega
/-! a span's place and size have changed -/
theorem LF_grow {np : Nat} {T U : MT} (hI : Inv np T) (hL : LF T) {a B S : Int} (hs : isS T a) (hne : a ≠ 0) (hB : B ≤ T 15 a.toNat ∧ T 15 a.toNat + T 16 a.toNat ≤ B + S) (hp : T 15 (T 14 a.toNat).toNat ≤ B ∧ B + S ≤ T 15 (T 14 a.toNat).toNat + T 16 (T 14 a.toNat).toNat)
    (hsb : ∀ j : Nat, j < 60 → j ≠ a.toNat → T 1 j ≠ 0 → T 14 j = T 14 a.toNat → B + S ≤ T 15 j ∨ T 15 j + T 16 j ≤ B)
    (er : ∀ r i, ¬ ((r = 15 ∨ r = 16) ∧ i = a.toNat) → ¬ (r = 0 ∧ i = 7) → U r i = T r i) (g15 : U 15 a.toNat = B) (g16 : U 16 a.toNat = S) : LF U := by
  have hb := hI.bd hs
  have hin := hI.inp (j := a.toNat) (by omega) hs.2.2 (by omega)
  have e1 : ∀ i, U 1 i = T 1 i := fun i => er 1 i (by omega) (by omega)
  have e14 : ∀ i, U 14 i = T 14 i := fun i => er 14 i (by omega) (by omega)
  have e15 : ∀ i, i ≠ a.toNat → U 15 i = T 15 i ∧ U 16 i = T 16 i := fun i h => ⟨er 15 i (by omega) (by omega), er 16 i (by omega) (by omega)⟩
  have up : ∀ (b : Int) i, hasA T b i → hasA U b i := fun b i ⟨q1, q2, q3, q4⟩ => by
    by_cases e : i = a.toNat
    · subst e
      exact ⟨q1, by rw [e1]; exact q2, by rw [g15]; omega, by rw [g15, g16]; omega⟩
    · have h9 := e15 i e
      exact ⟨q1, by rw [e1]; exact q2, by rw [h9.1]; exact q3, by rw [h9.1, h9.2]; exact q4⟩
  have dn : ∀ (b : Int) i, i ≠ a.toNat → hasA U b i → hasA T b i := fun b i e ⟨q1, q2, q3, q4⟩ => by
    have h9 := e15 i e
    rw [e1] at q2
    rw [h9.1] at q3
    rw [h9.1, h9.2] at q4
    exact ⟨q1, q2, q3, q4⟩
  refine ⟨fun b i j h2 hi hj h1 hpj => ?_, fun b hb9 h2 => ?_⟩
  · rw [er 2 b (by omega) (by omega)] at h2
    rw [e1] at h1
    rw [e14] at hpj
    have fin : hasA T b i → ∃ k : Nat, hasA U b k ∧ U 14 k = i := fun hT => by
      obtain ⟨k, k1, k2⟩ := hL.1 b i j h2 hT hj h1 hpj
      exact ⟨k, up _ _ k1, by rw [e14]; exact k2⟩
    by_cases e : i = a.toNat
    · by_cases c : hasA T b i
      · exact fin c
      · exfalso
        subst e
        have hq : B ≤ (b : Int) ∧ (b : Int) < B + S := by
          obtain ⟨-, -, q3, q4⟩ := hi
          rw [g15] at q3
          rw [g15, g16] at q4
          exact ⟨q3, q4⟩
        have hpa : hasA T b (T 14 a.toNat).toNat := ⟨by have := hin.2.2.1.2.1; omega, hin.2.2.1.2.2, by omega, by omega⟩
        obtain ⟨k, k1, k2⟩ := hL.1 b (T 14 a.toNat).toNat a.toNat h2 hpa (by omega) hs.2.2 (by omega)
        have hka : k ≠ a.toNat := fun e => by subst e; exact c k1
        have h9 := hsb k k1.1 hka k1.2.1 (by omega)
        have h8 := k1.2.2
        omega
    · exact fin (dn _ _ e hi)
  · rw [er 2 b (by omega) (by omega)] at h2 ⊢
    rw [er 0 5 (by omega) (by omega)]
    exact hL.2 b hb9 h2
theorem s_grow {np : Nat} {T : MT} (hI : Inv np T) (hL : LF T) (a : Int) : stp (cGr T a) := by
  intro h0
  obtain ⟨hs, hc⟩ := ex3 (T := T) (a := a) h0
  have hb := hI.bd hs
  have hne := (hI.p0 hs).mp hc.1
  have hg := grow_geo hI hs hne hc.2.1
  have hin := hI.inp (j := a.toNat) (by omega) hs.2.2 (by omega)
  have hbp := hI.bd hin.2.2.1
  have hcc : cnb (T 1) (T 14) (T 15) (T 16) (T 14 a.toNat) (grB T a) (2 * T 16 a.toNat) a 60 ≤ 0 := by
    have e1 := cnt_but (h := T 1) (q := T 14) (b := T 15) (z := T 16) (x := T 14 a.toNat) (B := grB T a) (S := 2 * T 16 a.toNat) (i := a.toNat) (n := 60)
    rw [if_pos ⟨by omega, hs.2.2, rfl, by omega, by omega⟩, Int.toNat_of_nonneg hb.1] at e1
    have h3 := hc.2.2
    rw [cntC_eq, e1] at h3
    generalize cnb (T 1) (T 14) (T 15) (T 16) (T 14 a.toNat) (grB T a) (2 * T 16 a.toNat) a 60 = z at h3 ⊢
    omega
  have hsb : ∀ j : Nat, j < 60 → j ≠ a.toNat → T 1 j ≠ 0 → T 14 j = T 14 a.toNat → grB T a + 2 * T 16 a.toNat ≤ T 15 j ∨ T 15 j + T 16 j ≤ grB T a := by
    intro j hj q1 q2 q3
    have key : ∀ n, cnb (T 1) (T 14) (T 15) (T 16) (T 14 a.toNat) (grB T a) (2 * T 16 a.toNat) a n ≤ 0 → j < n → ¬ (T 15 j < grB T a + 2 * T 16 a.toNat ∧ grB T a < T 15 j + T 16 j) := by
      intro n
      induction n with
      | zero => exact fun _ q => absurd q (by omega)
      | succ n ih =>
        intro w1 w2 w3
        have hnb := cnb_bd (T 1) (T 14) (T 15) (T 16) (T 14 a.toNat) (grB T a) (2 * T 16 a.toNat) a n
        have ee : cnb (T 1) (T 14) (T 15) (T 16) (T 14 a.toNat) (grB T a) (2 * T 16 a.toNat) a (n + 1) = cnb (T 1) (T 14) (T 15) (T 16) (T 14 a.toNat) (grB T a) (2 * T 16 a.toNat) a n + (if T 1 n ≠ 0 ∧ T 14 n = T 14 a.toNat ∧ (n : Int) ≠ a ∧ T 15 n < grB T a + 2 * T 16 a.toNat ∧ grB T a < T 15 n + T 16 n then 1 else 0) := rfl
        by_cases w4 : j = n
        · subst w4
          rw [if_pos ⟨q2, q3, by omega, w3⟩] at ee
          omega
        · refine ih ?_ (by omega) w3
          split at ee <;> omega
    have h9 := key 60 hcc hj
    omega
  obtain ⟨U, hU⟩ : ∃ U, U = mst (mst (mst T 15 a.toNat (grB T a)) 16 a.toNat (2 * T 16 a.toNat)) 0 7 0 := ⟨_, rfl⟩
  have er : ∀ r i, ¬ ((r = 15 ∨ r = 16) ∧ i = a.toNat) → ¬ (r = 0 ∧ i = 7) → U r i = T r i := fun r i q1 q2 => by rw [hU, mst_ne q2, mst_ne (by omega), mst_ne (by omega)]
  have g15 : U 15 a.toNat = grB T a := by rw [hU, mst_r (by decide), mst_r (by decide), mst_eq]
  have g16 : U 16 a.toNat = 2 * T 16 a.toNat := by rw [hU, mst_r (by decide), mst_eq]
  have hLU := LF_grow hI hL hs hne ⟨hg.2.2.2.2.1, hg.2.2.2.2.2⟩ ⟨hg.2.1, hg.2.2.1⟩ hsb er g15 g16
  have hV : Inv np (mst (mst U 5 a.toNat (grB T a)) 6 a.toNat (2 * T 16 a.toNat)) := by
    refine inv_size hI (a := a) (B := grB T a) (S := 2 * T 16 a.toNat) hs hne hg.1 hg.2.2.2.1 (by omega) ⟨hg.2.1, hg.2.2.1, by omega⟩ (fun j hj q1 q2 => ?_) hsb (fun r i q1 q2 q3 q4 => ?_) ?_ ?_ ?_ ?_ ?_
    · have h0j := hI.par hj q1 (i := a.toNat) (by omega)
      have h6 := hI.inp hj q1 h0j.1
      rw [q2] at h6
      omega
    · rw [mst_ne (by omega), mst_ne (by omega), er r i (by omega) q2]
    · rw [mst_r (by decide), mst_eq]
    · rw [mst_eq]
    · rw [mst_r (by decide), mst_r (by decide), g15]
    · rw [mst_r (by decide), mst_r (by decide), g16]
    · rw [mst_r (by decide), mst_r (by decide), hU, mst_eq]
  have hgh : gh (mst (mst U 5 a.toNat (grB T a)) 6 a.toNat (2 * T 16 a.toNat)) U := (gh_mst (by decide)).tr (gh_mst (by decide))
  have hnp : (U 0 2).toNat + 13 = np := by rw [er 0 2 (by omega) (by omega)]; exact np_eq hI.1
  refine ⟨mst (mst U 5 a.toNat (grB T a)) 6 a.toNat (2 * T 16 a.toNat), ?_, ?_, hLU.gh hgh (fun i hi h1 => ?_), ?_, ?_⟩
  · rw [hU] at hgh ⊢; exact hgh
  · show Inv ((mst (mst (mst T 15 a.toNat (grB T a)) 16 a.toNat (2 * T 16 a.toNat)) 0 7 0 0 2).toNat + 13) _
    rw [← hU, hnp]
    exact hV
  · have h9 := hV.b4 i hi
    rw [hgh 1 i (by omega), hgh 15 i (by omega), hgh 16 i (by omega)] at h9
    exact h9 h1
  · show 0 ≤ grB T a; omega
  · show grB T a ≤ 200000; omega
theorem s_halve {np : Nat} {T : MT} (hI : Inv np T) (hL : LF T) (a : Int) : stp (cHv T a) := by
  intro h0
  obtain ⟨hs, hc⟩ := ex3 (T := T) (a := a) h0
  have hb := hI.bd hs
  have hg := hI.geo.2.1 a.toNat (by omega) hs.2.2
  have hph := pw_half hg.1 hc.2.1
  have hne := (hI.p0 hs).mp hc.1
  have hin := hI.inp (j := a.toNat) (by omega) hs.2.2 (by omega)
  obtain ⟨U, hU⟩ : ∃ U, U = mst (mst T 16 a.toNat (T 16 a.toNat / 2)) 0 7 0 := ⟨_, rfl⟩
  have er : ∀ r i, ¬ (r = 16 ∧ i = a.toNat) → ¬ (r = 0 ∧ i = 7) → U r i = T r i := fun r i q1 q2 => by rw [hU, mst_ne q2, mst_ne q1]
  have g16 : U 16 a.toNat = T 16 a.toNat / 2 := by rw [hU, mst_r (by decide), mst_eq]
  have hV : Inv np (mst U 6 a.toNat (T 16 a.toNat / 2)) := by
    refine inv_size hI (a := a) (B := T 15 a.toNat) (S := T 16 a.toNat / 2) hs hne hph.1 (emod_mul hg.2.1 (by rw [hph.2]; rw [Int.mul_ediv_cancel_left _ (by decide)]; exact Int.mul_emod_left _ _)) (by omega) (by omega) (halve_kids hI hs hc.2.1 hc.2.2.1) (fun j hj q1 q2 q3 => ?_) (fun r i q1 q2 q3 q4 => ?_) ?_ ?_ ?_ ?_ ?_
    · have := hI.geo.2.2 a.toNat j (by omega) hj (fun q => q1 q.symm) hs.2.2 q2 q3.symm
      omega
    · rw [mst_ne (by omega), er r i (by omega) q2]
    · rw [mst_r (by decide), er 5 _ (by omega) (by omega)]; exact (hI.eqs hs).2.1
    · rw [mst_eq]
    · rw [mst_r (by decide), er 15 _ (by omega) (by omega)]
    · rw [mst_r (by decide), g16]
    · rw [mst_r (by decide), hU, mst_eq]
  have e1 : ∀ i, U 1 i = T 1 i := fun i => er 1 i (by omega) (by omega)
  have e14 : ∀ i, U 14 i = T 14 i := fun i => er 14 i (by omega) (by omega)
  have e15 : ∀ i, U 15 i = T 15 i := fun i => er 15 i (by omega) (by omega)
  have e16 : ∀ i, i ≠ a.toNat → U 16 i = T 16 i := fun i h => er 16 i (by omega) (by omega)
  have dn : ∀ (b : Int) i, hasA U b i → hasA T b i := fun b i ⟨q1, q2, q3, q4⟩ => by
    rw [e1] at q2
    rw [e15] at q3 q4
    by_cases e : i = a.toNat
    · subst e
      rw [g16] at q4
      exact ⟨q1, q2, q3, by omega⟩
    · rw [e16 i e] at q4
      exact ⟨q1, q2, q3, q4⟩
  have up : ∀ (b : Nat) i, T 2 b ≠ 0 → hasA T b i → hasA U b i := fun b i h2 ⟨q1, q2, q3, q4⟩ => by
    by_cases e : i = a.toNat
    · subst e
      refine ⟨q1, by rw [e1]; exact q2, by rw [e15]; exact q3, ?_⟩
      rw [e15, g16]
      refine Classical.byContradiction fun q => h2 (lnt_z2 hc.2.2.2 (by omega) (by omega) (by omega))
    · exact ⟨q1, by rw [e1]; exact q2, by rw [e15]; exact q3, by rw [e15, e16 i e]; exact q4⟩
  have hLU : LF U := by
    refine ⟨fun b i j h2 hi hj h1 hp => ?_, fun b hb9 h2 => ?_⟩
    · rw [er 2 b (by omega) (by omega)] at h2
      rw [e1] at h1
      rw [e14] at hp
      obtain ⟨k, k1, k2⟩ := hL.1 b i j h2 (dn _ _ hi) hj h1 hp
      exact ⟨k, up _ _ h2 k1, by rw [e14]; exact k2⟩
    · rw [er 2 b (by omega) (by omega)] at h2 ⊢
      rw [er 0 5 (by omega) (by omega)]
      exact hL.2 b hb9 h2
  have hgh : gh (mst U 6 a.toNat (T 16 a.toNat / 2)) U := gh_mst (by decide)
  have hnp : (U 0 2).toNat + 13 = np := by rw [er 0 2 (by omega) (by omega)]; exact np_eq hI.1
  refine ⟨mst U 6 a.toNat (T 16 a.toNat / 2), ?_, ?_, hLU.gh hgh (fun i hi h1 => ?_), ?_, ?_⟩
  · rw [hU] at hgh ⊢; exact hgh
  · show Inv ((mst (mst T 16 a.toNat (T 16 a.toNat / 2)) 0 7 0 0 2).toNat + 13) _
    rw [← hU, hnp]
    exact hV
  · have h9 := hV.b4 i hi
    rw [hgh 1 i (by omega), hgh 15 i (by omega), hgh 16 i (by omega)] at h9
    exact h9 h1
  · show 0 ≤ T 16 a.toNat / 2; omega
  · show T 16 a.toNat / 2 ≤ 200000; omega
