/-- a whole free block of a span -/
def whB (T : MT) (x p s : Int) : Prop := frB T x p s ∧ ¬ frB T x (p - p % (2 * s)) (2 * s)
/-- a whole free block that begins in the room of a boundary's free address is that room -/
theorem wh_uniq {np : Nat} {T : MT} (h : Inv np T) {x p : Int} (hx : isS T x) (hp : T 15 x.toNat ≤ p ∧ p < T 15 x.toNat + T 16 x.toNat) (hn : ∀ j : Nat, j < 60 → T 1 j ≠ 0 → T 14 j = x → ¬ (T 15 j ≤ p ∧ p < T 15 j + T 16 j)) {p2 s : Int} (hw : whB T x p2 s) (h1 : p ≤ p2) (h2 : p2 < p + roomC T x p) : p2 = p ∧ s = roomC T x p := by
  obtain ⟨r1, r2, r3, r4, r5⟩ := h.room hx hp hn
  have r1b := pw13_b r1
  generalize roomC T x p = w at r1 r2 r3 r4 r5 r1b h2 ⊢
  obtain ⟨⟨s1, s2, s3, s4, s5⟩, hd⟩ := hw
  have s1b := pw13_b s1
  by_cases c : s < w
  · exfalso
    have hdb := pw_dbl s1 r1 c
    have hx2 := emod_mul r2 hdb.2.2
    have ha := al_in (S := 2 * s) (x := p) (y := p + w) (t := p2) (by omega) hx2 (by rw [Int.add_emod, hx2, hdb.2.2]; simp) h1 h2
    refine hd ⟨hdb.1, ha.2.2, by omega, by omega, ?_⟩
    have hr4 := h.cpart (a := x) (B := p) (S := w) (by omega)
    rw [cntC_eq]
    refine cnt_z (fun j hj q1 q2 q3 => ?_)
    have := hr4 j hj q1 q2
    omega
  · have hdv := pw_dvd r1 s1 (by omega)
    have h4 := emod_mul s2 hdv
    have h3 := nest r1 r1 (Int.le_refl _) h4 r2 h1 h2
    obtain rfl : p2 = p := by omega
    have := r5 s s1 s2 s4 (by omega)
    exact ⟨rfl, by omega⟩
/-- what the walk holds of the whole free blocks that begin before it -/
def walkP (T : MT) (x S : Int) (lst : Bool) (n : Nat) (u : Int × Int × Int) : Prop :=
  T 15 x.toNat ≤ u.2.2 ∧ u.2.2 ≤ T 15 x.toNat + T 16 x.toNat ∧ bnd T x u.2.2 ∧ ((n : Int) ≤ u.2.2 - T 15 x.toNat ∨ T 15 x.toNat + T 16 x.toNat ≤ u.2.2) ∧
  ((u.1 = -1 ∧ u.2.1 = 0 ∧ ∀ p s, whB T x p s → S ≤ s → ¬ p < u.2.2) ∨ (whB T x u.1 u.2.1 ∧ S ≤ u.2.1 ∧ u.1 < u.2.2 ∧ ∀ p s, whB T x p s → S ≤ s → p < u.2.2 → if lst = true then u.2.1 < s ∨ (u.2.1 = s ∧ u.1 ≤ p) else s < u.2.1 ∨ (u.2.1 = s ∧ u.1 ≤ p)))
theorem walk_step {np : Nat} {T : MT} (h : Inv np T) {x S : Int} (lst : Bool) (hx : isS T x) (n : Nat) (u : Int × Int × Int) (hu : walkP T x S lst n u) : walkP T x S lst (n + 1) (cbS T x S lst u) := by
  obtain ⟨ch, cr, at_⟩ := u
  obtain ⟨u1, u2, u3, u4, u5⟩ := hu
  dsimp only at u1 u2 u3 u4 u5
  have hbx := h.bd hx
  unfold cbS
  dsimp only
  by_cases c1 : T 15 x.toNat + T 16 x.toNat ≤ at_
  · rw [if_pos c1]
    exact ⟨u1, u2, u3, Or.inr c1, u5⟩
  · rw [if_neg c1]
    have hcb := chC_bd T x at_ 60
    by_cases c2 : 0 ≤ chC T x at_ 60
    · rw [if_pos c2]
      have hc := hcb.2.2 c2
      have hcs : isS T (chC T x at_ 60) := ⟨c2, hcb.2.1, hc.1⟩
      have hbc := h.bd hcs
      have hne : (chC T x at_ 60).toNat ≠ 0 := fun q => by
        have h1 := hc.2.1
        rw [q] at h1
        have := h.geo.1.2.2
        omega
      have hin := h.inp (j := (chC T x at_ 60).toNat) (by omega) hc.1 hne
      rw [hc.2.1] at hin
      have hbd := bnd_child h u3 (c := (chC T x at_ 60).toNat) ⟨by omega, hc⟩
      have hlt60 : (chC T x at_ 60).toNat < 60 := by omega
      generalize (chC T x at_ 60).toNat = c at hc hbc hin hbd hne hlt60 ⊢
      have hno : ∀ p s, whB T x p s → p < T 15 c + T 16 c → p < at_ := fun p s hw q => by
        refine Classical.byContradiction fun q2 => ?_
        obtain ⟨⟨s1, s2, s3, s4, s5⟩, -⟩ := hw
        have s1b := pw13_b s1
        have := h.cpart (a := x) (B := p) (S := s) (by omega) c hlt60 hc.1 hc.2.1
        omega
      refine ⟨by dsimp only; omega, by dsimp only; omega, hbd, by dsimp only; omega, ?_⟩
      dsimp only
      rcases u5 with ⟨v1, v2, v3⟩ | ⟨v1, v2, v3, v4⟩
      · exact Or.inl ⟨v1, v2, fun p s hw hs q => v3 p s hw hs (hno p s hw q)⟩
      · exact Or.inr ⟨v1, v2, by omega, fun p s hw hs q => v4 p s hw hs (hno p s hw q)⟩
    · rw [if_neg c2]
      have hnn : ∀ j : Nat, j < 60 → T 1 j ≠ 0 → T 14 j = x → ¬ (T 15 j ≤ at_ ∧ at_ < T 15 j + T 16 j) := fun j hj q1 q2 q3 => by
        rw [chC_eq] at c2
        exact chA_none (by omega) j hj ⟨q1, q2, q3⟩
      have hrm := h.room hx ⟨u1, by omega⟩ hnn
      have hbd := bnd_room h hx u3 ⟨u1, by omega⟩ hnn
      have hww : whB T x at_ (roomC T x at_) := room_whole h hx u3 ⟨u1, by omega⟩ hnn
      have hun := fun p s (hw : whB T x p s) => wh_uniq h hx ⟨u1, by omega⟩ hnn hw
      generalize roomC T x at_ = w at hrm hbd hww hun ⊢
      have hwb := pw13_b hrm.1
      have hor : ∀ p s, whB T x p s → p < at_ + w → p < at_ ∨ (p = at_ ∧ s = w) := fun p s hw q => by
        by_cases q2 : p < at_
        · exact Or.inl q2
        · exact Or.inr (hun p s hw (by omega) q)
      by_cases c3 : S ≤ w ∧ (ch = -1 ∨ (if lst = true then w < cr else cr < w))
      · rw [if_pos c3]
        refine ⟨by dsimp only; omega, by dsimp only; omega, hbd, by dsimp only; omega, Or.inr ⟨hww, c3.1, by dsimp only; omega, fun p s hw hs q => ?_⟩⟩
        dsimp only at q ⊢
        rcases hor p s hw q with q2 | ⟨q2, q3⟩
        · rcases u5 with ⟨v1, v2, v3⟩ | ⟨v1, v2, v3, v4⟩
          · exact absurd q2 (v3 p s hw hs)
          · have v5 := v4 p s hw hs q2
            have hne : ch ≠ -1 := by
              have := v1.1.2.2.1
              omega
            have c4 := c3.2.resolve_left hne
            cases lst
            · simp at c4 v5 ⊢; omega
            · simp at c4 v5 ⊢; omega
        · subst q2; subst q3
          split <;> exact Or.inr ⟨rfl, Int.le_refl _⟩
      · rw [if_neg c3]
        refine ⟨by dsimp only; omega, by dsimp only; omega, hbd, by dsimp only; omega, ?_⟩
        dsimp only
        rcases u5 with ⟨v1, v2, v3⟩ | ⟨v1, v2, v3, v4⟩
        · refine Or.inl ⟨v1, v2, fun p s hw hs q => ?_⟩
          rcases hor p s hw q with q2 | ⟨q2, q3⟩
          · exact v3 p s hw hs q2
          · exact c3 ⟨by omega, Or.inl v1⟩
        · refine Or.inr ⟨v1, v2, by omega, fun p s hw hs q => ?_⟩
          rcases hor p s hw q with q2 | ⟨q2, q3⟩
          · exact v4 p s hw hs q2
          · have c4 : ¬ (if lst = true then w < cr else cr < w) := fun q4 => c3 ⟨by omega, Or.inr q4⟩
            cases lst
            · simp at c4 ⊢; omega
            · simp at c4 ⊢; omega
theorem wh_room {np : Nat} {T : MT} (h : Inv np T) {x p s : Int} (hx : isS T x) (hw : whB T x p s) : s = roomC T x p := by
  have h1 := hw.1
  obtain ⟨s1, s2, s3, s4, s5⟩ := h1
  have s1b := pw13_b s1
  have hn : ∀ j : Nat, j < 60 → T 1 j ≠ 0 → T 14 j = x → ¬ (T 15 j ≤ p ∧ p < T 15 j + T 16 j) := fun j hj q1 q2 q3 => by
    have := h.cpart (a := x) (B := p) (S := s) (by omega) j hj q1 q2
    omega
  have h2 := h.room hx ⟨s3, by omega⟩ hn
  have h3 := pw13_b h2.1
  exact (wh_uniq h hx ⟨s3, by omega⟩ hn hw (Int.le_refl _) (by omega)).2
/-- what the class chooses: the best of the whole free blocks of at least a size -/
theorem Inv.chB {np : Nat} {T : MT} (h : Inv np T) {x S : Int} (lst : Bool) (hx : isS T x) : (chB T x S lst = -1 ∧ ∀ p s, whB T x p s → ¬ S ≤ s) ∨ (whB T x (chB T x S lst) (roomC T x (chB T x S lst)) ∧ S ≤ roomC T x (chB T x S lst) ∧ ∀ p s, whB T x p s → S ≤ s → if lst = true then roomC T x (chB T x S lst) < s ∨ (roomC T x (chB T x S lst) = s ∧ chB T x S lst ≤ p) else s < roomC T x (chB T x S lst) ∨ (roomC T x (chB T x S lst) = s ∧ chB T x S lst ≤ p)) := by
  have hb := h.bd hx
  have key : ∀ n : Nat, walkP T x S lst n (cbI T x S lst n) := by
    intro n
    induction n with
    | zero =>
      refine ⟨Int.le_refl _, (by show T 15 x.toNat ≤ _; omega), fun p s hp q => absurd q (by have := hp.2.2.1; show ¬ p < T 15 x.toNat; omega), Or.inl (by show ((0 : Nat) : Int) ≤ T 15 x.toNat - T 15 x.toNat; omega), Or.inl ⟨rfl, rfl, fun p s hw hs q => ?_⟩⟩
      have h1 := hw.1.2.2.1
      have h2 : p < T 15 x.toNat := q
      omega
    | succ n ih => exact walk_step h lst hx n _ ih
  have hk := key 4096
  rw [chB_eq]
  generalize cbI T x S lst 4096 = u at hk ⊢
  obtain ⟨u1, u2, u3, u4, u5⟩ := hk
  have hend : T 15 x.toNat + T 16 x.toNat ≤ u.2.2 := by omega
  have hall : ∀ p s, whB T x p s → p < u.2.2 := fun p s hw => by
    have h1 := hw.1
    have h2 := pw13_b h1.1
    have h3 := h1.2.2.2.1
    omega
  rcases u5 with ⟨v1, v2, v3⟩ | ⟨v1, v2, v3, v4⟩
  · exact Or.inl ⟨v1, fun p s hw hs => v3 p s hw hs (hall p s hw)⟩
  · have e := wh_room h hx v1
    rw [e] at v1 v2 v4
    exact Or.inr ⟨v1, v2, fun p s hw hs => v4 p s hw hs (hall p s hw)⟩
