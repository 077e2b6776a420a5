theorem rmE_spec {h q b : Nat → Int} {x a e : Int} (n : Nat) : rmE h q b x a e n ≤ e ∧ (∀ j, j < n → h j ≠ 0 → q j = x → a < b j → rmE h q b x a e n ≤ b j) ∧ (rmE h q b x a e n = e ∨ ∃ j, j < n ∧ h j ≠ 0 ∧ q j = x ∧ a < b j ∧ rmE h q b x a e n = b j) := by
  induction n with
  | zero => exact ⟨Int.le_refl _, fun j hj => absurd hj (by omega), Or.inl rfl⟩
  | succ n ih =>
    obtain ⟨i1, i2, i3⟩ := ih
    have e9 : rmE h q b x a e (n + 1) = if h n ≠ 0 ∧ q n = x ∧ a < b n then min (rmE h q b x a e n) (b n) else rmE h q b x a e n := rfl
    by_cases c : h n ≠ 0 ∧ q n = x ∧ a < b n
    · rw [if_pos c] at e9
      rw [e9]
      refine ⟨by omega, fun j hj h1 h2 h3 => ?_, ?_⟩
      · by_cases e1 : j = n
        · subst e1; omega
        · have := i2 j (by omega) h1 h2 h3; omega
      · by_cases c2 : b n < rmE h q b x a e n
        · exact Or.inr ⟨n, by omega, c.1, c.2.1, c.2.2, by omega⟩
        · rcases i3 with c3 | ⟨j, c3, c4, c5, c6, c7⟩
          · left; omega
          · exact Or.inr ⟨j, by omega, c4, c5, c6, by omega⟩
    · rw [if_neg c] at e9
      rw [e9]
      refine ⟨i1, fun j hj h1 h2 h3 => ?_, ?_⟩
      · by_cases e1 : j = n
        · subst e1; exact absurd ⟨h1, h2, h3⟩ c
        · exact i2 j (by omega) h1 h2 h3
      · rcases i3 with c3 | ⟨j, c3, c4⟩
        · exact Or.inl c3
        · exact Or.inr ⟨j, by omega, c4⟩
/-- the room at an address that no child has: the greatest aligned free block there -/
theorem Inv.room {np : Nat} {T : MT} (h : Inv np T) {x p : Int} (hx : isS T x) (hp : T 15 x.toNat ≤ p ∧ p < T 15 x.toNat + T 16 x.toNat) (hn : ∀ j : Nat, j < 60 → T 1 j ≠ 0 → T 14 j = x → ¬ (T 15 j ≤ p ∧ p < T 15 j + T 16 j)) : pw13 (roomC T x p) ∧ p % roomC T x p = 0 ∧ p + roomC T x p ≤ T 15 x.toNat + T 16 x.toNat ∧ cntC T x p (roomC T x p) 60 = 0 ∧ ∀ t, pw13 t → p % t = 0 → p + t ≤ T 15 x.toNat + T 16 x.toNat → cntC T x p t 60 ≤ 0 → t ≤ roomC T x p := by
  have hr := rmE_spec (h := T 1) (q := T 14) (b := T 15) (x := x) (a := p) (e := T 15 x.toNat + T 16 x.toNat) 60
  have hg := rmE_gt (T 1) (T 14) (T 15) x p (T 15 x.toNat + T 16 x.toNat) hp.2 60
  have hroom := roomC_eq T x p
  generalize rmE (T 1) (T 14) (T 15) x p (T 15 x.toNat + T 16 x.toNat) 60 = E at hr hg hroom
  have hs := gbk_spec hg
  rw [← hroom] at hs
  generalize roomC T x p = w at hs ⊢
  have hw := pw13_b hs.1
  refine ⟨hs.1, hs.2.1, by omega, ?_, fun t ht hat hfit hc => hs.2.2.2 t ht hat ?_⟩
  · rw [cntC_eq]
    refine cnt_z (fun j hj h1 h2 h3 => ?_)
    have h4 := hn j hj h1 h2
    have h5 := hr.2.1 j hj h1 h2
    omega
  · rcases hr.2.2 with q | ⟨j, q1, q2, q3, q4, q5⟩
    · omega
    · have h1 := h.cpart hc j q1 q2 q3
      have h2 := pw13_b ht
      have h3 := h.1.2 j q1
      omega
