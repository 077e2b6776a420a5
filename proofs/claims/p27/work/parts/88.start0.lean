/-- the memory at the start -/
def T00 : MT := fun r i => if i = 0 ∧ (r = 1 ∨ r = 9) then 1 else if (r = 0 ∧ i = 2) ∨ (r = 4 ∧ i = 6) then 1 else if i = 0 ∧ (r = 6 ∨ r = 16) then 4096 else if i = 0 ∧ (r = 7 ∨ r = 14) then -1 else 0
def ad0 (y : Nat) (u : Nat × Nat × Nat × Nat) : Nat → Nat := fun k => match k with
  | 0 => y
  | 1 => u.2.1
  | 2 => u.2.2.1
  | 3 => u.2.2.2
  | 13 => u.1
  | _ => 0
theorem T00_z {r : Nat} (h1 : r ≠ 1) (h2 : r ≠ 9) (h3 : r ≠ 0) (h4 : r ≠ 4) (h5 : r ≠ 6) (h6 : r ≠ 16) (h7 : r ≠ 7) (h8 : r ≠ 14) (j : Nat) : T00 r j = 0 := by
  unfold T00
  rw [if_neg (by omega), if_neg (by omega), if_neg (by omega), if_neg (by omega)]
theorem T00_u (r : Nat) (v : Int) (h0 : T00 r 0 = v) (h : r = 6 ∨ r = 7 ∨ r = 9) : (fun j => zI (T00 r j)) = upd (fun _ => zI 0) (zI 0).toNatClampNeg (zI v) := by
  funext j
  by_cases hj : j = 0
  · subst hj
    rw [h0]
    rfl
  · have e1 : T00 r j = 0 := by
      unfold T00
      rw [if_neg (by omega), if_neg (by omega), if_neg (by omega), if_neg (by omega)]
    rw [e1]
    show zI 0 = if j = (zI 0).toNatClampNeg then _ else zI 0
    rw [show (zI 0).toNatClampNeg = 0 by decide, if_neg hj]
theorem T00_m (ad : Nat → Nat) : (fun j => gO ad (mkd T00 j)) = va_up (fun _ => none) (zI 0).toNatClampNeg (some (ad 13)) := by
  funext j
  by_cases hj : j = 0
  · subst hj
    rfl
  · have e1 : T00 1 j = 0 := by
      unfold T00
      rw [if_neg (by omega), if_neg (by omega), if_neg (by omega), if_neg (by omega)]
    show gO ad (if T00 1 j = 0 then -1 else (j : Int)) = if j = (zI 0).toNatClampNeg then _ else none
    rw [if_pos e1, show (zI 0).toNatClampNeg = 0 by decide, if_neg hj]
    rfl
theorem gW0 (cs : CSt) (y : Nat) (u : Nat × Nat × Nat × Nat) : gW cs 14 (ad0 y u) T00 = [(y, .inr (1, [.ref u.1, .ref u.2.1, .int (zI (1)), .ref u.2.2.1, .int (zI (0)), .int (zI (0)), .ref u.2.2.2, .int (zI (0))])), (u.2.1, .inl (cs.2.1 2, 60, .inr (.inr (.inr (.inr (va_up (fun _ => none) (zI (0)).toNatClampNeg (some u.1))))))), (u.2.2.1, .inl (cs.2.1 0, 4096, .inl (fun _ => zI 0))), (u.2.2.2, .inl (cs.2.1 0, 4096, .inl (fun _ => zI 0))), (u.1, .inr (0, [.int (zI (0)), .null, .int (zI (0)), .int (zI (4096)), .int (zI (0))]))] := by
  have ez : ∀ r, r = 2 ∨ r = 3 → (fun j => zI (T00 r j)) = fun _ => zI 0 := fun r hr => funext fun j => by rw [T00_z (by omega) (by omega) (by omega) (by omega) (by omega) (by omega) (by omega) (by omega)]
  have e1 := T00_m (ad0 y u)
  have hr : List.range (14 - 9) = [0, 1, 2, 3, 4] := by decide
  have g0 : gI 0 = 0 := by decide
  have g1 : gI 1 = 1 := by decide
  have g2 : gI 2 = 2 := by decide
  have g3 : gI 3 = 3 := by decide
  have g4 : gI 4 = 13 := by decide
  unfold gW
  rw [hr]
  simp only [List.map_cons, List.map_nil, g0, g1, g2, g3, g4, cel, ez 2 (by decide), ez 3 (by decide), e1]
  rfl
theorem Inv00 : Inv 14 T00 := by
  have hz : ∀ r j, (r = 2 ∨ r = 3 ∨ r = 5 ∨ r = 8 ∨ r = 10 ∨ r = 11 ∨ r = 12 ∨ r = 13 ∨ r = 15 ∨ r = 17) → T00 r j = 0 := fun r j h => T00_z (by omega) (by omega) (by omega) (by omega) (by omega) (by omega) (by omega) (by omega) j
  have hn : ∀ r j, r ≠ 0 → r ≠ 4 → j ≠ 0 → T00 r j = 0 := fun r j h1 h2 h3 => by
    unfold T00
    rw [if_neg (by omega), if_neg (by omega), if_neg (by omega), if_neg (by omega)]
  have v02 : T00 0 2 = 1 := by decide
  have v10 : T00 1 0 = 1 := by decide
  have v04 : T00 0 4 = 0 := by decide
  have v05 : T00 0 5 = 0 := by decide
  have v07 : T00 0 7 = 0 := by decide
  have v46 : T00 4 6 = 1 := by decide
  have v48 : T00 4 8 = 0 := by decide
  have v49 : T00 4 9 = 0 := by decide
  have v90 : T00 9 0 = 1 := by decide
  have v60 : T00 6 0 = 4096 := by decide
  have v70 : T00 7 0 = -1 := by decide
  have v140 : T00 14 0 = -1 := by decide
  have v160 : T00 16 0 = 4096 := by decide
  have one : ∀ j : Nat, T00 1 j ≠ 0 → j = 0 := fun j h => Classical.byContradiction fun q => h (hn 1 j (by decide) (by decide) q)
  refine ⟨⟨⟨by omega, by omega, by rw [v02]; rfl, v10⟩, fun j hj => ?_⟩, ⟨⟨by omega, by omega, by omega, by omega, Or.inl v07⟩, fun a ha => ?_⟩, fun j hj => ?_, fun j hj h1 h2 => ?_, ⟨⟨by omega, by omega, by omega, by omega, by omega, by omega, hz 11 0 (by decide)⟩, fun j hj => ?_, fun a ha => ?_⟩, ⟨⟨by omega, by omega, by omega⟩, fun j hj => ?_, fun j hj => ?_, fun a ha => ?_⟩, ⟨⟨hz 15 0 (by decide), v160, v140⟩, fun j hj h1 => ?_, fun i j hi hj hij h1 h2 => ?_⟩, ?_, fun h => absurd v07 h⟩
  · by_cases e : j = 0
    · subst e
      have h13 := hz 13 0 (by decide)
      have h15 := hz 15 0 (by decide)
      have h17 := hz 17 0 (by decide)
      right
      omega
    · exact Or.inl (hn 1 j (by decide) (by decide) e)
  · rw [hz 2 a (by decide), hz 3 a (by decide)]; omega
  · rw [v02] at hj
    obtain rfl : j = 0 := by omega
    omega
  · obtain rfl := one j h1
    omega
  · by_cases e : j = 0
    · subst e
      have h5 := hz 5 0 (by decide)
      have h8 := hz 8 0 (by decide)
      omega
    · have h9 := hn 9 j (by decide) (by decide) e
      have h7 := hn 7 j (by decide) (by decide) e
      have h6 := hn 6 j (by decide) (by decide) e
      have h5 := hz 5 j (by decide)
      have h8 := hz 8 j (by decide)
      omega
  · rw [hz 10 a (by decide)]; omega
  · by_cases e : j = 0
    · subst e; omega
    · rw [hn 9 j (by decide) (by decide) e, hn 1 j (by decide) (by decide) e]
  · rw [v02] at hj
    obtain rfl : j = 0 := by omega
    refine ⟨by omega, ?_, by omega, ?_⟩
    · rw [hz 5 0 (by decide), hz 15 0 (by decide)]
    · rw [hz 8 0 (by decide), hz 17 0 (by decide)]
  · rw [hz 10 a (by decide), hz 2 a (by decide)]
  · obtain rfl := one j h1
    refine ⟨by rw [v160]; unfold pw13; omega, by rw [hz 15 0 (by decide)]; rfl, fun h => absurd rfl h⟩
  · exact absurd ((one i h1).trans (one j h2).symm) hij
  · show T00 0 4 = lnt (T00 2) 0 4096
    have hl : ∀ n, lnt (T00 2) 0 n = 0 := by
      intro n
      induction n with
      | zero => rfl
      | succ n ih =>
        show _ + ite _ _ _ = _
        rw [ih, if_neg (fun q => q (hz 2 _ (by decide)))]; rfl
    rw [hl, v04]
theorem LF00 : LF T00 := ⟨fun a i j h2 => absurd (T00_z (r := 2) (by decide) (by decide) (by decide) (by decide) (by decide) (by decide) (by decide) (by decide) a) h2, fun a _ h2 => absurd (T00_z (r := 2) (by decide) (by decide) (by decide) (by decide) (by decide) (by decide) (by decide) (by decide) a) h2⟩
theorem dj_of {A : Nat → Prop} {w1 w2 : va_W} (hD : va_D A (w1 ++ w2)) : dj w1 w2 := fun i j p q hp hq e9 => by
  have hi := (List.getElem?_eq_some_iff.mp hp).1
  have h1 := hD.1 i (w1.length + j) p q (by rw [List.getElem?_append_left hi]; exact hp) (by rw [List.getElem?_append_right (by omega), Nat.add_sub_cancel_left]; exact hq) e9
  omega
