/-! a memory that has the model's registers of another -/
def ag (T' T : MT) : Prop := ∀ r i, 4 ≤ r → r ≤ 11 → T' r i = T r i
theorem ag.f {T' T : MT} (h : ag T' T) {r : Nat} (h1 : 4 ≤ r) (h2 : r ≤ 11) : T' r = T r := funext fun i => h r i h1 h2
theorem ag.VM {T' T : MT} (h : ag T' T) (hM : VM T) : VM T' := hM.same (fun r i hr => h r i (by omega) (by omega))
theorem ag.isM {T' T : MT} (h : ag T' T) (a : Int) : isM T' a = isM T a := by
  unfold _root_.Jvm.Pilot.@@N@@.isM
  rw [h.f (r := 4) (by decide) (by decide), h.f (r := 9) (by decide) (by decide)]
theorem ag.cnt {T' T : MT} (h : ag T' T) (x B S i : Int) : cntM T' x B S i = cntM T x B S i := cntM_f (h.f (by decide) (by decide)) (h.f (by decide) (by decide)) (h.f (by decide) (by decide)) (h.f (by decide) (by decide)) x B S i
theorem ag.ln {T' T : MT} (h : ag T' T) (B S : Int) : lnM T' B S = lnM T B S := lnM_f (h.f (by decide) (by decide)) B S
theorem ag.lw {T' T : MT} (h : ag T' T) (x : Int) : lwM T' x = lwM T x := by
  rw [lwM_eq, lwM_eq, h.f (r := 10) (by decide) (by decide), h.f (r := 5) (by decide) (by decide), h.f (r := 6) (by decide) (by decide)]
/-- the model's count of spans in a block is the class's -/
theorem cnb_cnt {h q b z h' q' b' z' : Nat → Int} {x B S : Int} {n : Nat} (he : ∀ i, i < n → h' i = h i ∧ (h i ≠ 0 → q' i = q i ∧ b' i = b i ∧ z' i = z i)) : cnb h' q' b' z' x B S (-1) n = cnt h q b z x B S n := by
  induction n with
  | zero => rfl
  | succ n ih =>
    have h1 := he n (by omega)
    show _ + ite _ _ _ = _ + ite _ _ _
    rw [ih (fun i hi => he i (by omega))]
    by_cases h2 : h n ≠ 0
    · have h3 := h1.2 h2
      rw [h1.1, h3.1, h3.2.1, h3.2.2]
      by_cases h4 : h n ≠ 0 ∧ q n = x ∧ b n < B + S ∧ B < b n + z n
      · rw [if_pos h4, if_pos ⟨h4.1, h4.2.1, by omega, h4.2.2⟩]
      · rw [if_neg h4, if_neg (fun q => h4 ⟨q.1, q.2.1, q.2.2.2⟩)]
    · rw [if_neg (fun q => h2 (by rw [← h1.1]; exact q.1)), if_neg (fun q => h2 q.1)]
theorem Inv.eqs2 {np : Nat} {T : MT} (h : Inv np T) (i : Nat) (hi : i < 60) : T 9 i = T 1 i ∧ (T 1 i ≠ 0 → T 7 i = T 14 i ∧ T 5 i = T 15 i ∧ T 6 i = T 16 i) := by
  refine ⟨h.2.2.2.2.2.1.2.1 i hi, fun h1 => ?_⟩
  have h2 := h.1.2 i hi
  have h3 := h.2.2.2.2.2.1.2.2.1 i (by omega)
  exact ⟨h3.1, h3.2.1, h3.2.2.1⟩
theorem Inv.cnt {np : Nat} {T : MT} (h : Inv np T) (x B S : Int) : cntM T x B S (-1) = cntC T x B S 60 := by
  rw [cntM_eq, cntC_eq]
  exact cnb_cnt (fun i hi => h.eqs2 i hi)
theorem Inv.ln {np : Nat} {T : MT} (h : Inv np T) {B S : Int} (hb : 0 ≤ B ∧ 0 ≤ S ∧ B + S ≤ 4096) : lnM T B S = lnt (T 2) B.toNat S.toNat := by
  rw [lnM_eq]
  exact lnt_f (fun i h1 h2 => h.2.2.2.2.2.1.2.2.2 i (by omega))
theorem lwf_f {f g : Nat → Int} {s n : Nat} (he : ∀ i, s ≤ i → i < s + n → f i = g i) : lwf f s n = lwf g s n := by
  induction n with
  | zero => rfl
  | succ n ih =>
    show ite _ _ _ = ite _ _ _
    rw [ih (fun i h1 h2 => he i h1 (by omega)), he (s + n) (by omega) (by omega)]
theorem Inv.lw {np : Nat} {T : MT} (h : Inv np T) {x : Int} (hx : isS T x) : lwM T x = lwC T x := by
  have hb := h.bd hx
  have he := h.eqs hx
  rw [lwM_eq, lwC_eq, he.2.1, he.2.2.1]
  exact lwf_f (fun i h1 h2 => h.2.2.2.2.2.1.2.2.2 i (by omega))
theorem Inv.hs {np : Nat} {T : MT} (h : Inv np T) {x : Int} (hx : isS T x) : hsM T x ↔ cntC T x (T 15 x.toNat) (T 16 x.toNat) 60 > 0 := by
  have he := h.eqs hx
  unfold hsM
  rw [h.cnt, he.2.1, he.2.2.1]
theorem ag_o {T1 T : MT} {w : Int} (h : ∀ r i, 4 ≤ r → r ≤ 11 → T1 r i = T r i) : ag (mst T1 12 0 w) T := fun r i h1 h2 => by rw [mst_r (by omega)]; exact h r i h1 h2
theorem inv_owner {np : Nat} {T : MT} (h : Inv np T) {a o : Int} (hs : isS T a) (ho : 0 ≤ o ∧ o < 8) : Inv np (mst (mst T 17 a.toNat o) 8 a.toNat o) := by
  have g : ∀ r i, r ≠ 17 → r ≠ 8 → mst (mst T 17 a.toNat o) 8 a.toNat o r i = T r i := fun r i h1 h2 => by rw [mst_r h2, mst_r h1]
  have g17 : ∀ i, mst (mst T 17 a.toNat o) 8 a.toNat o 17 i = if i = a.toNat then o else T 17 i := fun i => by
    rw [mst_r (by decide)]
    unfold mst
    by_cases e : i = a.toNat
    · rw [if_pos ⟨rfl, e⟩, if_pos e]
    · rw [if_neg (fun q => e q.2), if_neg e]
  have g8 : ∀ i, mst (mst T 17 a.toNat o) 8 a.toNat o 8 i = if i = a.toNat then o else T 8 i := fun i => by
    by_cases e : i = a.toNat
    · subst e; rw [mst_eq, if_pos rfl]
    · rw [mst_i e, mst_r (by decide), if_neg e]
  generalize mst (mst T 17 a.toNat o) 8 a.toNat o = T' at g g17 g8 ⊢
  obtain ⟨hC, hA, hP, hT, hM, hR, hG, hL, hW⟩ := h
  refine ⟨?_, hA.same (fun r i hr => g r i (by omega) (by omega)), fun j hj => ?_, fun j hj h1 h2 => ?_, ⟨?_, fun j hj => ?_, fun j hj => ?_⟩, ?_, hG.same (fun r i hr => g r i (by omega) (by omega)), ?_, ?_⟩
  · refine ⟨by rw [g 0 2 (by decide) (by decide), g 1 0 (by decide) (by decide)]; exact hC.1, fun j hj => ?_⟩
    have h1 := hC.2 j hj
    rw [g 1 j (by decide) (by decide), g 0 2 (by decide) (by decide), g 13 j (by decide) (by decide), g 14 j (by decide) (by decide), g 15 j (by decide) (by decide), g 16 j (by decide) (by decide), g17]
    split <;> omega
  · rw [g 0 2 (by decide) (by decide)] at hj
    rw [g 14 j (by decide) (by decide)]
    exact hP j hj
  · rw [g 1 j (by decide) (by decide)] at h1
    rw [g 14 j (by decide) (by decide)] at h2 ⊢
    rw [g 1 _ (by decide) (by decide)]
    exact hT j hj h1 h2
  · rw [g 4 6 (by decide) (by decide), g 4 8 (by decide) (by decide), g 4 9 (by decide) (by decide), g 11 0 (by decide) (by decide)]; exact hM.1
  · have h1 := hM.2.1 j hj
    rw [g 9 j (by decide) (by decide), g 7 j (by decide) (by decide), g 5 j (by decide) (by decide), g 6 j (by decide) (by decide), g 4 6 (by decide) (by decide), g8]
    split <;> omega
  · rw [g 10 j (by decide) (by decide)]; exact hM.2.2 j hj
  · refine ⟨by rw [g 4 6 (by decide) (by decide), g 4 8 (by decide) (by decide), g 4 9 (by decide) (by decide), g 0 2 (by decide) (by decide), g 0 4 (by decide) (by decide), g 0 5 (by decide) (by decide)]; exact hR.1, fun j hj => ?_, fun j hj => ?_, fun j hj => ?_⟩
    · rw [g 9 j (by decide) (by decide), g 1 j (by decide) (by decide)]; exact hR.2.1 j hj
    · rw [g 0 2 (by decide) (by decide)] at hj
      have h1 := hR.2.2.1 j hj
      rw [g 7 j (by decide) (by decide), g 5 j (by decide) (by decide), g 6 j (by decide) (by decide), g8, g17, g 14 j (by decide) (by decide), g 15 j (by decide) (by decide), g 16 j (by decide) (by decide)]
      refine ⟨h1.1, h1.2.1, h1.2.2.1, ?_⟩
      split
      · rfl
      · exact h1.2.2.2
    · rw [g 10 j (by decide) (by decide), g 2 j (by decide) (by decide)]; exact hR.2.2.2 j hj
  · show T' 0 4 = lnt (T' 2) 0 4096
    rw [g 0 4 (by decide) (by decide), lnt_f (fun i _ _ => g 2 i (by decide) (by decide))]
    exact hL
  · intro h7 j hj
    rw [g 0 7 (by decide) (by decide)] at h7
    rw [g 3 j (by decide) (by decide), nsI_f (T := T) (fun i _ => ⟨g 1 i (by decide) (by decide), fun _ => ⟨g 14 i (by decide) (by decide), g 15 i (by decide) (by decide), g 16 i (by decide) (by decide)⟩⟩)]
    exact hW h7 j hj