/-! what the model's methods answer, as functions of the memory -/
def bz (q : Prop) [Decidable q] : Int := if q then 1 else 0
theorem bz_rg (q : Prop) [Decidable q] : -2147483648 ≤ bz q ∧ bz q < 2147483648 := by unfold bz; split <;> omega
theorem bz_b (q : Prop) [Decidable q] : 0 ≤ bz q ∧ bz q ≤ 1 := by unfold bz; split <;> omega
theorem bz_or (q : Prop) [Decidable q] : bz q = 0 ∨ bz q = 1 := by unfold bz; split <;> omega
theorem bz_0 {q : Prop} [Decidable q] (h : bz q = 0) : ¬ q := by unfold bz at h; split at h <;> first | assumption | omega
theorem bz_1 {q : Prop} [Decidable q] (h : bz q ≠ 0) : q := by unfold bz at h; split at h <;> first | assumption | omega
theorem bz_t {q : Prop} [Decidable q] (h : q) : bz q = 1 := if_pos h
theorem bz_f {q : Prop} [Decidable q] (h : ¬ q) : bz q = 0 := if_neg h
def VM (T : MT) : Prop := (1 ≤ T 4 6 ∧ T 4 6 ≤ 60 ∧ 0 ≤ T 4 8 ∧ T 4 8 ≤ 4096 ∧ 0 ≤ T 4 9 ∧ T 4 9 ≤ 100000 ∧ T 11 0 = 0) ∧ (∀ j : Nat, j < 64 → (T 9 j = 0 ∨ T 9 j = 1) ∧ -1 ≤ T 7 j ∧ T 7 j < 64 ∧ 0 ≤ T 5 j ∧ 0 ≤ T 6 j ∧ T 5 j + T 6 j ≤ 4096 ∧ 0 ≤ T 8 j ∧ T 8 j ≤ 7 ∧ (T 4 6 ≤ (j : Int) → T 9 j = 0) ∧ (T 9 j ≠ 0 → 1 ≤ T 6 j)) ∧ ∀ a : Nat, a < 4096 → -1 ≤ T 10 a ∧ T 10 a ≤ 200000
theorem VM.same {T T' : MT} (h : VM T) (he : ∀ r i, (r = 4 ∧ i ≠ 0) ∨ (5 ≤ r ∧ r ≤ 10) ∨ (r = 11 ∧ i = 0) → T' r i = T r i) : VM T' := by
  obtain ⟨h1, h2, h3⟩ := h
  refine ⟨?_, fun j hj => ?_, fun a ha => ?_⟩
  · rw [he 4 6 (by omega), he 4 8 (by omega), he 4 9 (by omega), he 11 0 (by omega)]; exact h1
  · rw [he 9 j (by omega), he 7 j (by omega), he 5 j (by omega), he 6 j (by omega), he 8 j (by omega), he 4 6 (by omega)]; exact h2 j hj
  · rw [he 10 a (by omega)]; exact h3 a ha
theorem VM.th {T : MT} (h : VM T) (z : Int) : VM (mst T 4 0 z) := h.same (fun r i hr => mst_ne (by omega))
theorem mst_f {T : MT} {r i r' : Nat} {v : Int} (h : r' ≠ r) : mst T r i v r' = T r' := by
  funext i'
  exact mst_r h
abbrev isM (T : MT) (x : Int) : Prop := 0 ≤ x ∧ x < T 4 6 ∧ T 9 x.toNat ≠ 0
theorem VM.s {T : MT} (h : VM T) {x : Int} (hx : 0 ≤ x ∧ x < 64) : (T 9 x.toNat = 0 ∨ T 9 x.toNat = 1) ∧ -1 ≤ T 7 x.toNat ∧ T 7 x.toNat < 64 ∧ 0 ≤ T 5 x.toNat ∧ 0 ≤ T 6 x.toNat ∧ T 5 x.toNat + T 6 x.toNat ≤ 4096 ∧ 0 ≤ T 8 x.toNat ∧ T 8 x.toNat ≤ 7 ∧ (T 4 6 ≤ x → T 9 x.toNat = 0) ∧ (T 9 x.toNat ≠ 0 → 1 ≤ T 6 x.toNat) := by
  have h1 := h.2.1 x.toNat (by omega)
  rw [Int.toNat_of_nonneg hx.1] at h1
  exact h1
def cnb (h q b z : Nat → Int) (x B S i : Int) : Nat → Int
  | 0 => 0
  | j + 1 => cnb h q b z x B S i j + (if h j ≠ 0 ∧ q j = x ∧ (j : Int) ≠ i ∧ b j < B + S ∧ B < b j + z j then 1 else 0)
theorem cnb_bd (h q b z : Nat → Int) (x B S i : Int) (j : Nat) : 0 ≤ cnb h q b z x B S i j ∧ cnb h q b z x B S i j ≤ j := by
  induction j with
  | zero => exact ⟨Int.le_refl 0, Int.le_refl 0⟩
  | succ j ih =>
    unfold cnb
    split <;> omega
theorem cnb_st {h q b z : Nat → Int} {x B S i : Int} {j k : Nat} (hk : j ≤ k) (hh : ∀ t, j ≤ t → t < k → h t = 0) : cnb h q b z x B S i k = cnb h q b z x B S i j := by
  induction k with
  | zero => rw [show j = 0 by omega]
  | succ k ih =>
    by_cases e : j = k + 1
    · rw [e]
    · have h1 := ih (by omega) (fun t h2 h3 => hh t h2 (by omega))
      show _ + ite _ _ _ = _
      rw [if_neg (fun q => q.1 (hh k (by omega) (by omega))), h1, Int.add_zero]
noncomputable def cntM (T : MT) (x B S i : Int) : Int := hid (cnb (T 9) (T 7) (T 5) (T 6) x B S i 60)
theorem cntM_eq (T : MT) (x B S i : Int) : cntM T x B S i = cnb (T 9) (T 7) (T 5) (T 6) x B S i 60 := hid_eq _
theorem cntM_bd (T : MT) (x B S i : Int) : 0 ≤ cntM T x B S i ∧ cntM T x B S i ≤ 60 := by
  rw [cntM_eq]
  exact cnb_bd _ _ _ _ _ _ _ _ _
theorem cntM_f {T T' : MT} (h9 : T' 9 = T 9) (h7 : T' 7 = T 7) (h5 : T' 5 = T 5) (h6 : T' 6 = T 6) (x B S i : Int) : cntM T' x B S i = cntM T x B S i := by
  rw [cntM_eq, cntM_eq, h9, h7, h5, h6]
theorem cntM_th (T : MT) (z x B S i : Int) : cntM (mst T 4 0 z) x B S i = cntM T x B S i := cntM_f (mst_f (by decide)) (mst_f (by decide)) (mst_f (by decide)) (mst_f (by decide)) _ _ _ _
abbrev liM (T : MT) (x B S : Int) : Prop := T 5 x.toNat ≤ B ∧ B + S ≤ T 5 x.toNat + T 6 x.toNat
noncomputable abbrev frM (T : MT) (x B S : Int) : Prop := liM T x B S ∧ cntM T x B S (-1) = 0
abbrev whM (T : MT) (x B S : Int) : Prop := frM T x B S ∧ ¬ frM T x (B - B % (2 * S)) (2 * S)
abbrev hsM (T : MT) (x : Int) : Prop := cntM T x (T 5 x.toNat) (T 6 x.toNat) (-1) > 0
noncomputable def lnM (T : MT) (B S : Int) : Int := hid (lnt (T 10) B.toNat S.toNat)
theorem lnM_eq (T : MT) (B S : Int) : lnM T B S = lnt (T 10) B.toNat S.toNat := hid_eq _
theorem lnM_bd (T : MT) (B S : Int) : 0 ≤ lnM T B S ∧ lnM T B S ≤ S.toNat := by
  rw [lnM_eq]
  exact lnt_bd _ _ _
abbrev clM (T : MT) (x S : Int) : Prop := T 4 6 = 60 ∨ (¬ hsM T x ∧ lnM T (T 5 x.toNat) (T 6 x.toNat) > 0) ∨ T 6 x.toNat ≤ S
def mkM (T : MT) (n : Nat) (p B S o : Int) : MT := mst (mst (mst (mst (mst (mst T 5 n B) 6 n S) 7 n p) 8 n o) 9 n 1) 4 6 ((n : Int) + 1)
def pw13 (t : Int) : Prop := t = 1 ∨ t = 2 ∨ t = 4 ∨ t = 8 ∨ t = 16 ∨ t = 32 ∨ t = 64 ∨ t = 128 ∨ t = 256 ∨ t = 512 ∨ t = 1024 ∨ t = 2048 ∨ t = 4096
theorem pw13_b {t : Int} (h : pw13 t) : 1 ≤ t ∧ t ≤ 4096 := by unfold pw13 at h; omega
theorem pw13_2 {t : Int} (h : pw13 t) : 2 * t = 2 ∨ 2 * t = 4 ∨ 2 * t = 8 ∨ 2 * t = 16 ∨ 2 * t = 32 ∨ 2 * t = 64 ∨ 2 * t = 128 ∨ 2 * t = 256 ∨ 2 * t = 512 ∨ 2 * t = 1024 ∨ 2 * t = 2048 ∨ 2 * t = 4096 ∨ 2 * t = 8192 := by unfold pw13 at h; omega
/-- the i-th size from S on -/
def sz2 (S : Int) : Nat → Int
  | 0 => S
  | i + 1 => 2 * sz2 S i
theorem sz2_lt {S : Int} (hS : 1 ≤ S) {i k : Nat} (h : i < k) : sz2 S i < sz2 S k := by
  have h1 : ∀ i, 1 ≤ sz2 S i := by
    intro i
    induction i with
    | zero => exact hS
    | succ i ih => unfold sz2; omega
  induction k with
  | zero => omega
  | succ k ih =>
    have h2 := h1 k
    by_cases e : i = k
    · subst e
      show sz2 S i < 2 * sz2 S i
      omega
    · have := ih (by omega)
      show sz2 S i < 2 * sz2 S k
      omega
/-- whether (i, k) was asked before (i2, k2) -/
abbrev sn2 (i k i2 k2 : Nat) : Prop := i < i2 ∨ (i = i2 ∧ k < k2)
abbrev vl2 (T : MT) (x S : Int) (i k : Nat) : Prop := sz2 S i ≤ T 6 x.toNat ∧ (k : Int) * sz2 S i < T 6 x.toNat
abbrev wh2 (T : MT) (x S : Int) (i k : Nat) : Prop := whM T x (T 5 x.toNat + k * sz2 S i) (sz2 S i)
/-- what find holds when it has asked the blocks before (i2, k2) -/
def fnI (T : MT) (x S w : Int) (i2 k2 : Nat) (f fs : Int) : Prop :=
  (f = -1 ∧ fs = 0 ∧ ∀ i k, sn2 i k i2 k2 → vl2 T x S i k → ¬ wh2 T x S i k) ∨
  ∃ i k, sn2 i k i2 k2 ∧ vl2 T x S i k ∧ wh2 T x S i k ∧ f = T 5 x.toNat + k * sz2 S i ∧ fs = sz2 S i ∧ ∀ i' k', sn2 i' k' i2 k2 → vl2 T x S i' k' → wh2 T x S i' k' → if w ≤ 0 then i < i' ∨ (i = i' ∧ k ≤ k') else i' < i ∨ (i = i' ∧ k ≤ k')
def fndP (T : MT) (x S w r : Int) : Prop := ∃ f fs : Int, r = (if w = 2 ∧ S < fs then f + fs / 2 else f) ∧
  ((f = -1 ∧ fs = 0 ∧ ∀ i k, vl2 T x S i k → ¬ wh2 T x S i k) ∨
  ∃ i k, vl2 T x S i k ∧ wh2 T x S i k ∧ f = T 5 x.toNat + k * sz2 S i ∧ fs = sz2 S i ∧ ∀ i' k', vl2 T x S i' k' → wh2 T x S i' k' → if w ≤ 0 then i < i' ∨ (i = i' ∧ k ≤ k') else i' < i ∨ (i = i' ∧ k ≤ k'))
/-- the j-th half of a size -/
def hf2 (z : Int) : Nat → Int
  | 0 => z
  | i + 1 => hf2 z i / 2
def gfP (T : MT) (x r : Int) : Prop :=
  (r = 0 ∧ ∀ i k : Nat, 0 < hf2 (T 6 x.toNat) (i + 1) → (k : Int) * hf2 (T 6 x.toNat) (i + 1) < T 6 x.toNat → ¬ frM T x (T 5 x.toNat + k * hf2 (T 6 x.toNat) (i + 1)) (hf2 (T 6 x.toNat) (i + 1))) ∨
  ∃ i k : Nat, 0 < r ∧ r = hf2 (T 6 x.toNat) (i + 1) ∧ (k : Int) * r < T 6 x.toNat ∧ frM T x (T 5 x.toNat + k * r) r ∧ ∀ i' k' : Nat, i' < i → 0 < hf2 (T 6 x.toNat) (i' + 1) → (k' : Int) * hf2 (T 6 x.toNat) (i' + 1) < T 6 x.toNat → ¬ frM T x (T 5 x.toNat + k' * hf2 (T 6 x.toNat) (i' + 1)) (hf2 (T 6 x.toNat) (i' + 1))
def iwP (T : MT) (x S r : Int) : Prop :=
  (T 6 x.toNat ≤ S ∧ r = -1) ∨ (S < T 6 x.toNat ∧ (∀ k : Nat, (k : Int) * S < T 6 x.toNat → r ≤ cntM T x (T 5 x.toNat + k * S) S (-1)) ∧ ∃ k : Nat, (k : Int) * S < T 6 x.toNat ∧ r = cntM T x (T 5 x.toNat + k * S) S (-1))
def nrM (h b z : Nat → Int) (a : Int) : Nat → Int
  | 0 => 0
  | j + 1 => if j ≠ 0 ∧ h j ≠ 0 ∧ b j ≤ a ∧ a < b j + z j ∧ z j ≤ z (nrM h b z a j).toNat then j else nrM h b z a j
theorem nrM_bd (h b z : Nat → Int) (a : Int) (j : Nat) : 0 ≤ nrM h b z a j ∧ (nrM h b z a j < j ∨ nrM h b z a j = 0) := by
  induction j with
  | zero => exact ⟨Int.le_refl 0, Or.inr rfl⟩
  | succ j ih =>
    unfold nrM
    split <;> omega
theorem nrM_st {h b z : Nat → Int} {a : Int} {j k : Nat} (hk : j ≤ k) (hh : ∀ t, j ≤ t → t < k → h t = 0) : nrM h b z a k = nrM h b z a j := by
  induction k with
  | zero => rw [show j = 0 by omega]
  | succ k ih =>
    by_cases e : j = k + 1
    · rw [e]
    · have h1 := ih (by omega) (fun t h2 h3 => hh t h2 (by omega))
      show ite _ _ _ = _
      rw [if_neg (fun q => q.2.1 (hh k (by omega) (by omega))), h1]
noncomputable def nrC (T : MT) (a : Int) : Int := hid (nrM (T 9) (T 5) (T 6) a 60)
theorem nrC_eq (T : MT) (a : Int) : nrC T a = nrM (T 9) (T 5) (T 6) a 60 := hid_eq _
theorem nrC_bd (T : MT) (a : Int) : 0 ≤ nrC T a ∧ nrC T a < 60 := by
  rw [nrC_eq]
  have := nrM_bd (T 9) (T 5) (T 6) a 60
  omega
theorem nrC_f {T T' : MT} (h9 : T' 9 = T 9) (h5 : T' 5 = T 5) (h6 : T' 6 = T 6) (a : Int) : nrC T' a = nrC T a := by
  rw [nrC_eq, nrC_eq, h9, h5, h6]
noncomputable def smM (T : MT) (o : Int) : Nat → Int
  | 0 => 0
  | j + 1 => smM T o j + (if T 8 (nrC T j).toNat = o then 1 else 0)
theorem smM_bd (T : MT) (o : Int) (j : Nat) : 0 ≤ smM T o j ∧ smM T o j ≤ j := by
  induction j with
  | zero => exact ⟨Int.le_refl 0, Int.le_refl 0⟩
  | succ j ih =>
    unfold smM
    split <;> omega
theorem smM_f {T T' : MT} (h9 : T' 9 = T 9) (h5 : T' 5 = T 5) (h6 : T' 6 = T 6) (h8 : T' 8 = T 8) (o : Int) (j : Nat) : smM T' o j = smM T o j := by
  induction j with
  | zero => rfl
  | succ j ih => unfold smM; rw [ih, nrC_f h9 h5 h6, h8]
noncomputable def smC (T : MT) (o : Int) (j : Nat) : Int := hid (smM T o j)
theorem smC_eq (T : MT) (o : Int) (j : Nat) : smC T o j = smM T o j := hid_eq _
theorem smC_bd (T : MT) (o : Int) (j : Nat) : 0 ≤ smC T o j ∧ smC T o j ≤ j := by
  rw [smC_eq]
  exact smM_bd _ _ _
theorem smC_f {T T' : MT} (h9 : T' 9 = T 9) (h5 : T' 5 = T 5) (h6 : T' 6 = T 6) (h8 : T' 8 = T 8) (o : Int) (j : Nat) : smC T' o j = smC T o j := by
  rw [smC_eq, smC_eq, smM_f h9 h5 h6 h8]
noncomputable def lyO (T : MT) (o : Int) (j : Nat) : MT := fun r i => if r = 11 ∧ 1 ≤ i ∧ i ≤ j then smC T o i else T r i
theorem lyO_r {T : MT} {o : Int} {j r i : Nat} (h : r ≠ 11 ∨ i = 0) : lyO T o j r i = T r i := by
  unfold lyO
  rw [if_neg (by omega)]
theorem lyO_f {T : MT} {o : Int} {j r : Nat} (h : r ≠ 11) : lyO T o j r = T r := by
  funext i
  exact lyO_r (Or.inl h)
theorem lyO_0 (T : MT) (o : Int) : lyO T o 0 = T := by
  funext r i
  unfold lyO
  rw [if_neg (by omega)]
theorem lyO_s (T : MT) (o : Int) (j : Nat) : mst (lyO T o j) 11 (j + 1) (smC T o (j + 1)) = lyO T o (j + 1) := by
  funext r i
  unfold mst lyO
  by_cases h1 : r = 11 ∧ i = j + 1
  · rw [if_pos h1, if_pos (by omega), h1.2]
  · rw [if_neg h1]
    by_cases h2 : r = 11 ∧ 1 ≤ i ∧ i ≤ j
    · rw [if_pos h2, if_pos (by omega)]
    · rw [if_neg h2, if_neg (by omega)]
theorem lyO_11 {T : MT} (h0 : T 11 0 = 0) (o : Int) {j i : Nat} (h : i ≤ j) : lyO T o j 11 i = smC T o i := by
  unfold lyO
  by_cases e : i = 0
  · subst e; rw [if_neg (by omega), h0, smC_eq]; rfl
  · rw [if_pos (by omega)]
theorem VM.lyO {T : MT} (h : VM T) (o : Int) (j : Nat) : VM (lyO T o j) := h.same (fun r i hr => lyO_r (by omega))
noncomputable abbrev alM (T : MT) (o B S : Int) : Prop := B + S ≤ 4096 ∧ smC T o (B + S).toNat - smC T o B.toNat = S
noncomputable def blI (T : MT) (o S : Int) : Nat → Int
  | 0 => 0
  | k + 1 => blI T o S k + (if alM T o (k * S) S ∧ ¬ alM T o (k * S - (k * S) % (2 * S)) (2 * S) then 1 else 0)
theorem blI_bd (T : MT) (o S : Int) (k : Nat) : 0 ≤ blI T o S k ∧ blI T o S k ≤ k := by
  induction k with
  | zero => exact ⟨Int.le_refl 0, Int.le_refl 0⟩
  | succ k ih =>
    unfold blI
    split <;> omega
noncomputable def blM (T : MT) (o : Int) : Nat → Int
  | 0 => 0
  | i + 1 => blM T o i + hid (blI T o (sz2 1 i) (4096 / sz2 1 i).toNat)
