/-! what the class's methods answer, as functions of the memory -/
def VA (T : MT) : Prop := (0 ≤ T 0 4 ∧ T 0 4 ≤ 4096 ∧ 0 ≤ T 0 5 ∧ T 0 5 ≤ 100000 ∧ (T 0 7 = 0 ∨ T 0 7 = 1)) ∧ ∀ a : Nat, a < 4096 → -1 ≤ T 2 a ∧ T 2 a ≤ 200000 ∧ 0 ≤ T 3 a ∧ T 3 a < 60
def lnt (f : Nat → Int) (s : Nat) : Nat → Int
  | 0 => 0
  | n + 1 => lnt f s n + (if f (s + n) ≠ 0 then 1 else 0)
theorem lnt_bd (f : Nat → Int) (s n : Nat) : 0 ≤ lnt f s n ∧ lnt f s n ≤ n := by
  induction n with
  | zero => exact ⟨Int.le_refl 0, Int.le_refl 0⟩
  | succ n ih =>
    unfold lnt
    split <;> omega
noncomputable def liiC (T : MT) (x : Int) : Int := if T 0 4 = 0 ∨ cntC T x (T 15 x.toNat) (T 16 x.toNat) 60 > 0 then 0 else lnt (T 2) (T 15 x.toNat).toNat (T 16 x.toNat).toNat
theorem liiC_bd (T : MT) (x : Int) (h : T 16 x.toNat ≤ 4096) : 0 ≤ liiC T x ∧ liiC T x ≤ 4096 := by
  unfold liiC
  split
  · omega
  · have := lnt_bd (T 2) (T 15 x.toNat).toNat (T 16 x.toNat).toNat
    omega
/-- the first child of x that has the address a -/
def chA (h q b z : Nat → Int) (x a : Int) : Nat → Int
  | 0 => -1
  | j + 1 => if 0 ≤ chA h q b z x a j then chA h q b z x a j else if h j ≠ 0 ∧ q j = x ∧ b j ≤ a ∧ a < b j + z j then j else -1
noncomputable def chC (T : MT) (x a : Int) (j : Nat) : Int := hid (chA (T 1) (T 14) (T 15) (T 16) x a j)
theorem chC_eq (T : MT) (x a : Int) (j : Nat) : chC T x a j = chA (T 1) (T 14) (T 15) (T 16) x a j := hid_eq _
theorem chA_bd (h q b z : Nat → Int) (x a : Int) (j : Nat) : -1 ≤ chA h q b z x a j ∧ chA h q b z x a j < j ∧ (0 ≤ chA h q b z x a j → h (chA h q b z x a j).toNat ≠ 0 ∧ q (chA h q b z x a j).toNat = x ∧ b (chA h q b z x a j).toNat ≤ a ∧ a < b (chA h q b z x a j).toNat + z (chA h q b z x a j).toNat) := by
  induction j with
  | zero => exact ⟨Int.le_refl _, by show (-1 : Int) < 0; omega, fun h => absurd h (by show ¬ (0 : Int) ≤ -1; omega)⟩
  | succ j ih =>
    by_cases h1 : 0 ≤ chA h q b z x a j
    · have e : chA h q b z x a (j + 1) = chA h q b z x a j := by show ite _ _ _ = _; rw [if_pos h1]
      rw [e]
      exact ⟨ih.1, by omega, ih.2.2⟩
    · by_cases h2 : h j ≠ 0 ∧ q j = x ∧ b j ≤ a ∧ a < b j + z j
      · have e : chA h q b z x a (j + 1) = j := by show ite _ _ _ = _; rw [if_neg h1, if_pos h2]
        rw [e]
        exact ⟨by omega, by omega, fun _ => h2⟩
      · have e : chA h q b z x a (j + 1) = -1 := by show ite _ _ _ = _; rw [if_neg h1, if_neg h2]
        rw [e]
        exact ⟨by omega, by omega, fun h => absurd h (by omega)⟩
theorem chC_bd (T : MT) (x a : Int) (j : Nat) : -1 ≤ chC T x a j ∧ chC T x a j < j ∧ (0 ≤ chC T x a j → T 1 (chC T x a j).toNat ≠ 0 ∧ T 14 (chC T x a j).toNat = x ∧ T 15 (chC T x a j).toNat ≤ a ∧ a < T 15 (chC T x a j).toNat + T 16 (chC T x a j).toNat) := by
  rw [chC_eq]
  exact chA_bd _ _ _ _ _ _ _
/-- the sum of the sizes of x's children -/
def chS (h q z : Nat → Int) (x : Int) : Nat → Int
  | 0 => 0
  | j + 1 => chS h q z x j + (if h j ≠ 0 ∧ q j = x then z j else 0)
abbrev outC (T : MT) (x : Int) : Int := T 16 x.toNat - chS (T 1) (T 14) (T 16) x 60
/-- the greatest block at a address, up to an end -/
def gbf (a e : Int) : Nat → Int → Int
  | 0, w => w
  | n + 1, w => if 2 * w ≤ e - a ∧ 2 * w ≤ 4096 ∧ a % (2 * w) = 0 then gbf a e n (2 * w) else w
def gbk (a e : Int) : Int := gbf a e 13 1
/-- where the room behind an address ends -/
def rmE (h q b : Nat → Int) (x a e : Int) : Nat → Int
  | 0 => e
  | j + 1 => if h j ≠ 0 ∧ q j = x ∧ a < b j then min (rmE h q b x a e j) (b j) else rmE h q b x a e j
noncomputable def roomC (T : MT) (x a : Int) : Int := hid (gbk a (rmE (T 1) (T 14) (T 15) x a (T 15 x.toNat + T 16 x.toNat) 60))
theorem roomC_eq (T : MT) (x a : Int) : roomC T x a = gbk a (rmE (T 1) (T 14) (T 15) x a (T 15 x.toNat + T 16 x.toNat) 60) := hid_eq _
theorem rmE_bd (h q b : Nat → Int) (x a e : Int) (he : e ≤ 4096) (h0 : 0 ≤ e) (j : Nat) (hb : ∀ i, i < j → h i ≠ 0 → 0 ≤ b i ∧ b i ≤ 4096) : 0 ≤ rmE h q b x a e j ∧ rmE h q b x a e j ≤ e := by
  induction j with
  | zero => exact ⟨h0, Int.le_refl _⟩
  | succ j ih =>
    have ih := ih (fun i hi => hb i (by omega))
    unfold rmE
    split
    · rename_i h1
      have := hb j (by omega) h1.1
      omega
    · exact ih
theorem rmE_gt (h q b : Nat → Int) (x a e : Int) (he : a < e) (j : Nat) : a < rmE h q b x a e j := by
  induction j with
  | zero => exact he
  | succ j ih =>
    unfold rmE
    split
    · rename_i h1
      omega
    · exact ih
theorem gbf_bd (a e : Int) (n : Nat) (w : Int) (hw : 1 ≤ w ∧ w ≤ 4096) : w ≤ gbf a e n w ∧ gbf a e n w ≤ 4096 ∧ (w ≤ e - a → gbf a e n w ≤ e - a) := by
  induction n generalizing w with
  | zero => exact ⟨Int.le_refl _, hw.2, id⟩
  | succ n ih =>
    unfold gbf
    split
    · rename_i h
      have h2 := ih (2 * w) (by omega)
      exact ⟨by omega, h2.2.1, fun _ => h2.2.2 (by omega)⟩
    · exact ⟨Int.le_refl _, hw.2, id⟩
theorem gbk_bd (a e : Int) : 1 ≤ gbk a e ∧ gbk a e ≤ 4096 ∧ (a < e → a + gbk a e ≤ e) := by
  have h := gbf_bd a e 13 1 (by omega)
  exact ⟨h.1, h.2.1, fun h2 => by have := h.2.2 (by omega); show a + gbf a e 13 1 ≤ e; omega⟩
theorem roomC_bd {np : Nat} {T : MT} (hV : VC np T) {x a : Int} (hx : isS T x) (ha : a < T 15 x.toNat + T 16 x.toNat) : 1 ≤ roomC T x a ∧ roomC T x a ≤ 4096 ∧ a + roomC T x a ≤ T 15 x.toNat + T 16 x.toNat := by
  have hV0 := hV.s hx
  rw [roomC_eq]
  have hg := gbk_bd a (rmE (T 1) (T 14) (T 15) x a (T 15 x.toNat + T 16 x.toNat) 60)
  have hr2 := rmE_bd (T 1) (T 14) (T 15) x a (T 15 x.toNat + T 16 x.toNat) (by omega) (by omega) 60 (fun i hi h => by have := hV.2 i (by omega); omega)
  have hr3 := rmE_gt (T 1) (T 14) (T 15) x a (T 15 x.toNat + T 16 x.toNat) ha 60
  have hg3 := hg.2.2 hr3
  exact ⟨hg.1, hg.2.1, by omega⟩
theorem roomC_b2 (T : MT) (x a : Int) : 1 ≤ roomC T x a ∧ roomC T x a ≤ 4096 := by
  rw [roomC_eq]
  exact ⟨(gbk_bd _ _).1, (gbk_bd _ _).2.1⟩
theorem and_p2 {a t : Int} (ha : 0 ≤ a ∧ a < 2147483648) (ht : t = 2 ∨ t = 4 ∨ t = 8 ∨ t = 16 ∨ t = 32 ∨ t = 64 ∨ t = 128 ∨ t = 256 ∨ t = 512 ∨ t = 1024 ∨ t = 2048 ∨ t = 4096) : zI a &&& zI (t - 1) = zI (a % t) := by
  have e1 : zI a = nI a.toNat := by
    show zI a = Int32.ofNat a.toNat
    rw [zI_ofNat, Int.toNat_of_nonneg ha.1]
  have key : ∀ k : Nat, ∀ u : Int, u = (2 : Int) ^ k → k ≤ 12 → (zI (u - 1)).toBitVec.toNat = 2 ^ k - 1 → zI a &&& zI (u - 1) = zI (a % u) := by
    intro k u hu hk hm
    rw [e1, pk_andN (by omega) k hm]
    show Int32.ofNat _ = _
    rw [zI_ofNat]
    congr 1
    rw [hu, Int.natCast_emod, Int.toNat_of_nonneg ha.1]
    congr 1
  rcases ht with rfl | rfl | rfl | rfl | rfl | rfl | rfl | rfl | rfl | rfl | rfl | rfl
  · exact key 1 2 (by decide) (by decide) (by decide)
  · exact key 2 4 (by decide) (by decide) (by decide)
  · exact key 3 8 (by decide) (by decide) (by decide)
  · exact key 4 16 (by decide) (by decide) (by decide)
  · exact key 5 32 (by decide) (by decide) (by decide)
  · exact key 6 64 (by decide) (by decide) (by decide)
  · exact key 7 128 (by decide) (by decide) (by decide)
  · exact key 8 256 (by decide) (by decide) (by decide)
  · exact key 9 512 (by decide) (by decide) (by decide)
  · exact key 10 1024 (by decide) (by decide) (by decide)
  · exact key 11 2048 (by decide) (by decide) (by decide)
  · exact key 12 4096 (by decide) (by decide) (by decide)
/-- the walk over the whole free blocks: chosen, its room, where it stands -/
noncomputable def cbS (T : MT) (x S : Int) (lst : Bool) (u : Int × Int × Int) : Int × Int × Int :=
  if T 15 x.toNat + T 16 x.toNat ≤ u.2.2 then u
  else if 0 ≤ chC T x u.2.2 60 then (u.1, u.2.1, T 15 (chC T x u.2.2 60).toNat + T 16 (chC T x u.2.2 60).toNat)
  else if S ≤ roomC T x u.2.2 ∧ (u.1 = -1 ∨ (if lst = true then roomC T x u.2.2 < u.2.1 else u.2.1 < roomC T x u.2.2)) then (u.2.2, roomC T x u.2.2, u.2.2 + roomC T x u.2.2)
  else (u.1, u.2.1, u.2.2 + roomC T x u.2.2)
noncomputable def cbI (T : MT) (x S : Int) (lst : Bool) : Nat → Int × Int × Int
  | 0 => (-1, 0, T 15 x.toNat)
  | n + 1 => cbS T x S lst (cbI T x S lst n)
noncomputable def chB (T : MT) (x S : Int) (lst : Bool) : Int := hid (cbI T x S lst 4096).1
theorem chB_eq (T : MT) (x S : Int) (lst : Bool) : chB T x S lst = (cbI T x S lst 4096).1 := hid_eq _
/-- in how many steps a row is told by greatest blocks -/
def cbk (e : Int) : Nat → Int → Int
  | 0, _ => 0
  | n + 1, a => if a < e then 1 + cbk e n (a + gbk a e) else 0
/-- the lowest place that holds 0 -/
def lwf (f : Nat → Int) (s : Nat) : Nat → Int
  | 0 => -1
  | n + 1 => if 0 ≤ lwf f s n then lwf f s n else if f (s + n) = 0 then s + n else -1
/-- the row, a span laid on it -/
def lyS (T : MT) (x : Nat) : MT := fun r i => if r = 3 ∧ T 15 x ≤ (i : Int) ∧ (i : Int) < T 15 x + T 16 x then T 13 x else T r i
def lyJ (T : MT) (w : Int) : Nat → MT
  | 0 => T
  | j + 1 => if T 1 j ≠ 0 ∧ T 16 j = w then lyS (lyJ T w j) j else lyJ T w j
def lyK (T : MT) : Nat → MT
  | 0 => T
  | k + 1 => lyJ (lyK T k) (4096 / 2 ^ k) 60
def lyR (T : MT) : MT := if T 0 7 = 0 then mst (lyK T 13) 0 7 1 else T
theorem VC.same {np : Nat} {T T' : MT} (h : VC np T) (he : ∀ r i, (r = 0 ∧ i = 2) ∨ r = 1 ∨ 13 ≤ r → T' r i = T r i) : VC np T' := by
  obtain ⟨h1, h2⟩ := h
  refine ⟨?_, fun j hj => ?_⟩
  · rw [he 0 2 (by omega), he 1 0 (by omega)]; exact h1
  · have h3 := h2 j hj
    rw [he 1 j (by omega), he 0 2 (by omega), he 13 j (by omega), he 14 j (by omega), he 15 j (by omega), he 16 j (by omega), he 17 j (by omega)]
    exact h3
theorem lyS_r {T : MT} {x r i : Nat} (h : r ≠ 3) : lyS T x r i = T r i := by
  unfold lyS
  rw [if_neg (fun q => h q.1)]
theorem lyJ_r {T : MT} {w : Int} {j r i : Nat} (h : r ≠ 3) : lyJ T w j r i = T r i := by
  induction j with
  | zero => rfl
  | succ j ih =>
    unfold lyJ
    split
    · rw [lyS_r h, ih]
    · exact ih
theorem lyK_r {T : MT} {k r i : Nat} (h : r ≠ 3) : lyK T k r i = T r i := by
  induction k with
  | zero => rfl
  | succ k ih =>
    unfold lyK
    rw [lyJ_r h, ih]
theorem chA_st (h q b z : Nat → Int) (x a : Int) {j k : Nat} (hj : 0 ≤ chA h q b z x a j) (hk : j ≤ k) : chA h q b z x a k = chA h q b z x a j := by
  induction k with
  | zero => rw [show j = 0 by omega]
  | succ k ih =>
    by_cases e : j = k + 1
    · rw [e]
    · have h1 := ih (by omega)
      show ite _ _ _ = _
      rw [if_pos (by rw [h1]; exact hj), h1]
theorem p2_case {j : Nat} {w : Int} (hj : j ≤ 12) (hw : w = 2 ^ j) : 1 ≤ w ∧ w ≤ 4096 ∧ (2 * w ≤ 4096 → (2 * w = 2 ∨ 2 * w = 4 ∨ 2 * w = 8 ∨ 2 * w = 16 ∨ 2 * w = 32 ∨ 2 * w = 64 ∨ 2 * w = 128 ∨ 2 * w = 256 ∨ 2 * w = 512 ∨ 2 * w = 1024 ∨ 2 * w = 2048 ∨ 2 * w = 4096) ∧ j < 12) := by
  subst hw
  have h : j = 0 ∨ j = 1 ∨ j = 2 ∨ j = 3 ∨ j = 4 ∨ j = 5 ∨ j = 6 ∨ j = 7 ∨ j = 8 ∨ j = 9 ∨ j = 10 ∨ j = 11 ∨ j = 12 := by omega
  rcases h with rfl | rfl | rfl | rfl | rfl | rfl | rfl | rfl | rfl | rfl | rfl | rfl | rfl <;> decide
theorem cbI_fix (T : MT) (x S : Int) (lst : Bool) (j k : Nat) (h : T 15 x.toNat + T 16 x.toNat ≤ (cbI T x S lst j).2.2) : cbI T x S lst (j + k) = cbI T x S lst j := by
  induction k with
  | zero => rfl
  | succ k ih =>
    show cbS T x S lst (cbI T x S lst (j + k)) = _
    rw [ih, cbS, if_pos h]
/-- the row, the first j places of a span laid on it -/
def lyP (T : MT) (x j : Nat) : MT := fun r i => if r = 3 ∧ T 15 x ≤ (i : Int) ∧ (i : Int) < T 15 x + j then T 13 x else T r i
theorem lyP_r {T : MT} {x j r i : Nat} (h : r ≠ 3) : lyP T x j r i = T r i := by
  unfold lyP
  rw [if_neg (fun q => h q.1)]
theorem lyP_0 (T : MT) (x : Nat) : lyP T x 0 = T := by
  funext r i
  unfold lyP
  rw [if_neg (by omega)]
theorem lyP_s (T : MT) (x j : Nat) (h : 0 ≤ T 15 x) : mst (lyP T x j) 3 ((T 15 x).toNat + j) (T 13 x) = lyP T x (j + 1) := by
  funext r i
  unfold mst lyP
  by_cases h1 : r = 3 ∧ i = (T 15 x).toNat + j
  · rw [if_pos h1, if_pos (by omega)]
  · rw [if_neg h1]
    by_cases h2 : r = 3 ∧ T 15 x ≤ (i : Int) ∧ (i : Int) < T 15 x + j
    · rw [if_pos h2, if_pos (by omega)]
    · rw [if_neg h2, if_neg (by omega)]
theorem lyP_e (T : MT) (x j : Nat) (h : (j : Int) = T 16 x) : lyP T x j = lyS T x := by
  funext r i
  unfold lyP lyS
  rw [h]
theorem lyJ_0 (T : MT) (w : Int) : lyJ T w 0 = T := rfl
theorem VC.ly {np : Nat} {T T' : MT} (h : VC np T) (he : ∀ r i, r ≠ 3 → T' r i = T r i) : VC np T' := h.same (fun r i hr => he r i (by omega))
theorem isS.ly {T T' : MT} {x : Int} (h : isS T x) (he : ∀ r i, r ≠ 3 → T' r i = T r i) : isS T' x := ⟨h.1, h.2.1, by rw [he 1 _ (by decide)]; exact h.2.2⟩
theorem p2_div {k : Nat} (h : k ≤ 13) : ((k < 13 ∧ 1 ≤ (4096 : Int) / 2 ^ k) ∨ (k = 13 ∧ (4096 : Int) / 2 ^ k = 0)) ∧ 0 ≤ (4096 : Int) / 2 ^ k ∧ (4096 : Int) / 2 ^ k ≤ 4096 ∧ (4096 : Int) / 2 ^ k / 2 = 4096 / 2 ^ (k + 1) := by
  have h : k = 0 ∨ k = 1 ∨ k = 2 ∨ k = 3 ∨ k = 4 ∨ k = 5 ∨ k = 6 ∨ k = 7 ∨ k = 8 ∨ k = 9 ∨ k = 10 ∨ k = 11 ∨ k = 12 ∨ k = 13 := by omega
  rcases h with rfl | rfl | rfl | rfl | rfl | rfl | rfl | rfl | rfl | rfl | rfl | rfl | rfl | rfl <;> decide
