theorem dEx_of {ex c : Nat} {u0 : St3} {E : String} (h : ex = c) (hc : c ≠ 0) (hE : E = xn c) : dEx ex u0 E u0 := by
  subst h
  exact ⟨hc, hE, rfl⟩
def pasT (T : MT) (D : Int) (j : Nat) : MT := fun r i => if r = 2 ∧ i < j ∧ T 2 i ≠ 0 ∧ T 2 i ≠ -1 ∧ T 2 i ≤ D then 0 else T r i
def psN (T : MT) (D : Int) : Nat → Int
  | 0 => 0
  | j + 1 => psN T D j + (if T 2 j ≠ 0 ∧ T 2 j ≠ -1 ∧ T 2 j ≤ D then 1 else 0)
theorem psN_bd (T : MT) (D : Int) (j : Nat) : 0 ≤ psN T D j ∧ psN T D j ≤ j := by
  induction j with
  | zero => exact ⟨Int.le_refl 0, Int.le_refl 0⟩
  | succ j ih =>
    unfold psN
    split <;> omega
theorem pasT_r {T : MT} {D : Int} {j r i : Nat} (h : r ≠ 2 ∨ j ≤ i) : pasT T D j r i = T r i := by
  unfold pasT
  rw [if_neg (by omega)]
theorem pasT_0 (T : MT) (D : Int) : pasT T D 0 = T := by
  funext r i
  exact pasT_r (Or.inr (Nat.zero_le _))
theorem pasT_y (T : MT) (D : Int) (j : Nat) (h : T 2 j ≠ 0 ∧ T 2 j ≠ -1 ∧ T 2 j ≤ D) : mst (pasT T D j) 2 j 0 = pasT T D (j + 1) := by
  funext r i
  unfold mst pasT
  by_cases h1 : r = 2 ∧ i = j
  · obtain ⟨rfl, rfl⟩ := h1
    rw [if_pos ⟨rfl, rfl⟩, if_pos ⟨rfl, by omega, h⟩]
  · rw [if_neg h1]
    by_cases h2 : r = 2 ∧ i < j ∧ T 2 i ≠ 0 ∧ T 2 i ≠ -1 ∧ T 2 i ≤ D
    · rw [if_pos h2, if_pos ⟨h2.1, by omega, h2.2.2⟩]
    · rw [if_neg h2, if_neg (fun q => h2 ⟨q.1, by omega, q.2.2⟩)]
theorem pasT_n (T : MT) (D : Int) (j : Nat) (h : ¬ (T 2 j ≠ 0 ∧ T 2 j ≠ -1 ∧ T 2 j ≤ D)) : pasT T D j = pasT T D (j + 1) := by
  funext r i
  unfold pasT
  by_cases h2 : r = 2 ∧ i < j ∧ T 2 i ≠ 0 ∧ T 2 i ≠ -1 ∧ T 2 i ≤ D
  · rw [if_pos h2, if_pos ⟨h2.1, by omega, h2.2.2⟩]
  · rw [if_neg h2, if_neg]
    rintro ⟨q1, q2, q3⟩
    by_cases e : i = j
    · rw [e] at q3; exact h q3
    · exact h2 ⟨q1, by omega, q3⟩
def spN (h : Nat → Int) : Nat → Int
  | 0 => 0
  | j + 1 => spN h j + (if h j ≠ 0 then 1 else 0)
noncomputable def itS (T : MT) (x S : Int) (u : Int × Int) : Int × Int :=
  if T 15 x.toNat + T 16 x.toNat ≤ u.2 ∨ u.1 ≤ 0 then u
  else (min u.1 (cntC T x u.2 S 60), if 0 ≤ chC T x u.2 60 ∧ S < T 16 (chC T x u.2 60).toNat then T 15 (chC T x u.2 60).toNat + T 16 (chC T x u.2 60).toNat else u.2 + S)
noncomputable def itI (T : MT) (x S : Int) : Nat → Int × Int
  | 0 => (60, T 15 x.toNat)
  | n + 1 => itS T x S (itI T x S n)
theorem itI_fix (T : MT) (x S : Int) (j k : Nat) (h : T 15 x.toNat + T 16 x.toNat ≤ (itI T x S j).2 ∨ (itI T x S j).1 ≤ 0) : itI T x S (j + k) = itI T x S j := by
  induction k with
  | zero => rfl
  | succ k ih =>
    show itS T x S (itI T x S (j + k)) = _
    rw [ih, itS, if_pos h]
noncomputable def nsI (T : MT) (a : Int) : Nat → Int
  | 0 => 0
  | n + 1 => if 0 ≤ chC T (nsI T a n) a 60 then chC T (nsI T a n) a 60 else nsI T a n
theorem nsI_fix (T : MT) (a : Int) (j k : Nat) (h : ¬ 0 ≤ chC T (nsI T a j) a 60) : nsI T a (j + k) = nsI T a j := by
  induction k with
  | zero => rfl
  | succ k ih =>
    show (if 0 ≤ chC T (nsI T a (j + k)) a 60 then chC T (nsI T a (j + k)) a 60 else nsI T a (j + k)) = _
    rw [ih, if_neg h]
theorem nsI_isS {T : MT} (hw : T 1 0 ≠ 0) (a : Int) (j : Nat) : isS T (nsI T a j) := by
  induction j with
  | zero => exact ⟨Int.le_refl _, (by decide : (0 : Int) < 60), hw⟩
  | succ j ih =>
    unfold nsI
    split
    · rename_i h
      have hc := chC_bd T (nsI T a j) a 60
      exact ⟨h, hc.2.1, (hc.2.2 h).1⟩
    · exact ih
def ownS (T : MT) (o : Int) : Nat → Int
  | 0 => 0
  | j + 1 => ownS T o j + (if T 1 j ≠ 0 ∧ T 17 j = o then outC T j else 0)
noncomputable def cbkC (e a : Int) : Int := hid (cbk e 4096 a)
theorem cbkC_eq (e a : Int) : cbkC e a = cbk e 4096 a := hid_eq _
noncomputable def blS (T : MT) (o : Int) : Nat → Int × Int
  | 0 => (0, 0)
  | j + 1 => if 0 ≤ fsp T (T 3 j) ∧ T 17 (fsp T (T 3 j)).toNat = o then blS T o j else ((blS T o j).1 + cbkC j (blS T o j).2, (j : Int) + 1)
theorem blS_bd (T : MT) (o : Int) (j : Nat) : 0 ≤ (blS T o j).2 ∧ (blS T o j).2 ≤ j := by
  induction j with
  | zero => exact ⟨Int.le_refl 0, Int.le_refl 0⟩
  | succ j ih =>
    unfold blS
    split
    · omega
    · dsimp only
      omega
theorem lyS_3 {T : MT} {x : Nat} {i : Nat} (h : 0 ≤ T 13 x ∧ T 13 x < 60) (hi : 0 ≤ T 3 i ∧ T 3 i < 60) : 0 ≤ lyS T x 3 i ∧ lyS T x 3 i < 60 := by
  unfold lyS
  split
  · exact h
  · exact hi
theorem lyJ_3 {np : Nat} {T : MT} (hV : VC np T) (w : Int) (i : Nat) (hi : 0 ≤ T 3 i ∧ T 3 i < 60) (j : Nat) (hj : j ≤ 60) : 0 ≤ lyJ T w j 3 i ∧ lyJ T w j 3 i < 60 := by
  induction j with
  | zero => exact hi
  | succ j ih =>
    have ih := ih (by omega)
    unfold lyJ
    split
    · rename_i h
      have h2 := hV.2 j (by omega)
      exact lyS_3 (by rw [lyJ_r (by decide)]; omega) ih
    · exact ih
theorem lyK_3 {np : Nat} {T : MT} (hV : VC np T) (i : Nat) (hi : 0 ≤ T 3 i ∧ T 3 i < 60) (k : Nat) : 0 ≤ lyK T k 3 i ∧ lyK T k 3 i < 60 := by
  induction k with
  | zero => exact hi
  | succ k ih =>
    unfold lyK
    exact lyJ_3 (hV.ly (fun r i h => lyK_r h)) _ i ih 60 (by omega)
theorem lyR_r {T : MT} {r i : Nat} (h : r ≠ 3) (h7 : ¬ (r = 0 ∧ i = 7)) : lyR T r i = T r i := by
  unfold lyR
  split
  · rw [mst_ne h7, lyK_r h]
  · rfl
theorem lyR_7 {T : MT} (h : T 0 7 = 0 ∨ T 0 7 = 1) : lyR T 0 7 = 1 := by
  unfold lyR
  split
  · rw [mst_eq]
  · omega
theorem VC.lyR {np : Nat} {T : MT} (h : VC np T) : VC np (lyR T) := h.same (fun r i hr => lyR_r (by omega) (by omega))
theorem VA.lyR {np : Nat} {T : MT} (h : VA T) (hV : VC np T) : VA (lyR T) := by
  obtain ⟨h1, h2⟩ := h
  refine ⟨?_, fun a ha => ?_⟩
  · rw [lyR_r (by decide) (by decide), lyR_r (by decide) (by decide), lyR_7 h1.2.2.2.2]
    omega
  · have h3 := h2 a ha
    have h4 : 0 ≤ _root_.Jvm.Pilot.@@N@@.lyR T 3 a ∧ _root_.Jvm.Pilot.@@N@@.lyR T 3 a < 60 := by
      unfold _root_.Jvm.Pilot.@@N@@.lyR
      split
      · rw [mst_r (by decide)]
        exact lyK_3 hV a (by omega) 13
      · omega
    rw [lyR_r (r := 2) (by decide) (fun q => absurd q.1 (by decide))]
    omega
theorem nx_and (a b : Nat) : nI a &&& nI b = nI (a &&& b) := by
  show Int32.ofNat a &&& Int32.ofNat b = Int32.ofNat (a &&& b)
  rw [← Int32.toBitVec_inj, Int32.toBitVec_and]
  simp [Int32.toBitVec_ofNat', BitVec.ofNat_and]
theorem nat_and_neg (a k : Nat) (ha : a < 2 ^ 32) : a &&& ((2 ^ (32 - k) - 1) <<< k) = (a >>> k) <<< k := by
  refine Nat.eq_of_testBit_eq fun i => ?_
  rw [Nat.testBit_and, Nat.testBit_shiftLeft, Nat.testBit_shiftLeft, Nat.testBit_two_pow_sub_one, Nat.testBit_shiftRight]
  by_cases h1 : k ≤ i
  · rw [show k + (i - k) = i by omega]
    by_cases h2 : i - k < 32 - k
    · simp [h1, h2]
    · have h3 : a.testBit i = false := Nat.testBit_lt_two_pow (Nat.lt_of_lt_of_le ha (Nat.pow_le_pow_right (by decide) (by omega)))
      simp [h3]
  · simp [h1]
theorem and_neg {a t : Int} (ha : 0 ≤ a ∧ a < 2147483648) (ht : t = 2 ∨ t = 4 ∨ t = 8 ∨ t = 16 ∨ t = 32 ∨ t = 64 ∨ t = 128 ∨ t = 256 ∨ t = 512 ∨ t = 1024 ∨ t = 2048 ∨ t = 4096 ∨ t = 8192) : zI a &&& zI (-t) = zI (a - a % t) := by
  have e1 : zI a = nI a.toNat := by
    show zI a = Int32.ofNat a.toNat
    rw [zI_ofNat, Int.toNat_of_nonneg ha.1]
  have key : ∀ (k : Nat) (u : Int), u = ((2 ^ k : Nat) : Int) → zI (-u) = nI ((2 ^ (32 - k) - 1) <<< k) → zI a &&& zI (-u) = zI (a - a % u) := by
    intro k u hu hm
    rw [hm, e1, nx_and, nat_and_neg _ _ (by omega)]
    show Int32.ofNat _ = _
    rw [zI_ofNat, Nat.shiftLeft_eq, Nat.shiftRight_eq_div_pow]
    congr 1
    have h1 := Nat.div_add_mod a.toNat (2 ^ k)
    have h2 : ((a.toNat % 2 ^ k : Nat) : Int) = a % u := by
      rw [Int.natCast_emod, Int.toNat_of_nonneg ha.1, hu]
    rw [← h2]
    have h3 : (a.toNat : Int) = a := Int.toNat_of_nonneg ha.1
    rw [Nat.mul_comm] at h1
    omega
  rcases ht with rfl | rfl | rfl | rfl | rfl | rfl | rfl | rfl | rfl | rfl | rfl | rfl | rfl
  · exact key 1 2 (by decide) (by decide)
  · exact key 2 4 (by decide) (by decide)
  · exact key 3 8 (by decide) (by decide)
  · exact key 4 16 (by decide) (by decide)
  · exact key 5 32 (by decide) (by decide)
  · exact key 6 64 (by decide) (by decide)
  · exact key 7 128 (by decide) (by decide)
  · exact key 8 256 (by decide) (by decide)
  · exact key 9 512 (by decide) (by decide)
  · exact key 10 1024 (by decide) (by decide)
  · exact key 11 2048 (by decide) (by decide)
  · exact key 12 4096 (by decide) (by decide)
  · exact key 13 8192 (by decide) (by decide)
noncomputable def itwC (T : MT) (x S : Int) : Int := hid (itI T x S 4096).1
theorem itwC_eq (T : MT) (x S : Int) : itwC T x S = (itI T x S 4096).1 := hid_eq _
