/-! what the law counts: by numbers that the kernel does not look into -/
noncomputable def frC (T : MT) (x : Int) : Int := hid (outC T x - liiC T x)
noncomputable def owC (T : MT) (o : Int) : Int := hid (ownS T o 60)
noncomputable def blC (T : MT) (o : Int) : Int := hid ((blS (lyR T) o 4096).1 + cbkC 4096 (blS (lyR T) o 4096).2)
noncomputable def nsC (T : MT) (a : Int) : Int := hid (nsI T a 60)
noncomputable def spC (T : MT) (n : Nat) : Int := hid (spN (T 1) n)
noncomputable def fsC (T : MT) (n : Nat) : Int := hid (sm (fun j => if T 1 j ≠ 0 then frC T j else 0) n)
noncomputable def osC (T : MT) (n : Nat) : Int := hid (sm (fun o => owC T o) n)
theorem spC_0 (T : MT) : spC T 0 = 0 := hid_eq _
theorem spC_s (T : MT) (n : Nat) : spC T (n + 1) = spC T n + (if T 1 n ≠ 0 then 1 else 0) := by
  unfold spC
  rw [hid_eq, hid_eq]
  rfl
theorem fsC_0 (T : MT) : fsC T 0 = 0 := hid_eq _
theorem fsC_s (T : MT) (n : Nat) : fsC T (n + 1) = fsC T n + (if T 1 n ≠ 0 then frC T n else 0) := by
  unfold fsC
  rw [hid_eq, hid_eq]
  rfl
theorem osC_0 (T : MT) : osC T 0 = 0 := hid_eq _
theorem osC_s (T : MT) (n : Nat) : osC T (n + 1) = osC T n + owC T n := by
  unfold osC
  rw [hid_eq, hid_eq]
  rfl
theorem spC_bd (T : MT) (n : Nat) : 0 ≤ spC T n ∧ spC T n ≤ n := by
  induction n with
  | zero => rw [spC_0]; exact ⟨Int.le_refl _, Int.le_refl _⟩
  | succ n ih =>
    rw [spC_s]
    split <;> omega
theorem sm_k (n : Nat) : sm (fun _ => 1) n = n := by
  induction n with
  | zero => rfl
  | succ n ih =>
    show sm _ n + 1 = _
    rw [ih]
    rfl
theorem sm_le {f g : Nat → Int} {n : Nat} (h : ∀ i, i < n → f i ≤ g i) : sm f n ≤ sm g n := by
  induction n with
  | zero => exact Int.le_refl _
  | succ n ih =>
    show sm f n + f n ≤ sm g n + g n
    have h1 := ih (fun i hi => h i (by omega))
    have h2 := h n (by omega)
    omega
theorem sm_ge {f : Nat → Int} {n c : Nat} (h : ∀ i, i < n → 0 ≤ f i) (hc : c < n) : f c ≤ sm f n := by
  induction n with
  | zero => omega
  | succ n ih =>
    show f c ≤ sm f n + f n
    have h2 := h n (by omega)
    have h0 : 0 ≤ sm f n := by
      have h3 := sm_le (f := fun _ => 0) (g := f) (n := n) (fun i hi => h i (by omega))
      rw [sm_z (fun _ _ => rfl)] at h3
      exact h3
    by_cases e : c = n
    · subst e; omega
    · have := ih (fun i hi => h i (by omega)) (by omega)
      omega
/-- whose an address is -/
def nrO (T : MT) (o : Int) (a : Nat) : Prop := T 17 (nsC T a).toNat = o
theorem Inv.nsC {np : Nat} {T : MT} (h : Inv np T) {a : Int} (ha : 0 ≤ a ∧ a < 4096) : hasA T a (nsC T a).toNat ∧ 0 ≤ nsC T a ∧ isS T (nsC T a) ∧ ∀ i : Nat, hasA T a i → (i : Int) ≤ nsC T a := by
  have h1 := h.nsi ha 60
  have h2 := h.nsmax ha
  unfold _root_.Jvm.Pilot.@@N@@.nsC
  rw [hid_eq]
  exact ⟨h1.1, h1.2.1, ⟨h1.2.1, by have := h1.1.1; omega, h1.1.2.1⟩, h2⟩
theorem Inv.owS {np : Nat} {T : MT} (h : Inv np T) (o : Int) : owC T o = sm (fun a => if T 17 (_root_.Jvm.Pilot.@@N@@.nsC T a).toNat = o then 1 else 0) 4096 := by
  have hk : ∀ n : Nat, n = 4096 → owC T o = sm (fun a => if T 17 (_root_.Jvm.Pilot.@@N@@.nsC T a).toNat = o then 1 else 0) n := by
    intro n hn
    unfold owC
    rw [hid_eq, h.own, smC_eq, smM_sm, hn]
    refine sm_c (fun a ha => ?_)
    have hn2 := h.near (a := (a : Int)) (by omega)
    have hns := h.nsi (a := (a : Int)) (by omega) 60
    rw [← hn2]
    unfold _root_.Jvm.Pilot.@@N@@.nsC
    rw [hid_eq]
    generalize nsI T a 60 = y at hns ⊢
    have hyh := hns.1
    have hs : isS T y := ⟨hns.2.1, by have := hyh.1; omega, hyh.2.1⟩
    rw [(h.eqs hs).2.2.2]
  exact hk 4096 rfl
theorem Inv.os8 {np : Nat} {T : MT} (h : Inv np T) : osC T 8 = 4096 := by
  have hk : ∀ n : Nat, n = 4096 → osC T 8 = n := by
    intro n hn
    unfold osC
    rw [hid_eq, sm_c (fun o _ => h.owS o), ← hn, sm_swap]
    refine Eq.trans (sm_c (g := fun _ => 1) (fun a ha => ?_)) (sm_k n)
    have h1 := h.nsC (a := (a : Int)) (by omega)
    have h2 := h.bd h1.2.2.1
    refine (sm_1 (c := (T 17 (_root_.Jvm.Pilot.@@N@@.nsC T a).toNat).toNat) (by omega) (fun o ho hne => if_neg (by omega))).trans ?_
    exact if_pos (by omega)
  exact hk 4096 rfl
/-! blocks and addresses of an owner -/
theorem gd_mx {P : Int → Prop} (n : Nat) : ∀ p s : Int, 4096 < s + n → gdB P p s → ∃ p2 s2, mxB P p2 s2 := by
  induction n with
  | zero => exact fun p s h1 h2 => absurd (pw13_b h2.1).2 (by omega)
  | succ n ih =>
    intro p s h1 h2
    have hs := pw13_b h2.1
    by_cases c : gdB P (p - p % (2 * s)) (2 * s)
    · exact ih _ (2 * s) (by omega) c
    · exact ⟨p, s, h2, c⟩
theorem Inv.blS2 {np : Nat} {T : MT} (h : Inv np T) (o : Int) : blC T o = sm (mxs (fun a => T 17 (_root_.Jvm.Pilot.@@N@@.nsC T a).toNat = o)) 4096 := by
  unfold blC
  rw [hid_eq, (h.blk2 o).1, blMC_eq]
  refine blM_mx (P := fun a => T 17 (_root_.Jvm.Pilot.@@N@@.nsC T a).toNat = o) (fun a ha => ?_)
  have hn2 := h.near (a := (a : Int)) (by omega)
  have hns := h.nsi (a := (a : Int)) (by omega) 60
  rw [← hn2]
  unfold _root_.Jvm.Pilot.@@N@@.nsC
  rw [hid_eq]
  generalize nsI T a 60 = y at hns ⊢
  have hyh := hns.1
  have hs : isS T y := ⟨hns.2.1, by have := hyh.1; omega, hyh.2.1⟩
  rw [(h.eqs hs).2.2.2]
theorem mxs_bd (P : Int → Prop) (i : Nat) : 0 ≤ mxs P i ∧ mxs P i ≤ 1 := by unfold mxs; split <;> omega
theorem Inv.bl_ow {np : Nat} {T : MT} (h : Inv np T) (o : Int) : 0 ≤ blC T o ∧ blC T o ≤ owC T o ∧ owC T o ≤ 4096 ∧ (owC T o = 0 ↔ blC T o = 0) := by
  have hk : ∀ n : Nat, n = 4096 → blC T o = sm (mxs (fun a => T 17 (_root_.Jvm.Pilot.@@N@@.nsC T a).toNat = o)) n → owC T o = sm (fun a => if T 17 (_root_.Jvm.Pilot.@@N@@.nsC T a).toNat = o then 1 else 0) n → 0 ≤ blC T o ∧ blC T o ≤ owC T o ∧ owC T o ≤ 4096 ∧ (owC T o = 0 ↔ blC T o = 0) := by
    intro n hn hb ho
    have h0 : 0 ≤ blC T o := by
      rw [hb]
      have h3 := sm_le (f := fun _ => 0) (g := mxs (fun a => T 17 (_root_.Jvm.Pilot.@@N@@.nsC T a).toNat = o)) (n := n) (fun i _ => (mxs_bd _ i).1)
      rw [sm_z (fun _ _ => rfl)] at h3
      exact h3
    have h1 : blC T o ≤ owC T o := by
      rw [hb, ho]
      refine sm_le (fun a ha => ?_)
      by_cases c : ∃ s, mxB (fun a => T 17 (_root_.Jvm.Pilot.@@N@@.nsC T a).toNat = o) a s
      · obtain ⟨s, hs⟩ := c
        have hsb := pw13_b hs.1.1
        rw [mxs_1 hs, if_pos (hs.1.2.2.2.2 a (Int.le_refl _) (by omega))]
        exact Int.le_refl _
      · rw [mxs_0 (fun s hs => c ⟨s, hs⟩)]
        split <;> omega
    have h2 : owC T o ≤ 4096 := by
      rw [ho]
      have h3 := sm_le (f := fun a => if T 17 (_root_.Jvm.Pilot.@@N@@.nsC T a).toNat = o then 1 else 0) (g := fun _ => 1) (n := n) (fun i _ => by split <;> omega)
      rw [sm_k] at h3
      omega
    refine ⟨h0, h1, h2, fun q => by omega, fun q => ?_⟩
    rw [ho]
    refine sm_z (fun a ha => if_neg (fun hP => ?_))
    obtain ⟨p2, s2, hm⟩ := gd_mx (P := fun a => T 17 (_root_.Jvm.Pilot.@@N@@.nsC T a).toNat = o) 4096 a 1 (by omega) ⟨by unfold pw13; omega, by omega, by omega, by omega, fun b b1 b2 => by rw [show b = (a : Int) by omega]; exact hP⟩
    have hp := hm.1.2.2
    have hsb := pw13_b hm.1.1
    have e1 : mxs (fun a => T 17 (_root_.Jvm.Pilot.@@N@@.nsC T a).toNat = o) p2.toNat = 1 := mxs_1 (s := s2) (by rw [Int.toNat_of_nonneg hp.1]; exact hm)
    have e2 := sm_ge (f := mxs (fun a => T 17 (_root_.Jvm.Pilot.@@N@@.nsC T a).toNat = o)) (n := n) (c := p2.toNat) (fun i _ => (mxs_bd _ i).1) (by omega)
    rw [e1, ← hb, q] at e2
    exact absurd e2 (by decide)
  exact hk 4096 rfl (h.blS2 o) (h.owS o)
/-! free addresses of all spans, and those that are lent -/
theorem lnt_sm {f : Nat → Int} {s z n : Nat} (h : s + z ≤ n) : lnt f s z = sm (fun a => if f a ≠ 0 ∧ (s : Int) ≤ a ∧ (a : Int) < s + z then 1 else 0) n := by
  induction z with
  | zero => exact (sm_z (fun a _ => if_neg (by omega))).symm
  | succ z ih =>
    have e : lnt f s (z + 1) = lnt f s z + (if f (s + z) ≠ 0 then 1 else 0) := rfl
    have e2 : (if f (s + z) ≠ 0 then 1 else 0 : Int) = sm (fun a => if a = s + z ∧ f a ≠ 0 then 1 else 0) n := by
      refine Eq.symm ((sm_1 (c := s + z) (by omega) (fun a _ hne => if_neg (fun q => hne q.1))).trans ?_)
      by_cases q : f (s + z) ≠ 0
      · rw [if_pos q, if_pos ⟨rfl, q⟩]
      · rw [if_neg q, if_neg (fun w => q w.2)]
    rw [e, ih (by omega), e2, ← sm_add]
    refine sm_c (fun a ha => ?_)
    by_cases q : f a ≠ 0
    · by_cases q1 : a = s + z
      · rw [if_neg (by omega), if_pos ⟨q1, q⟩, if_pos (by omega)]; rfl
      · by_cases q2 : (s : Int) ≤ a ∧ (a : Int) < s + z
        · rw [if_pos ⟨q, q2⟩, if_neg (fun w => q1 w.1), if_pos ⟨q, by omega⟩]; rfl
        · rw [if_neg (fun w => q2 w.2), if_neg (fun w => q1 w.1), if_neg (fun w => by omega)]; rfl
    · rw [if_neg (fun w => q w.1), if_neg (fun w => q w.2), if_neg (fun w => q w.1)]; rfl
theorem Inv.lsum {np : Nat} {T : MT} (h : Inv np T) (hL : LF T) : sm (fun j => if T 1 j ≠ 0 then liiC T j else 0) 60 = T 0 4 := by
  have hk : ∀ n : Nat, n = 4096 → sm (fun j => if T 1 j ≠ 0 then liiC T j else 0) 60 = T 0 4 := by
    intro n hn
    have hLn : T 0 4 = lnt (T 2) 0 n := by rw [hn]; exact h.2.2.2.2.2.2.2.1
    by_cases h4 : T 0 4 = 0
    · rw [h4]
      refine sm_z (fun j hj => ?_)
      unfold liiC
      rw [if_pos (Or.inl h4)]
      split <;> rfl
    · have e1 : ∀ j, j < 60 → (if T 1 j ≠ 0 then liiC T j else 0) = sm (fun a => if T 1 j ≠ 0 ∧ ¬ cntC T j (T 15 j) (T 16 j) 60 > 0 then (if T 2 a ≠ 0 then ivT T j a else 0) else 0) n := fun j hj => by
        rw [sm_if]
        by_cases q : T 1 j ≠ 0
        · have hV := h.1.2 j hj
          rw [if_pos q]
          have el : liiC T (j : Int) = if T 0 4 = 0 ∨ cntC T j (T 15 j) (T 16 j) 60 > 0 then 0 else lnt (T 2) (T 15 j).toNat (T 16 j).toNat := rfl
          rw [el]
          by_cases c : cntC T j (T 15 j) (T 16 j) 60 > 0
          · rw [if_pos (Or.inr c), if_neg (fun w => w.2 c)]
          · rw [if_neg (fun w => by rcases w with w | w; exact h4 w; exact c w), if_pos ⟨q, c⟩, lnt_sm (n := n) (by omega)]
            refine sm_c (fun a ha => ?_)
            unfold ivT
            by_cases w : T 2 a ≠ 0
            · rw [if_pos w]
              by_cases w2 : T 15 j ≤ (a : Int) ∧ (a : Int) < T 15 j + T 16 j
              · rw [if_pos w2, if_pos ⟨w, by omega⟩]
              · rw [if_neg w2, if_neg (fun u => w2 (by omega))]
            · rw [if_neg w, if_neg (fun u => w u.1)]
        · rw [if_neg q, if_neg (fun w => q w.1)]
      rw [sm_c e1, sm_swap, hLn, lnt_sm (n := n) (by omega)]
      refine sm_c (fun a ha => ?_)
      by_cases w : T 2 a ≠ 0
      · have hns := h.nsC (a := (a : Int)) (by omega)
        generalize _root_.Jvm.Pilot.@@N@@.nsC T a = y at hns
        obtain ⟨y1, y2, y3, y4⟩ := hns
        have hleaf : ∀ j : Nat, j < 60 → T 1 j ≠ 0 → T 14 j ≠ y := fun j hj q1 q2 => by
          obtain ⟨k, k1, k2⟩ := hL.1 a y.toNat j w y1 hj q1 (by omega)
          have h5 := y4 k k1
          have h6 := h.par k1.1 k1.2.1 k2
          omega
        have hc0 : ¬ cntC T (y.toNat : Nat) (T 15 y.toNat) (T 16 y.toNat) 60 > 0 := by
          rw [cntC_eq, cnt_z (fun j hj q1 q2 => absurd (show T 14 j = y by omega) (hleaf j hj q1))]
          exact Int.lt_irrefl 0
        rw [if_pos ⟨w, by omega⟩]
        refine (sm_1 (c := y.toNat) y1.1 (fun j hj hne => ?_)).trans ?_
        · by_cases q : T 1 j ≠ 0 ∧ ¬ cntC T j (T 15 j) (T 16 j) 60 > 0
          · rw [if_pos q, if_pos w]
            refine if_neg (fun q2 => ?_)
            have hja : hasA T a j := ⟨hj, q.1, q2⟩
            have h7 := y4 j hja
            obtain ⟨k, k1, k2⟩ := h.upx hja y.toNat (by omega) y1
            have hjs : isS T (j : Int) := ⟨by omega, by omega, q.1⟩
            exact h.nokids hjs (by have := q.2; show cntC T (j : Int) (T 15 j) (T 16 j) 60 ≤ 0; omega) k k1.1 k1.2.1 k2
          · rw [if_neg q]
        · rw [if_pos ⟨y1.2.1, hc0⟩, if_pos w]
          exact if_pos y1.2.2
      · rw [if_neg (fun u => w u.1)]
        refine sm_z (fun j hj => ?_)
        rw [if_neg w]
        split <;> rfl
  exact hk 4096 rfl
theorem Inv.osum {np : Nat} {T : MT} (h : Inv np T) : sm (fun j => if T 1 j ≠ 0 then outC T j else 0) 60 = 4096 := by
  rw [← h.os8]
  unfold osC
  rw [hid_eq]
  have e1 : ∀ o : Nat, o < 8 → owC T o = sm (fun j => if T 1 j ≠ 0 ∧ T 17 j = o then outC T j else 0) 60 := fun o _ => by
    unfold owC
    rw [hid_eq, ownS_sm]
  rw [sm_c e1, sm_swap]
  refine sm_c (fun j hj => ?_)
  by_cases q : T 1 j ≠ 0
  · have hV := h.1.2 j hj
    rw [if_pos q]
    refine Eq.symm ((sm_1 (c := (T 17 j).toNat) (by omega) (fun o ho hne => if_neg (fun w => hne (by omega)))).trans ?_)
    exact if_pos ⟨q, by omega⟩
  · rw [if_neg q]
    exact (sm_z (fun o _ => if_neg (fun w => q w.1))).symm
theorem Inv.fsum {np : Nat} {T : MT} (h : Inv np T) (hL : LF T) : fsC T 60 + T 0 4 = 4096 := by
  have e1 : fsC T 60 = sm (fun j => if T 1 j ≠ 0 then outC T j else 0) 60 - sm (fun j => if T 1 j ≠ 0 then liiC T j else 0) 60 := by
    unfold fsC
    rw [hid_eq, ← sm_sub]
    refine sm_c (fun j _ => ?_)
    by_cases q : T 1 j ≠ 0
    · rw [if_pos q, if_pos q, if_pos q]
      unfold frC
      rw [hid_eq]
    · rw [if_neg q, if_neg q, if_neg q]; rfl
  rw [e1, h.osum, h.lsum hL]
  omega
