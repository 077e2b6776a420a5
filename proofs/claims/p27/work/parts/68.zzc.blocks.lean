/-! the step: blocks -/
/-- an aligned block of addresses that have P -/
def gdB (P : Int → Prop) (p s : Int) : Prop := pw13 s ∧ p % s = 0 ∧ 0 ≤ p ∧ p + s ≤ 4096 ∧ ∀ a, p ≤ a → a < p + s → P a
/-- one that lies in no greater one -/
def mxB (P : Int → Prop) (p s : Int) : Prop := gdB P p s ∧ ¬ gdB P (p - p % (2 * s)) (2 * s)
def bdB (P : Int → Prop) (at_ : Int) : Prop := ∀ p s, gdB P p s → p < at_ → p + s ≤ at_
theorem gdB_sub {P : Int → Prop} {p s q t : Int} (h : gdB P p s) (ht : pw13 t) (hq : q % t = 0) (h1 : p ≤ q) (h2 : q + t ≤ p + s) : gdB P q t := by
  obtain ⟨-, -, s3, s4, s5⟩ := h
  exact ⟨ht, hq, by omega, by omega, fun a ha hb => s5 a (by omega) (by omega)⟩
theorem mxB_uniq {P : Int → Prop} {p s t : Int} (hs : mxB P p s) (ht : mxB P p t) : s = t := by
  have key : ∀ s t, mxB P p s → mxB P p t → ¬ s < t := fun s t hs ht hlt => by
    have h1 := pw13_b hs.1.1
    have hd := pw_dbl hs.1.1 ht.1.1 hlt
    have hm := emod_mul ht.1.2.1 hd.2.2
    refine hs.2 ?_
    rw [hm, Int.sub_zero]
    exact gdB_sub ht.1 hd.1 hm (Int.le_refl _) (by omega)
  have h1 := key s t hs ht
  have h2 := key t s ht hs
  omega
/-- one greedy block in a run -/
theorem run_step {P : Int → Prop} {a e : Int} (h0 : 0 ≤ a) (hae : a < e) (he : e ≤ 4096) (hP : ∀ b, a ≤ b → b < e → P b) (hend : e = 4096 ∨ ¬ P e) (hb : bdB P a) : mxB P a (gbk a e) ∧ bdB P (a + gbk a e) ∧ (a + gbk a e ≤ e) ∧ 1 ≤ gbk a e ∧ ∀ p s, mxB P p s → a < p → p < a + gbk a e → False := by
  obtain ⟨r1, r2, r3, r5⟩ := gbk_spec hae
  have r1b := pw13_b r1
  generalize gbk a e = w at r1 r2 r3 r5 r1b ⊢
  have hfit : ∀ p s, gdB P p s → p < e → p + s ≤ e := fun p s hg hp => by
    refine Classical.byContradiction fun q => ?_
    have h4 := hg.2.2.2.1
    rcases hend with q1 | q1
    · omega
    · exact q1 (hg.2.2.2.2 e (by omega) (by omega))
  have hgd : gdB P a w := ⟨r1, r2, h0, by omega, fun b q1 q2 => hP b q1 (by omega)⟩
  refine ⟨⟨hgd, fun hd => ?_⟩, ?_, r3, r1b.1, ?_⟩
  · have hm := Int.emod_nonneg a (b := 2 * w) (by omega)
    have hm2 := Int.emod_lt_of_pos a (b := 2 * w) (by omega)
    by_cases c : a % (2 * w) = 0
    · rw [c, Int.sub_zero] at hd
      have h1 := hfit _ _ hd hae
      have h2 := r5 (2 * w) hd.1 c h1
      omega
    · have h1 := hb _ _ hd (by omega)
      omega
  · intro p s hg hp
    have hsb := pw13_b hg.1
    by_cases c1 : p < a
    · have := hb p s hg c1
      omega
    · by_cases c2 : s ≤ w
      · exact nest hg.1 r1 c2 hg.2.1 r2 (by omega) hp
      · have hd := pw_dvd r1 hg.1 (by omega)
        have h2 := emod_mul hg.2.1 hd
        have h3 := nest r1 r1 (Int.le_refl _) h2 r2 (by omega) hp
        obtain rfl : p = a := by omega
        have h4 := hfit p s hg hae
        have := r5 s hg.1 hg.2.1 h4
        omega
  · intro p s hm h1 h2
    have hsb := pw13_b hm.1.1
    by_cases c : s < w
    · have hdb := pw_dbl hm.1.1 r1 c
      have hx2 := emod_mul r2 hdb.2.2
      have ha := al_in (S := 2 * s) (x := a) (y := a + w) (t := p) (by omega) hx2 (by rw [Int.add_emod, hx2, hdb.2.2]; simp) (by omega) h2
      exact hm.2 (gdB_sub hgd hdb.1 ha.2.2 ha.1 (by omega))
    · have hdv := pw_dvd r1 hm.1.1 (by omega)
      have h4 := emod_mul hm.1.2.1 hdv
      have h3 := nest r1 r1 (Int.le_refl _) h4 r2 (by omega) h2
      omega
/-- whether a greatest block begins at an address -/
noncomputable def mxs (P : Int → Prop) (a : Nat) : Int := @ite Int (∃ s, mxB P a s) (Classical.propDecidable _) 1 0
theorem mxs_1 {P : Int → Prop} {a : Nat} {s : Int} (h : mxB P a s) : mxs P a = 1 := by
  unfold mxs
  exact if_pos ⟨s, h⟩
theorem mxs_0 {P : Int → Prop} {a : Nat} (h : ∀ s, ¬ mxB P a s) : mxs P a = 0 := by
  unfold mxs
  exact if_neg (fun q => by obtain ⟨s, hs⟩ := q; exact h s hs)
theorem sm_z2 {f : Nat → Int} {m n : Nat} (h : m ≤ n) (hz : ∀ i, m ≤ i → i < n → f i = 0) : sm f n = sm f m := by
  induction n with
  | zero => rw [show m = 0 by omega]
  | succ n ih =>
    by_cases e : m = n + 1
    · rw [e]
    · show sm f n + f n = sm f m
      rw [ih (by omega) (fun i h1 h2 => hz i h1 (by omega)), hz n (by omega) (by omega)]
      omega
/-- a run is told by its greatest blocks -/
theorem cbk_run {P : Int → Prop} {e : Int} (he : e ≤ 4096) (hend : e = 4096 ∨ ¬ P e) (n : Nat) : ∀ a : Int, 0 ≤ a → a ≤ e → e - a ≤ n → (∀ b, a ≤ b → b < e → P b) → bdB P a → cbk e n a = sm (mxs P) e.toNat - sm (mxs P) a.toNat := by
  induction n with
  | zero =>
    intro a h0 h1 h2 h3 h4
    have e1 : a = e := by omega
    rw [e1, Int.sub_self]
    rfl
  | succ n ih =>
    intro a h0 h1 h2 h3 h4
    have e9 : cbk e (n + 1) a = if a < e then 1 + cbk e n (a + gbk a e) else 0 := rfl
    by_cases c : a < e
    · rw [if_pos c] at e9
      obtain ⟨g1, g2, g3, g4, g5⟩ := run_step h0 c he h3 hend h4
      have ih := ih (a + gbk a e) (by omega) g3 (by omega) (fun b q1 q2 => h3 b (by omega) q2) g2
      rw [e9, ih]
      have e5 : sm (mxs P) (a + gbk a e).toNat = sm (mxs P) (a.toNat + 1) := sm_z2 (by omega) (fun i q1 q2 => mxs_0 (fun s hs => g5 i s hs (by omega) (by omega)))
      have e6 : sm (mxs P) (a.toNat + 1) = sm (mxs P) a.toNat + mxs P a.toNat := rfl
      have e7 : mxs P a.toNat = 1 := mxs_1 (s := gbk a e) (by rw [Int.toNat_of_nonneg h0]; exact g1)
      omega
    · rw [if_neg c] at e9
      have e1 : a = e := by omega
      rw [e9, e1, Int.sub_self]
/-- the class's count of an owner's blocks -/
theorem blS_run {np : Nat} {U : MT} (h : Inv np U) {o : Int} {P : Int → Prop} (hrow : ∀ j : Nat, j < 4096 → ((0 ≤ fsp U (U 3 j) ∧ U 17 (fsp U (U 3 j)).toNat = o) ↔ P j)) (j : Nat) (hj : j ≤ 4096) : 0 ≤ (blS U o j).2 ∧ (blS U o j).2 ≤ j ∧ (blS U o j).1 = sm (mxs P) (blS U o j).2.toNat ∧ (∀ b, (blS U o j).2 ≤ b → b < j → P b) ∧ bdB P (blS U o j).2 := by
  induction j with
  | zero =>
    refine ⟨Int.le_refl _, Int.le_refl _, rfl, fun b h1 h2 => ?_, fun p s hg hp => ?_⟩
    · have h1 : 0 ≤ b := h1
      omega
    · have hp : p < 0 := hp
      have := hg.2.2.1
      omega
  | succ j ih =>
    obtain ⟨i1, i2, i3, i4, i5⟩ := ih (by omega)
    have hrw := hrow j (by omega)
    have e9 : blS U o (j + 1) = if 0 ≤ fsp U (U 3 j) ∧ U 17 (fsp U (U 3 j)).toNat = o then blS U o j else ((blS U o j).1 + cbkC j (blS U o j).2, (j : Int) + 1) := rfl
    by_cases c : 0 ≤ fsp U (U 3 j) ∧ U 17 (fsp U (U 3 j)).toNat = o
    · rw [if_pos c] at e9
      rw [e9]
      refine ⟨i1, by omega, i3, fun b h1 h2 => ?_, i5⟩
      by_cases e : b = j
      · rw [e]; exact hrw.mp c
      · exact i4 b h1 (by omega)
    · rw [if_neg c] at e9
      have hn : ¬ P j := fun q => c (hrw.mpr q)
      have hk := cbk_run (P := P) (e := (j : Int)) (by omega) (Or.inr hn) 4096 (blS U o j).2 i1 i2 (by omega) i4 i5
      rw [e9]
      refine ⟨by show 0 ≤ (j : Int) + 1; omega, by show (j : Int) + 1 ≤ _; omega, ?_, fun b h1 h2 => ?_, fun p s hg hp => ?_⟩
      · show (blS U o j).1 + cbkC j (blS U o j).2 = sm (mxs P) ((j : Int) + 1).toNat
        rw [cbkC_eq, hk, i3, show ((j : Int) + 1).toNat = j + 1 by omega, Int.toNat_natCast]
        have e6 : sm (mxs P) (j + 1) = sm (mxs P) j + mxs P j := rfl
        have e7 : mxs P j = 0 := mxs_0 (fun s hs => hn (hs.1.2.2.2.2 j (Int.le_refl _) (by have := pw13_b hs.1.1; omega)))
        omega
      · have h1 : (j : Int) + 1 ≤ b := h1
        omega
      · have hp : p < (j : Int) + 1 := hp
        show p + s ≤ (j : Int) + 1
        refine Classical.byContradiction fun q => hn (hg.2.2.2.2 j (by omega) (by omega))
/-! the model's count -/
theorem sm_all {P : Nat → Prop} [DecidablePred P] (b n : Nat) : 0 ≤ sm (fun a => if P a then 1 else 0) (b + n) - sm (fun a => if P a then 1 else 0) b ∧ sm (fun a => if P a then 1 else 0) (b + n) - sm (fun a => if P a then 1 else 0) b ≤ n ∧ (sm (fun a => if P a then 1 else 0) (b + n) - sm (fun a => if P a then 1 else 0) b = n ↔ ∀ a, b ≤ a → a < b + n → P a) := by
  induction n with
  | zero => exact ⟨by rw [Nat.add_zero]; omega, by rw [Nat.add_zero]; omega, by rw [Nat.add_zero]; exact ⟨fun _ a h1 h2 => by omega, fun _ => by omega⟩⟩
  | succ n ih =>
    obtain ⟨i1, i2, i3⟩ := ih
    have e : sm (fun a => if P a then 1 else 0) (b + (n + 1)) = sm (fun a => if P a then 1 else 0) (b + n) + (if P (b + n) then 1 else 0) := rfl
    rw [e]
    generalize sm (fun a => if P a then 1 else 0) (b + n) = u at i1 i2 i3 ⊢
    generalize sm (fun a => if P a then 1 else 0) b = v at i1 i2 i3 ⊢
    by_cases c : P (b + n)
    · rw [if_pos c]
      refine ⟨by omega, by omega, fun h a h1 h2 => ?_, fun h => ?_⟩
      · by_cases e2 : a = b + n
        · rw [e2]; exact c
        · exact i3.mp (by omega) a h1 (by omega)
      · have := i3.mpr (fun a h1 h2 => h a h1 (by omega))
        omega
    · rw [if_neg c]
      refine ⟨by omega, by omega, fun h => by omega, fun h => absurd (h (b + n) (by omega) (by omega)) c⟩
theorem alM_gd {T : MT} {o : Int} {P : Int → Prop} (hP : ∀ a : Nat, a < 4096 → (T 8 (nrC T a).toNat = o ↔ P a)) {p s : Int} (hp : 0 ≤ p) (hs : pw13 s ∨ 4096 < s) (hm : p % s = 0) : alM T o p s ↔ gdB P p s := by
  unfold alM gdB
  rcases hs with hs | hs
  · have hsb := pw13_b hs
    constructor
    · rintro ⟨h1, h2⟩
      refine ⟨hs, hm, hp, h1, fun a q1 q2 => ?_⟩
      rw [smC_eq, smC_eq, smM_sm, smM_sm, show (p + s).toNat = p.toNat + s.toNat by omega] at h2
      have h3 := (sm_all (P := fun j => T 8 (nrC T j).toNat = o) p.toNat s.toNat).2.2.mp (by rw [h2]; omega) a.toNat (by omega) (by omega)
      have h4 := (hP a.toNat (by omega)).mp h3
      rw [Int.toNat_of_nonneg (by omega)] at h4
      exact h4
    · rintro ⟨-, -, -, h1, h2⟩
      refine ⟨h1, ?_⟩
      rw [smC_eq, smC_eq, smM_sm, smM_sm, show (p + s).toNat = p.toNat + s.toNat by omega]
      have h3 := (sm_all (P := fun j => T 8 (nrC T j).toNat = o) p.toNat s.toNat).2.2.mpr (fun a q1 q2 => (hP a (by omega)).mpr (h2 a (by omega) (by omega)))
      rw [h3]
      omega
  · constructor
    · rintro ⟨h1, -⟩; omega
    · rintro ⟨-, -, -, h1, -⟩; omega
theorem emod_dn (p t : Int) : (p - p % t) % t = 0 := by
  have e := Int.mul_ediv_add_emod p t
  rw [show p - p % t = t * (p / t) by omega]
  exact Int.mul_emod_right _ _
theorem alM_mx {T : MT} {o : Int} {P : Int → Prop} (hP : ∀ a : Nat, a < 4096 → (T 8 (nrC T a).toNat = o ↔ P a)) {p s : Int} (hp : 0 ≤ p) (hs : pw13 s) : (p % s = 0 ∧ alM T o p s ∧ ¬ alM T o (p - p % (2 * s)) (2 * s)) ↔ mxB P p s := by
  have hsb := pw13_b hs
  have hm := md_b (B := p) (t := 2 * s) hp (by omega)
  have h2 := alM_gd hP hm.1 (s := 2 * s) (by unfold pw13 at hs ⊢; omega) (emod_dn p (2 * s))
  unfold mxB
  rw [h2]
  constructor
  · rintro ⟨q1, q2, q3⟩; exact ⟨(alM_gd hP hp (Or.inl hs) q1).mp q2, q3⟩
  · rintro ⟨q1, q2⟩; exact ⟨q1.2.1, (alM_gd hP hp (Or.inl hs) q1.2.1).mpr q1, q2⟩
/-- over the multiples of S, or over all of which just those count -/
theorem sm_grid {Q : Int → Prop} [DecidablePred Q] {s : Nat} (hs : 0 < s) (k : Nat) : sm (fun a => if (a : Int) % (s : Int) = 0 ∧ Q a then 1 else 0) (k * s) = sm (fun i => if Q ((i : Int) * (s : Int)) then 1 else 0) k := by
  induction k with
  | zero => rw [Nat.zero_mul]; rfl
  | succ k ih =>
    have e1 : sm (fun a => if (a : Int) % (s : Int) = 0 ∧ Q a then 1 else 0) ((k + 1) * s) = sm (fun a => if (a : Int) % (s : Int) = 0 ∧ Q a then 1 else 0) (k * s + 1) := by
      refine sm_z2 (by rw [Nat.succ_mul]; omega) (fun i h1 h2 => if_neg (fun q => ?_))
      rw [Nat.succ_mul] at h2
      have h3 : (i : Int) = (k : Int) * s + ((i - k * s : Nat) : Int) := by
        have : ((k * s : Nat) : Int) = (k : Int) * s := Int.natCast_mul k s
        omega
      have h4 := q.1
      rw [h3, Int.add_comm, Int.add_mul_emod_self_right] at h4
      rw [Int.emod_eq_of_lt (by omega) (by omega)] at h4
      omega
    rw [e1]
    show sm _ (k * s) + ite _ _ _ = sm _ k + ite _ _ _
    rw [ih]
    congr 1
    have e2 : ((k * s : Nat) : Int) = (k : Int) * s := Int.natCast_mul k s
    rw [e2]
    by_cases c : Q ((k : Int) * (s : Int))
    · rw [if_pos c, if_pos ⟨Int.mul_emod_left _ _, c⟩]
    · rw [if_neg c, if_neg (fun q => c q.2)]
theorem blI_sm (T : MT) (o S : Int) (k : Nat) : blI T o S k = sm (fun k => if alM T o (k * S) S ∧ ¬ alM T o (k * S - (k * S) % (2 * S)) (2 * S) then 1 else 0) k := by
  induction k with
  | zero => rfl
  | succ k ih =>
    show blI T o S k + _ = sm _ k + _
    rw [ih]
theorem blM_sm (T : MT) (o : Int) (n : Nat) : blM T o n = sm (fun i => blI T o (sz2 1 i) (4096 / sz2 1 i).toNat) n := by
  induction n with
  | zero => rfl
  | succ n ih =>
    show blM T o n + hid _ = sm _ n + _
    rw [ih, hid_eq]
theorem sz2_13 {i : Nat} (h : i < 13) : pw13 (sz2 1 i) ∧ (4096 / sz2 1 i).toNat * (sz2 1 i).toNat = 4096 := by
  have h : i = 0 ∨ i = 1 ∨ i = 2 ∨ i = 3 ∨ i = 4 ∨ i = 5 ∨ i = 6 ∨ i = 7 ∨ i = 8 ∨ i = 9 ∨ i = 10 ∨ i = 11 ∨ i = 12 := by omega
  unfold pw13
  rcases h with rfl | rfl | rfl | rfl | rfl | rfl | rfl | rfl | rfl | rfl | rfl | rfl | rfl <;> exact ⟨by decide, by decide⟩
theorem sz2_of {s : Int} (h : pw13 s) : ∃ i, i < 13 ∧ s = sz2 1 i := by
  have hb := pw13_b h
  obtain ⟨i, hi⟩ := sz2_ex 4096 1 s (by omega) (by unfold pw13; omega) h hb.1
  refine ⟨i, Classical.byContradiction fun q => ?_, hi⟩
  have h1 : sz2 1 12 = 4096 := by decide
  have h2 := sz2_lt (S := 1) (by decide) (i := 12) (k := i) (by omega)
  omega
/-- the model counts the greatest blocks -/
theorem blM_mx {T : MT} {o : Int} {P : Int → Prop} (hP : ∀ a : Nat, a < 4096 → (T 8 (nrC T a).toNat = o ↔ P a)) : blM T o 13 = sm (mxs P) 4096 := by
  have hk : ∀ n : Nat, n = 4096 → blM T o 13 = sm (mxs P) n := by
    intro n hn
    rw [blM_sm]
    have e1 : ∀ i, i < 13 → blI T o (sz2 1 i) (4096 / sz2 1 i).toNat = sm (fun a => if (a : Int) % sz2 1 i = 0 ∧ (alM T o a (sz2 1 i) ∧ ¬ alM T o (a - a % (2 * sz2 1 i)) (2 * sz2 1 i)) then 1 else 0) n := fun i hi => by
      have h1 := sz2_13 hi
      rw [blI_sm]
      generalize sz2 1 i = s at h1 ⊢
      have h2 := pw13_b h1.1
      have h3 := sm_grid (Q := fun a => alM T o a s ∧ ¬ alM T o (a - a % (2 * s)) (2 * s)) (s := s.toNat) (by omega) (4096 / s).toNat
      rw [h1.2, Int.toNat_of_nonneg (show 0 ≤ s by omega), ← hn] at h3
      exact h3.symm
    rw [sm_c e1, sm_swap]
    refine sm_c (fun a ha => ?_)
    have e2 : ∀ i, i < 13 → ((a : Int) % sz2 1 i = 0 ∧ (alM T o a (sz2 1 i) ∧ ¬ alM T o (a - a % (2 * sz2 1 i)) (2 * sz2 1 i)) ↔ mxB P a (sz2 1 i)) := fun i hi => alM_mx hP (by omega) (sz2_13 hi).1
    by_cases c : ∃ s, mxB P a s
    · obtain ⟨s, hs⟩ := c
      obtain ⟨i, hi, rfl⟩ := sz2_of hs.1.1
      rw [mxs_1 hs]
      refine (sm_1 hi (fun i' hi' hne => if_neg (fun q => ?_))).trans (if_pos ((e2 i hi).mpr hs))
      have h1 := mxB_uniq ((e2 i' hi').mp q) hs
      exact hne ((sz2_inj (S := 1) (by decide)).2.mp h1)
    · rw [mxs_0 (fun s hs => c ⟨s, hs⟩)]
      exact sm_z (fun i hi => if_neg (fun q => c ⟨_, (e2 i hi).mp q⟩))
  exact hk 4096 rfl
theorem sm_bd01 {f : Nat → Int} (hf : ∀ i, 0 ≤ f i ∧ f i ≤ 1) (n : Nat) : 0 ≤ sm f n ∧ sm f n ≤ n := by
  induction n with
  | zero => exact ⟨Int.le_refl 0, Int.le_refl 0⟩
  | succ n ih =>
    have := hf n
    have e : sm f (n + 1) = sm f n + f n := rfl
    rw [e]
    omega
/-- by how few blocks an owner can be told: class and model -/
theorem Inv.blk2 {np : Nat} {T : MT} (h : Inv np T) (o : Int) : (blS (_root_.Jvm.Pilot.@@N@@.lyR T) o 4096).1 + cbkC 4096 (blS (_root_.Jvm.Pilot.@@N@@.lyR T) o 4096).2 = blMC T o ∧ 0 ≤ blMC T o ∧ blMC T o ≤ 4096 := by
  have hU := h.lyR
  have hP : ∀ a : Nat, a < 4096 → (T 8 (nrC T a).toNat = o ↔ T 17 (nsI T a 60).toNat = o) := fun a ha => by
    have hn2 := h.near (a := (a : Int)) (by omega)
    have hns := h.nsi (a := (a : Int)) (by omega) 60
    rw [← hn2]
    generalize nsI T a 60 = y at hns ⊢
    have hyh := hns.1
    have hs : isS T y := ⟨hns.2.1, by have := hyh.1; omega, hyh.2.1⟩
    rw [(h.eqs hs).2.2.2]
  have hrow : ∀ j : Nat, j < 4096 → ((0 ≤ fsp (_root_.Jvm.Pilot.@@N@@.lyR T) (_root_.Jvm.Pilot.@@N@@.lyR T 3 j) ∧ _root_.Jvm.Pilot.@@N@@.lyR T 17 (fsp (_root_.Jvm.Pilot.@@N@@.lyR T) (_root_.Jvm.Pilot.@@N@@.lyR T 3 j)).toNat = o) ↔ T 17 (nsI T j 60).toNat = o) := fun j hj => by
    have hns := h.nsi (a := (j : Int)) (by omega) 60
    rw [h.row hj]
    generalize nsI T j 60 = y at hns ⊢
    have hyh := hns.1
    have hs : isS T y := ⟨hns.2.1, by have := hyh.1; omega, hyh.2.1⟩
    have hs2 : isS (_root_.Jvm.Pilot.@@N@@.lyR T) y := ⟨hs.1, hs.2.1, by rw [lyR_r (by decide) (fun q => absurd q.1 (by decide))]; exact hs.2.2⟩
    rcases fsp_or (_root_.Jvm.Pilot.@@N@@.lyR T) y with ⟨-, q⟩ | ⟨q, -⟩
    · exact absurd hs2 q
    · rw [q, lyR_r (by decide) (fun q => absurd q.1 (by decide))]
      exact ⟨fun q => q.2, fun q => ⟨hns.2.1, q⟩⟩
  have h1 := blS_run hU (P := fun a => T 17 (nsI T a 60).toNat = o) hrow 4096 (Nat.le_refl _)
  have h2 := blM_mx (P := fun a => T 17 (nsI T a 60).toNat = o) hP
  have h4 := sm_bd01 (f := mxs (fun a => T 17 (nsI T a 60).toNat = o)) (fun i => by unfold mxs; split <;> omega) 4096
  rw [blMC_eq, h2]
  generalize blS (_root_.Jvm.Pilot.@@N@@.lyR T) o 4096 = u at h1 ⊢
  obtain ⟨i1, i2, i3, i4, i5⟩ := h1
  have h3 := cbk_run (P := fun a => T 17 (nsI T a 60).toNat = o) (e := 4096) (Int.le_refl _) (Or.inl rfl) 4096 u.2 i1 i2 (by omega) i4 i5
  rw [cbkC_eq, h3, i3]
  refine ⟨?_, h4⟩
  show sm _ u.2.toNat + (sm _ 4096 - sm _ u.2.toNat) = sm _ 4096
  omega
theorem blMC_f {T T' : MT} (h9 : T' 9 = T 9) (h5 : T' 5 = T 5) (h6 : T' 6 = T 6) (h8 : T' 8 = T 8) (o : Int) : blMC T' o = blMC T o := by
  have hS := smC_f h9 h5 h6 h8 o
  have h1 : ∀ S k, blI T' o S k = blI T o S k := fun S k => by
    induction k with
    | zero => rfl
    | succ k ih => simp only [blI, alM, ih, hS]
  have h2 : ∀ n, blM T' o n = blM T o n := fun n => by
    induction n with
    | zero => rfl
    | succ n ih =>
      show blM T' o n + hid _ = blM T o n + hid _
      rw [ih, h1]
  rw [blMC_eq, blMC_eq, h2]