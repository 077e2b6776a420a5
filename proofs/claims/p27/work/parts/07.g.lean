/-! ints by their values -/
def zI (z : Int) : Int32 := Int32.ofInt z
theorem zI_add (a b : Int) : zI a + zI b = zI (a + b) := (Int32.ofInt_add a b).symm
theorem zI_sub (a b : Int) : zI a - zI b = zI (a - b) := (Int32.ofInt_sub a b).symm
theorem zI_mul (a b : Int) : zI a * zI b = zI (a * b) := (Int32.ofInt_mul a b).symm
theorem zI_neg (a : Int) : - zI a = zI (- a) := (Int32.ofInt_neg a).symm
theorem zI_self (x : Int32) : zI x.toInt = x := Int32.ofInt_toInt x
theorem zI_toInt {a : Int} (h : -2147483648 ≤ a ∧ a < 2147483648) : (zI a).toInt = a := Int32.toInt_ofInt_of_le (by omega) (by omega)
theorem zI_lt {a b : Int} (ha : -2147483648 ≤ a ∧ a < 2147483648) (hb : -2147483648 ≤ b ∧ b < 2147483648) : zI a < zI b ↔ a < b := by
  rw [Int32.lt_iff_toInt_lt, zI_toInt ha, zI_toInt hb]
theorem zI_le {a b : Int} (ha : -2147483648 ≤ a ∧ a < 2147483648) (hb : -2147483648 ≤ b ∧ b < 2147483648) : zI a ≤ zI b ↔ a ≤ b := by
  rw [Int32.le_iff_toInt_le, zI_toInt ha, zI_toInt hb]
theorem zI_eq {a b : Int} (ha : -2147483648 ≤ a ∧ a < 2147483648) (hb : -2147483648 ≤ b ∧ b < 2147483648) : zI a = zI b ↔ a = b := by
  rw [← Int32.toInt_inj, zI_toInt ha, zI_toInt hb]
theorem zI_0 : zI 0 = 0 := by decide
theorem zI_nat {a : Int} (h : 0 ≤ a ∧ a < 2147483648) : (zI a).toNatClampNeg = a.toNat := by
  show (zI a).toInt.toNat = a.toNat
  rw [zI_toInt (by omega)]
theorem zI_in {a : Int} {n : Nat} (h : 0 ≤ a ∧ a < n) (hn : n < 2147483648) : vp_in (zI a) n := by
  rw [vp_in_iff, zI_toInt (by omega)]
  omega
theorem zI_ofNat (n : Nat) : Int32.ofNat n = zI n := by
  show Int32.ofNat n = Int32.ofInt n
  rw [Int32.ofInt_eq_ofNat]
theorem zI_div {a b : Int} (ha : 0 ≤ a ∧ a < 2147483648) (hb : 0 < b ∧ b < 2147483648) : zI a / zI b = zI (a / b) := by
  have h1 : zI b ≠ -1 := by
    intro h
    have h2 := congrArg Int32.toInt h
    rw [zI_toInt (by omega)] at h2
    have h3 : (-1 : Int32).toInt = -1 := by decide
    omega
  have hd : 0 ≤ a / b ∧ a / b ≤ a := ⟨Int.ediv_nonneg (by omega) (by omega), Int.ediv_le_self _ (by omega)⟩
  rw [← Int32.toInt_inj, Int32.toInt_div_of_ne_right _ _ h1, zI_toInt (by omega), zI_toInt (by omega), zI_toInt (by omega), Int.tdiv_eq_ediv_of_nonneg (by omega)]
theorem zI_long {a : Int} (h : -2147483648 ≤ a ∧ a < 2147483648) : (zI a).toInt64 = Int64.ofInt a := by
  rw [← Int64.ofInt_int32ToInt, zI_toInt h]
/-! the memory: a number for a register and a place; the cells that it stands for -/
abbrev MT : Type := Nat → Nat → Int
abbrev CSt : Type := va_G × (Nat → ClassId) × (Nat → Nat)
abbrev St3 : Type := Nat × (Nat → Nat) × MT
def mst (T : MT) (r i : Nat) (v : Int) : MT := fun r' i' => if r' = r ∧ i' = i then v else T r' i'
theorem mst_eq (T : MT) (r i : Nat) (v : Int) : mst T r i v r i = v := by simp [mst]
theorem mst_ne {T : MT} {r i r' i' : Nat} {v : Int} (h : ¬ (r' = r ∧ i' = i)) : mst T r i v r' i' = T r' i' := by simp [mst, h]
theorem mst_r {T : MT} {r i r' i' : Nat} {v : Int} (h : r' ≠ r) : mst T r i v r' i' = T r' i' := mst_ne (fun q => h q.1)
theorem mst_i {T : MT} {r i r' i' : Nat} {v : Int} (h : i' ≠ i) : mst T r i v r' i' = T r' i' := mst_ne (fun q => h q.2)
def mkd (T : MT) (j : Nat) : Int := if T 1 j = 0 then -1 else j
def gO (ad : Nat → Nat) (x : Int) : Option Nat := if x < 0 then none else some (ad (x.toNat + 13))
def grf (ad : Nat → Nat) (x : Int) : Value := va_rf (gO ad x)
def cel (cs : CSt) (ad : Nat → Nat) (T : MT) (k : Nat) : va_E := match k with
  | 0 => .inr (1, [.ref (ad 13), .ref (ad 1), .int (zI (T 0 2)), .ref (ad 2), .int (zI (T 0 4)), .int (zI (T 0 5)), .ref (ad 3), .int (zI (T 0 7))])
  | 1 => .inl (cs.2.1 2, 60, .inr (.inr (.inr (.inr (fun j => gO ad (mkd T j))))))
  | 2 => .inl (cs.2.1 0, 4096, .inl (fun j => zI (T 2 j)))
  | 3 => .inl (cs.2.1 0, 4096, .inl (fun j => zI (T 3 j)))
  | 4 => .inl (cs.2.1 0, 0, .inl (fun _ => 0))
  | 5 => .inl (cs.2.1 0, 0, .inl (fun _ => 0))
  | 6 => .inl (cs.2.1 0, 0, .inl (fun _ => 0))
  | 7 => .inl (cs.2.1 0, 0, .inl (fun _ => 0))
  | 8 => .inl (cs.2.1 0, 0, .inl (fun _ => 0))
  | 9 => .inl (cs.2.1 0, 0, .inl (fun _ => 0))
  | 10 => .inl (cs.2.1 0, 0, .inl (fun _ => 0))
  | 11 => .inl (cs.2.1 0, 0, .inl (fun _ => 0))
  | 12 => .inl (cs.2.1 0, 0, .inl (fun _ => 0))
  | j + 13 => .inr (0, [.int (zI (T 13 j)), grf ad (T 14 j), .int (zI (T 15 j)), .int (zI (T 16 j)), .int (zI (T 17 j))])
theorem cel_reg {cs : CSt} {ad : Nat → Nat} {T T' : MT} (k : Nat) (hk : k < 13) (h : ∀ r i, r ≠ k → T' r i = T r i) (j : Nat) (hj : j ≠ k) : cel cs ad T' j = cel cs ad T j := by
  have hf : ∀ r, r ≠ k → T' r = T r := fun r hr => funext fun i => h r i hr
  match j, hj with
  | 0, hj => simp only [cel, hf 0 hj]
  | 1, hj => simp only [cel, mkd, hf 1 hj]
  | 2, hj => simp only [cel, hf 2 hj]
  | 3, hj => simp only [cel, hf 3 hj]
  | 4, hj => rfl
  | 5, hj => rfl
  | 6, hj => rfl
  | 7, hj => rfl
  | 8, hj => rfl
  | 9, hj => rfl
  | 10, hj => rfl
  | 11, hj => rfl
  | 12, hj => rfl
  | j + 13, hj => simp only [cel, hf 13 (by omega), hf 14 (by omega), hf 15 (by omega), hf 16 (by omega), hf 17 (by omega)]
theorem cel_span {cs : CSt} {ad : Nat → Nat} {T T' : MT} (n : Nat) (h : ∀ r i, ¬ (13 ≤ r ∧ i = n) → T' r i = T r i) (j : Nat) (hj : j ≠ n + 13) : cel cs ad T' j = cel cs ad T j := by
  have hf : ∀ r, r < 13 → T' r = T r := fun r hr => funext fun i => h r i (by omega)
  match j, hj with
  | 0, hj => simp only [cel, hf 0 (by omega)]
  | 1, hj => simp only [cel, mkd, hf 1 (by omega)]
  | 2, hj => simp only [cel, hf 2 (by omega)]
  | 3, hj => simp only [cel, hf 3 (by omega)]
  | 4, hj => rfl
  | 5, hj => rfl
  | 6, hj => rfl
  | 7, hj => rfl
  | 8, hj => rfl
  | 9, hj => rfl
  | 10, hj => rfl
  | 11, hj => rfl
  | 12, hj => rfl
  | j + 13, hj =>
    have hg : ∀ r, T' r j = T r j := fun r => h r j (by omega)
    simp only [cel, hg]
/-- the cells' numbers leave out 4 to 12 -/
def gI (i : Nat) : Nat := if i < 4 then i else i + 9
def gJ (k : Nat) : Nat := if k < 4 then k else k - 9
theorem gI_gJ {k : Nat} (h : k < 4 ∨ 13 ≤ k) : gI (gJ k) = k := by
  unfold gI gJ
  by_cases h1 : k < 4
  · rw [if_pos h1, if_pos h1]
  · rw [if_neg h1, if_neg (by omega)]; omega
theorem gJ_gI (i : Nat) : gJ (gI i) = i := by
  unfold gI gJ
  by_cases h1 : i < 4
  · rw [if_pos h1, if_pos h1]
  · rw [if_neg h1, if_neg (by omega)]; omega
theorem gI_ok {i np : Nat} (h13 : 13 ≤ np) (h : i < np - 9) : (gI i < 4 ∨ 13 ≤ gI i) ∧ gI i < np := by unfold gI; split <;> constructor <;> omega
theorem gJ_ok {k np : Nat} (h13 : 13 ≤ np) (h : (k < 4 ∨ 13 ≤ k) ∧ k < np) : gJ k < np - 9 := by have := h.1; have := h.2; unfold gJ; split <;> omega
def gW (cs : CSt) (np : Nat) (ad : Nat → Nat) (T : MT) : va_W := (List.range (np - 9)).map (fun i => (ad (gI i), cel cs ad T (gI i)))
theorem gW_len {cs : CSt} {np : Nat} {ad : Nat → Nat} {T : MT} : (gW cs np ad T).length = np - 9 := by simp [gW]
theorem gW_at {cs : CSt} {np : Nat} {ad : Nat → Nat} {T : MT} {i : Nat} (h : i < np - 9) : (gW cs np ad T)[i]? = some (ad (gI i), cel cs ad T (gI i)) := by
  simp [gW, h]
theorem gW_get {cs : CSt} {np : Nat} {ad : Nat → Nat} {T : MT} {k : Nat} (h : 13 ≤ np ∧ (k < 4 ∨ 13 ≤ k) ∧ k < np) : (gW cs np ad T)[gJ k]? = some (ad k, cel cs ad T k) := by
  rw [gW_at (gJ_ok h.1 h.2), gI_gJ h.2.1]
theorem gW_set {cs : CSt} {np : Nat} {ad : Nat → Nat} {T T' : MT} {k : Nat} {x : va_E} (h : 13 ≤ np ∧ (k < 4 ∨ 13 ≤ k) ∧ k < np) (hx : cel cs ad T' k = x) (ho : ∀ j, j ≠ k → cel cs ad T' j = cel cs ad T j) : (gW cs np ad T).set (gJ k) (ad k, x) = gW cs np ad T' := by
  subst hx
  refine List.ext_getElem? fun j => ?_
  by_cases hj : j = gJ k
  · subst hj
    rw [List.getElem?_set_self (by rw [gW_len]; exact gJ_ok h.1 h.2), gW_get h]
  · rw [List.getElem?_set_ne (Ne.symm hj)]
    by_cases hn : j < np - 9
    · rw [gW_at hn, gW_at hn, ho (gI j) (fun q => hj (by rw [← q, gJ_gI]))]
    · rw [List.getElem?_eq_none (by rw [gW_len]; omega), List.getElem?_eq_none (by rw [gW_len]; omega)]
def gTy (cs : CSt) : List (ClassId × FieldType) := [(cs.2.1 0, .int), (cs.2.1 2, .object RX0)]
def gStr : List (Nat × String) := [(180, "no such span"), (185, "the size is not 1 to 2048, or no power of 2"), (187, "the owner is not 0 to 7"), (56, "the way is not 0 to 2"), (189, "nothing of the size can be carved in the span"), (71, "no free block of the size"), (191, "60 spans were made"), (82, "the base is below 0 or no multiple of the size"), (92, "no such free block"), (112, "the span cannot be removed"), (117, "the span cannot be doubled in its parent"), (119, "another span is in the way"), (121, "the whole, or a single address"), (123, "the second half is in use"), (128, "the days are not 0 to 100"), (130, "200 are lent, or there are spans in the span"), (139, "no address of the span is free"), (183, "no such address"), (144, "the address is not lent"), (146, "the days are not 1 to 1000"), (149, "the day would be above 100000")]
def gBd : List Cond := [.castable "java/lang/IndexOutOfBoundsException" "java/lang/IndexOutOfBoundsException", .castable "java/lang/IllegalArgumentException" "java/lang/IllegalArgumentException", .castable "java/lang/IllegalStateException" "java/lang/IllegalStateException", .declares ⟨"java/lang/RuntimeException", "<init>", "(Ljava/lang/String;)V"⟩, .declares ⟨"java/lang/Exception", "<init>", "(Ljava/lang/String;)V"⟩, .declares ⟨"java/lang/Throwable", "<init>", "(Ljava/lang/String;)V"⟩]
def gNc : List (String × String) := [("java/lang/IllegalArgumentException", "java/lang/IndexOutOfBoundsException"), ("java/lang/IllegalStateException", "java/lang/IndexOutOfBoundsException"), ("java/lang/IllegalStateException", "java/lang/IllegalArgumentException")]
def gX (cs : CSt) (A : Nat → Prop) (U : State) (H : Heap) : Prop := vx_Zq Bundle.tN "UNASSIGNED_STACK" Bundle.steD A U H ∧ vx_Zq Bundle.tN "SUPPRESSED_SENTINEL" Bundle.listD A U H ∧ (∀ q ∈ gStr, vk_R RX1 q.1 q.2 (cs.2.2 q.1) U) ∧ (∀ w ∈ gBd, va_Nw w U) ∧ ∀ q ∈ gNc, va_Nc q.1 q.2 U
theorem gBd_ot : ∀ w ∈ gBd, w.onTables = true := by decide
theorem gBd_warm {s U : State} (hW : s.WarmedH U.vm) (h : ∀ w ∈ gBd, va_Nw w s) : ∀ w ∈ gBd, va_Nw w U := by
  intro w hw
  have h1 := h w hw
  simp only [gBd, List.mem_cons, List.not_mem_nil, or_false] at hw
  rcases hw with rfl | rfl | rfl | rfl | rfl | rfl
  · exact va_Nw.warmC hW h1
  · exact va_Nw.warmC hW h1
  · exact va_Nw.warmC hW h1
  · exact va_Nw.warmD hW h1
  · exact va_Nw.warmD hW h1
  · exact va_Nw.warmD hW h1
def gB (cs : CSt) (np : Nat) (ad : Nat → Nat) (T : MT) (sz : Nat) (U : State) : Prop := U.heap.size = sz ∧ va_P cs.1 vwCl (gW cs np ad T) U.heap ∧ va_K cs.1 vwCl (gTy cs) U ∧ va_D (fun _ => True) (gW cs np ad T) ∧ gX cs (va_A (gW cs np ad T) sz) U U.heap
def gE (cs : CSt) (A : Nat → Prop) (u : St3) (t : State) : Prop := va_P cs.1 vwCl (gW cs u.1 u.2.1 u.2.2) t.heap ∧ va_D A (gW cs u.1 u.2.1 u.2.2)
def gQ (cs : CSt) (A : Nat → Prop) (PR : Option Value → St3 → Prop) : Array Value → State → Outcome → State → Prop := fun _ s o t => (∃ v u, o = .returned v ∧ PR v u ∧ gE cs A u t) ∧ va_F A s t
def gXC (cs : CSt) (A : Nat → Prop) (PX : String → St3 → Prop) : String → State → State → Prop := fun E s t => ∃ u, PX E u ∧ gE cs A u t ∧ va_F A s t
def rmL (d mc ms : Nat) : Room := { frames := d, cells := mc, slots := ms, locals := 40 * d }
def KC (l : Launch) (cs : CSt) (y : MethodName) (ws : List Cond) (d mc ms : Nat) (av : List Value) (np : Nat) (ad : Nat → Nat) (T : MT) (PR : Option Value → St3 → Prop) (PX : String → St3 → Prop) : Prop :=
  l.stackTraces = false → ∀ sz, vx_Met l y ws (rmL d mc ms) (va_Pc av (gB cs np ad T sz)) (gQ cs (va_A (gW cs np ad T) sz) PR) (gXC cs (va_A (gW cs np ad T) sz) PX) mc ms (va_A (gW cs np ad T) sz)
def gl (ls : Array Slot) (nL : Nat) (lv : List (Option Value)) : Prop := ls.size = nL ∧ lv_wf ls ∧ lv.length = nL ∧ ∀ (i : Nat) (v : Value), lv[i]? = some (some v) → ls[i]? = some (.val v) ∧ v.category = 1
def glp (nL : Nat) (lv : List (Option Value)) : List (Nat × Value) := (List.range nL).filterMap (fun i => (lv[i]?).join.map (fun v => (i, v)))
theorem glp_mem {nL : Nat} {lv : List (Option Value)} {i : Nat} {v : Value} : (i, v) ∈ glp nL lv ↔ i < nL ∧ lv[i]? = some (some v) := by
  unfold glp
  rw [List.mem_filterMap]
  constructor
  · rintro ⟨j, hj, h⟩
    rw [List.mem_range] at hj
    cases hq : lv[j]? with
    | none => rw [hq] at h; cases h
    | some o =>
      cases o with
      | none => rw [hq] at h; cases h
      | some w =>
        rw [hq] at h
        cases h
        exact ⟨hj, hq⟩
  · rintro ⟨hi, h⟩
    exact ⟨i, List.mem_range.mpr hi, by rw [h]; rfl⟩
theorem gl_has {ls : Array Slot} {nL : Nat} {lv : List (Option Value)} (h : gl ls nL lv) : lv_has ls nL (glp nL lv) := by
  refine ⟨h.1, h.2.1, fun q hq => ?_⟩
  obtain ⟨i, v⟩ := q
  exact (h.2.2.2 i v (glp_mem.mp hq).2).1
theorem gl_at {ls : Array Slot} {nL : Nat} {lv : List (Option Value)} (h : gl ls nL lv) {i : Nat} {v : Value} (hi : lv[i]? = some (some v)) : ls[i]? = some (.val v) := (h.2.2.2 i v hi).1
theorem gl_back {ls ls' : Array Slot} {nL i : Nat} {lv : List (Option Value)} {v : Value} {l' : List (Nat × Value)} (h : gl ls nL lv) (hv : v.category = 1) (h' : lv_has ls' nL ((i, v) :: l'.filter (fun q => !(q.1 == i) && !(q.1 + 1 == i && q.2.category == 2)))) (hl : ∀ q ∈ glp nL lv, q ∈ l') : gl ls' nL (lv.set i (some v)) := by
  refine ⟨h'.1, h'.2.1, by rw [List.length_set]; exact h.2.2.1, fun j w hj => ?_⟩
  by_cases e : i = j
  · subst e
    have hlt : i < lv.length := by
      have h9 := (List.getElem?_eq_some_iff.mp hj).1
      rw [List.length_set] at h9
      exact h9
    rw [List.getElem?_set_self hlt] at hj
    cases hj
    exact ⟨h'.2.2 (i, v) List.mem_cons_self, hv⟩
  · rw [List.getElem?_set_ne e] at hj
    have hc := (h.2.2.2 j w hj).2
    have hlt : j < nL := by
      have h9 := (List.getElem?_eq_some_iff.mp hj).1
      rw [h.2.2.1] at h9
      exact h9
    refine ⟨h'.2.2 (j, w) (List.mem_cons_of_mem _ (List.mem_filter.mpr ⟨hl _ (glp_mem.mpr ⟨hlt, hj⟩), ?_⟩)), hc⟩
    have e2 : ¬ j = i := fun q => e q.symm
    simp [e2, hc]
theorem lv_args_mem : ∀ (vs : List Value) (o i : Nat) (v : Value), (∀ w ∈ vs, w.category = 1) → vs[i]? = some v → (o + i, v) ∈ lv_args o vs
  | [], _, _, _, _, h => by simp at h
  | a :: r, o, i, v, hc, h => by
    have ha : a.category = 1 := hc a List.mem_cons_self
    cases i with
    | zero =>
      rw [List.getElem?_cons_zero] at h
      cases h
      simp [lv_args]
    | succ i =>
      rw [List.getElem?_cons_succ] at h
      have := lv_args_mem r (o + 1) i v (fun w hw => hc w (List.mem_cons_of_mem _ hw)) h
      simp only [lv_args, ha]
      refine List.mem_cons_of_mem _ ?_
      rw [show o + (i + 1) = o + 1 + i by omega]
      exact this
theorem lg_sl_len (vs : List Value) (hc : ∀ w ∈ vs, w.category = 1) : (lg_sl vs).length = vs.length := by
  induction vs with
  | nil => rfl
  | cons a r ih =>
    have ha : a.category = 1 := hc a List.mem_cons_self
    have h2 := ih (fun w hw => hc w (List.mem_cons_of_mem _ hw))
    unfold lg_sl at h2 ⊢
    rw [List.flatMap_cons, List.length_append, h2]
    simp [ha]
    omega
theorem gl_entry (vs : List Value) {n : Nat} (hc : ∀ w ∈ vs, w.category = 1) (hn : vs.length ≤ n) : gl ((lg_sl vs ++ List.replicate (n - (lg_sl vs).length) Slot.unset).toArray) n (vs.map some ++ List.replicate (n - vs.length) none) := by
  have h := lv_entry vs (n := n) (by rw [lg_sl_len vs hc]; exact hn)
  refine ⟨h.1, h.2.1, by simp; omega, fun i v hi => ?_⟩
  have hi2 : vs[i]? = some v := by
    by_cases hl : i < vs.length
    · rw [List.getElem?_append_left (by simp; exact hl), List.getElem?_map] at hi
      cases hq : vs[i]? with
      | none => rw [hq] at hi; cases hi
      | some w => rw [hq] at hi; cases hi; rfl
    · rw [List.getElem?_append_right (by simp; omega)] at hi
      rw [List.getElem?_replicate] at hi
      split at hi <;> cases hi
  refine ⟨h.2.2 (i, v) ?_, hc v (List.mem_of_getElem? hi2)⟩
  have := lv_args_mem vs 0 i v hc hi2
  rw [Nat.zero_add] at this
  exact this
