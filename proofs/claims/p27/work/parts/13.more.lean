theorem g_snull_aux {ad : Nat → Nat} : grf ad (-1) = .null := grf_null (by decide)
section
variable {p : Program} {l : Launch} {e : Env} {R : Room} {s : State} {m : MethodId} {args : Array Value} {below : List Frame} {meth : Method} {c : Code} {Q : State → Prop} {cs : CSt} {A : Nat → Prop} {nL : Nat}
variable {cc : ByteArray} {own : String} {rt : Option FieldType} {k n np : Nat} {ad : Nat → Nat} {T : MT} {pc : Nat} {lv : List (Option Value)} {st : List Value}
theorem g_snull (C : gC p l s m args meth c cs A nL cc own rt) (d : decode cc pc = .ok (.aconst_null, 1)) (kk : GG p l e R s m args below meth c Q cs A nL k n np ad T (pc + 1) lv (grf ad (-1) :: st)) : GG p l e R s m args below meth c Q cs A nL k n np ad T pc lv st := by
  rw [g_snull_aux] at kk
  exact g_null C d kk
theorem g_aastS (C : gC p l s m args meth c cs A nL cc own rt) {i : Int} (hq : 13 ≤ np) (hi : 0 ≤ i ∧ i < 60) (d : decode cc pc = .ok (.aastore, 1)) (kk : GG p l e R s m args below meth c Q cs A nL k n np ad (mst T 1 i.toNat 0) (pc + 1) lv st) : GG p l e R s m args below meth c Q cs A nL k n np ad T pc lv (grf ad (-1) :: .int (zI i) :: .ref (ad 1) :: st) := by
  rw [g_snull_aux]
  exact g_aastN C hq hi d kk
theorem g_aldn_2 (C : gC p l s m args meth c cs A nL cc own rt) {i : Nat} (hq : 13 ≤ np) (hi : 0 ≤ (i : Int) ∧ (i : Int) < 4096) (d : decode cc pc = .ok (.iaload, 1)) (kk : GG p l e R s m args below meth c Q cs A nL k n np ad T (pc + 1) lv (.int (zI (T 2 i)) :: st)) : GG p l e R s m args below meth c Q cs A nL k n np ad T pc lv (.int (zI (i : Int)) :: .ref (ad 2) :: st) := g_ald_2 C hq hi d kk
theorem g_astn_2 (C : gC p l s m args meth c cs A nL cc own rt) {i : Nat} {z : Int} (hq : 13 ≤ np) (hi : 0 ≤ (i : Int) ∧ (i : Int) < 4096) (d : decode cc pc = .ok (.iastore, 1)) (kk : GG p l e R s m args below meth c Q cs A nL k n np ad (mst T 2 i z) (pc + 1) lv st) : GG p l e R s m args below meth c Q cs A nL k n np ad T pc lv (.int (zI z) :: .int (zI (i : Int)) :: .ref (ad 2) :: st) := g_ast_2 C hq hi d kk
theorem g_aldn_3 (C : gC p l s m args meth c cs A nL cc own rt) {i : Nat} (hq : 13 ≤ np) (hi : 0 ≤ (i : Int) ∧ (i : Int) < 4096) (d : decode cc pc = .ok (.iaload, 1)) (kk : GG p l e R s m args below meth c Q cs A nL k n np ad T (pc + 1) lv (.int (zI (T 3 i)) :: st)) : GG p l e R s m args below meth c Q cs A nL k n np ad T pc lv (.int (zI (i : Int)) :: .ref (ad 3) :: st) := g_ald_3 C hq hi d kk
theorem g_astn_3 (C : gC p l s m args meth c cs A nL cc own rt) {i : Nat} {z : Int} (hq : 13 ≤ np) (hi : 0 ≤ (i : Int) ∧ (i : Int) < 4096) (d : decode cc pc = .ok (.iastore, 1)) (kk : GG p l e R s m args below meth c Q cs A nL k n np ad (mst T 3 i z) (pc + 1) lv st) : GG p l e R s m args below meth c Q cs A nL k n np ad T pc lv (.int (zI z) :: .int (zI (i : Int)) :: .ref (ad 3) :: st) := g_ast_3 C hq hi d kk
theorem g_aaldn (C : gC p l s m args meth c cs A nL cc own rt) {i : Nat} (hq : 13 ≤ np) (hi : 0 ≤ (i : Int) ∧ (i : Int) < 60) (d : decode cc pc = .ok (.aaload, 1)) (kk : GG p l e R s m args below meth c Q cs A nL k n np ad T (pc + 1) lv (grf ad (mkd T i) :: st)) : GG p l e R s m args below meth c Q cs A nL k n np ad T pc lv (.int (zI (i : Int)) :: .ref (ad 1) :: st) := g_aald C hq hi d kk
end
/-- the class's own memory is in order -/
def VC (np : Nat) (T : MT) : Prop := (1 ≤ T 0 2 ∧ T 0 2 ≤ 60 ∧ (np : Int) = T 0 2 + 13 ∧ T 1 0 = 1) ∧ ∀ j : Nat, j < 60 → T 1 j = 0 ∨ (T 1 j = 1 ∧ (j : Int) < T 0 2 ∧ T 13 j = j ∧ -1 ≤ T 14 j ∧ T 14 j < j ∧ 0 ≤ T 15 j ∧ 1 ≤ T 16 j ∧ T 15 j + T 16 j ≤ 4096 ∧ 0 ≤ T 17 j ∧ T 17 j ≤ 7)
def fsp (T : MT) (a : Int) : Int := if 0 ≤ a ∧ a < 60 then mkd T a.toNat else -1
theorem mkd_or (T : MT) (j : Nat) : (T 1 j = 0 ∧ mkd T j = -1) ∨ (T 1 j ≠ 0 ∧ mkd T j = j) := by
  unfold mkd
  by_cases h : T 1 j = 0
  · exact Or.inl ⟨h, if_pos h⟩
  · exact Or.inr ⟨h, if_neg h⟩
/-- a span that is there -/
def isS (T : MT) (x : Int) : Prop := 0 ≤ x ∧ x < 60 ∧ T 1 x.toNat ≠ 0
theorem VC.s {np : Nat} {T : MT} (h : VC np T) {x : Int} (hx : isS T x) : 0 ≤ x ∧ x < 60 ∧ x + 13 < np ∧ T 1 x.toNat = 1 ∧ T 13 x.toNat = x ∧ -1 ≤ T 14 x.toNat ∧ T 14 x.toNat < x ∧ 0 ≤ T 15 x.toNat ∧ 1 ≤ T 16 x.toNat ∧ T 15 x.toNat + T 16 x.toNat ≤ 4096 ∧ 0 ≤ T 17 x.toNat ∧ T 17 x.toNat ≤ 7 := by
  obtain ⟨h0, h1, h2⟩ := hx
  have h3 := h.2 x.toNat (by omega)
  have h4 := h.1
  omega
theorem fsp_or (T : MT) (a : Int) : (fsp T a = -1 ∧ ¬ isS T a) ∨ (fsp T a = a ∧ isS T a) := by
  unfold fsp isS
  by_cases h : 0 ≤ a ∧ a < 60
  · rw [if_pos h]
    rcases mkd_or T a.toNat with ⟨h1, h2⟩ | ⟨h1, h2⟩
    · exact Or.inl ⟨h2, fun q => q.2.2 h1⟩
    · exact Or.inr ⟨by rw [h2]; omega, h.1, h.2, h1⟩
  · rw [if_neg h]
    exact Or.inl ⟨rfl, fun q => h ⟨q.1, q.2.1⟩⟩
theorem cat_int (x : Int32) : (Value.int x).category = 1 := rfl
theorem cat_ref (x : Nat) : (Value.ref x).category = 1 := rfl
section
variable {p : Program} {l : Launch} {e : Env} {R : Room} {s : State} {m : MethodId} {args : Array Value} {below : List Frame} {meth : Method} {c : Code} {Q : State → Prop} {cs : CSt} {A : Nat → Prop} {nL : Nat}
variable {k n np : Nat} {ad : Nat → Nat} {pc : Nat} {st : List Value}
/-- a loop whose head is passed with i = i0, i0 + 1 .. up to at most N -/
theorem g_loop {σ : Type} (Tf : Nat → σ → MT) (lvf : Nat → σ → List (Option Value)) (inv : Nat → σ → Prop) (N i0 : Nat) (s0 : σ) (h0 : inv i0 s0) (hi : i0 ≤ N)
    (hs : ∀ i z, inv i z → i ≤ N → (∀ z', i + 1 ≤ N → inv (i + 1) z' → GG p l e R s m args below meth c Q cs A nL k n np ad (Tf (i + 1) z') pc (lvf (i + 1) z') st) → GG p l e R s m args below meth c Q cs A nL k n np ad (Tf i z) pc (lvf i z) st) :
    GG p l e R s m args below meth c Q cs A nL k n np ad (Tf i0 s0) pc (lvf i0 s0) st := by
  have key : ∀ (d i : Nat) (z : σ), inv i z → i + d = N → GG p l e R s m args below meth c Q cs A nL k n np ad (Tf i z) pc (lvf i z) st := by
    intro d
    induction d with
    | zero => exact fun i z h1 h2 => hs i z h1 (by omega) (fun z' h3 => absurd h3 (by omega))
    | succ d ih => exact fun i z h1 h2 => hs i z h1 (by omega) (fun z' h3 h4 => ih (i + 1) z' h4 (by omega))
  exact key (N - i0) i0 s0 h0 (by omega)
end
def exq (q : Prop) [Decidable q] (x : Nat) : Nat := if q then 0 else x
theorem exq_ne {q : Prop} [Decidable q] {x : Nat} (h : exq q x ≠ 0) : ¬ q := fun hq => h (if_pos hq)
theorem exq_eq {q : Prop} [Decidable q] {x : Nat} (h : exq q x = 0) (hx : x ≠ 0) : q := by
  unfold exq at h
  by_cases hq : q
  · exact hq
  · rw [if_neg hq] at h
    exact absurd h hx
theorem exq_t {q : Prop} [Decidable q] {x : Nat} (h : q) : exq q x = 0 := if_pos h
theorem exq_f {q : Prop} [Decidable q] {x : Nat} (h : ¬ q) : exq q x = x := if_neg h
abbrev szp (a : Int) : Prop := a = 1 ∨ a = 2 ∨ a = 4 ∨ a = 8 ∨ a = 16 ∨ a = 32 ∨ a = 64 ∨ a = 128 ∨ a = 256 ∨ a = 512 ∨ a = 1024 ∨ a = 2048
theorem szp_all : ∀ n : Nat, n < 2049 → ((zI (n : Int) &&& zI ((n : Int) - 1)) = zI 0 ↔ n = 0 ∨ szp n) := by decide +kernel
theorem szp_and {a : Int} (h : 1 ≤ a ∧ a ≤ 2048) : (zI a &&& zI (a - 1)).toInt = 0 ↔ szp a := by
  have h1 := szp_all a.toNat (by omega)
  have h2 : (a.toNat : Int) = a := by omega
  rw [h2] at h1
  rw [← Int32.toInt_inj, zI_toInt (by omega : -2147483648 ≤ (0 : Int) ∧ (0 : Int) < 2147483648)] at h1
  rw [h1]
  exact ⟨fun h => h.elim (fun h => absurd h (by omega)) id, Or.inr⟩
theorem rg32 (x : Int32) : -2147483648 ≤ x.toInt ∧ x.toInt < 2147483648 := ⟨Int32.le_toInt x, Int32.toInt_lt x⟩
/-- how many spans of x have an address of the block -/
def cnt (h q b z : Nat → Int) (x B S : Int) : Nat → Int
  | 0 => 0
  | j + 1 => cnt h q b z x B S j + (if h j ≠ 0 ∧ q j = x ∧ b j < B + S ∧ B < b j + z j then 1 else 0)
theorem cnt_bd (h q b z : Nat → Int) (x B S : Int) (j : Nat) : 0 ≤ cnt h q b z x B S j ∧ cnt h q b z x B S j ≤ j := by
  induction j with
  | zero => exact ⟨Int.le_refl 0, Int.le_refl 0⟩
  | succ j ih =>
    unfold cnt
    split <;> omega
/-- a number whose making the kernel does not look into -/
noncomputable def hid (v : Int) : Int := Classical.choose (⟨v, rfl⟩ : ∃ w : Int, w = v)
theorem hid_eq (v : Int) : hid v = v := Classical.choose_spec (⟨v, rfl⟩ : ∃ w : Int, w = v)
noncomputable def cntC (T : MT) (x B S : Int) (j : Nat) : Int := hid (cnt (T 1) (T 14) (T 15) (T 16) x B S j)
theorem cntC_eq (T : MT) (x B S : Int) (j : Nat) : cntC T x B S j = cnt (T 1) (T 14) (T 15) (T 16) x B S j := hid_eq _
theorem cntC_bd (T : MT) (x B S : Int) (j : Nat) : 0 ≤ cntC T x B S j ∧ cntC T x B S j ≤ j := by
  rw [cntC_eq]
  exact cnt_bd _ _ _ _ _ _ _ _
section
variable {p : Program} {l : Launch} {e : Env} {R : Room} {s : State} {m : MethodId} {args : Array Value} {below : List Frame} {meth : Method} {c : Code} {Q : State → Prop} {cs : CSt} {A : Nat → Prop} {nL : Nat}
variable {cc : ByteArray} {own : String} {rt : Option FieldType} {k n np : Nat} {ad : Nat → Nat} {T : MT} {pc : Nat} {lv : List (Option Value)} {st : List Value}
theorem g_getn_X0_7 (C : gC p l s m args meth c cs A nL cc RX0 rt) {x : Nat} (hq : 0 ≤ (x : Int) ∧ (x : Int) + 13 < np) (d : decode cc pc = .ok (.getfield 7, 3)) (kk : GG p l e R s m args below meth c Q cs A nL k n np ad T (pc + 3) lv (.int (zI (T 13 x)) :: st)) : GG p l e R s m args below meth c Q cs A nL k n np ad T pc lv (grf ad (x : Int) :: st) := g_get_X0_7 C hq d kk
theorem g_getn_X1_154 (C : gC p l s m args meth c cs A nL cc RX1 rt) {x : Nat} (hq : 0 ≤ (x : Int) ∧ (x : Int) + 13 < np) (d : decode cc pc = .ok (.getfield 154, 3)) (kk : GG p l e R s m args below meth c Q cs A nL k n np ad T (pc + 3) lv (.int (zI (T 13 x)) :: st)) : GG p l e R s m args below meth c Q cs A nL k n np ad T pc lv (grf ad (x : Int) :: st) := g_get_X1_154 C hq d kk
theorem g_getn_X0_13 (C : gC p l s m args meth c cs A nL cc RX0 rt) {x : Nat} (hq : 0 ≤ (x : Int) ∧ (x : Int) + 13 < np) (d : decode cc pc = .ok (.getfield 13, 3)) (kk : GG p l e R s m args below meth c Q cs A nL k n np ad T (pc + 3) lv (grf ad (T 14 x) :: st)) : GG p l e R s m args below meth c Q cs A nL k n np ad T pc lv (grf ad (x : Int) :: st) := g_get_X0_13 C hq d kk
theorem g_getn_X1_94 (C : gC p l s m args meth c cs A nL cc RX1 rt) {x : Nat} (hq : 0 ≤ (x : Int) ∧ (x : Int) + 13 < np) (d : decode cc pc = .ok (.getfield 94, 3)) (kk : GG p l e R s m args below meth c Q cs A nL k n np ad T (pc + 3) lv (grf ad (T 14 x) :: st)) : GG p l e R s m args below meth c Q cs A nL k n np ad T pc lv (grf ad (x : Int) :: st) := g_get_X1_94 C hq d kk
theorem g_getn_X0_17 (C : gC p l s m args meth c cs A nL cc RX0 rt) {x : Nat} (hq : 0 ≤ (x : Int) ∧ (x : Int) + 13 < np) (d : decode cc pc = .ok (.getfield 17, 3)) (kk : GG p l e R s m args below meth c Q cs A nL k n np ad T (pc + 3) lv (.int (zI (T 15 x)) :: st)) : GG p l e R s m args below meth c Q cs A nL k n np ad T pc lv (grf ad (x : Int) :: st) := g_get_X0_17 C hq d kk
theorem g_getn_X1_101 (C : gC p l s m args meth c cs A nL cc RX1 rt) {x : Nat} (hq : 0 ≤ (x : Int) ∧ (x : Int) + 13 < np) (d : decode cc pc = .ok (.getfield 101, 3)) (kk : GG p l e R s m args below meth c Q cs A nL k n np ad T (pc + 3) lv (.int (zI (T 15 x)) :: st)) : GG p l e R s m args below meth c Q cs A nL k n np ad T pc lv (grf ad (x : Int) :: st) := g_get_X1_101 C hq d kk
theorem g_getn_X0_20 (C : gC p l s m args meth c cs A nL cc RX0 rt) {x : Nat} (hq : 0 ≤ (x : Int) ∧ (x : Int) + 13 < np) (d : decode cc pc = .ok (.getfield 20, 3)) (kk : GG p l e R s m args below meth c Q cs A nL k n np ad T (pc + 3) lv (.int (zI (T 16 x)) :: st)) : GG p l e R s m args below meth c Q cs A nL k n np ad T pc lv (grf ad (x : Int) :: st) := g_get_X0_20 C hq d kk
theorem g_getn_X1_114 (C : gC p l s m args meth c cs A nL cc RX1 rt) {x : Nat} (hq : 0 ≤ (x : Int) ∧ (x : Int) + 13 < np) (d : decode cc pc = .ok (.getfield 114, 3)) (kk : GG p l e R s m args below meth c Q cs A nL k n np ad T (pc + 3) lv (.int (zI (T 16 x)) :: st)) : GG p l e R s m args below meth c Q cs A nL k n np ad T pc lv (grf ad (x : Int) :: st) := g_get_X1_114 C hq d kk
theorem g_getn_X0_23 (C : gC p l s m args meth c cs A nL cc RX0 rt) {x : Nat} (hq : 0 ≤ (x : Int) ∧ (x : Int) + 13 < np) (d : decode cc pc = .ok (.getfield 23, 3)) (kk : GG p l e R s m args below meth c Q cs A nL k n np ad T (pc + 3) lv (.int (zI (T 17 x)) :: st)) : GG p l e R s m args below meth c Q cs A nL k n np ad T pc lv (grf ad (x : Int) :: st) := g_get_X0_23 C hq d kk
theorem g_getn_X1_125 (C : gC p l s m args meth c cs A nL cc RX1 rt) {x : Nat} (hq : 0 ≤ (x : Int) ∧ (x : Int) + 13 < np) (d : decode cc pc = .ok (.getfield 125, 3)) (kk : GG p l e R s m args below meth c Q cs A nL k n np ad T (pc + 3) lv (.int (zI (T 17 x)) :: st)) : GG p l e R s m args below meth c Q cs A nL k n np ad T pc lv (grf ad (x : Int) :: st) := g_get_X1_125 C hq d kk
end
