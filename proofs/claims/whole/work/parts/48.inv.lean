/-! THE CLAIM OUT OF ONE WALK OF THE LAW'S BODY. Your part is whole_start (and what it stands on); all else here is the same for every law, but numbers. -/
def R_law : String := "PrefixYardLaw"
def lw_P (b : Addr) (xs : List Int32) (args : Array Value) (s : State) : Prop := args = #[.ref b] ∧ s.IntsAt b xs ∧ xs.length ≤ 2560 ∧ (Jvm.Cond.and given_1 narrow_1).before args s = true
def lw_Q (_ : Array Value) (s : State) (o : Outcome) (t : State) : Prop := o = .returned (some (.int 1)) ∧ Framed s o t [] 601024 7293034
def lw_Z (below : List Frame) (a : Array Value) (s : State) : State → Prop := fun t => ∃ o, t.status = .running ∧ Ended t below o ∧ lw_Q a s o t
/-- the law's own end, with 1 on the stack, nothing written that was there before, its room as the claim has it -/
theorem lw_ret {p : Program} {l : Launch} {e : Env} {s : State} {m : MethodId} {below : List Frame} {meth : Method} {c : Code} {b : Nat} (hx : p.tables.exec = Jvm.exec) (hb : c.code = code) (hr : meth.sig.returnType = ret) (hlocks : meth.locks = false) {pc : Nat} {H : Heap} {ls : Array Slot} (hdg : decode code pc = .ok (.ireturn, 1)) : W p l e room_1 s m #[Value.ref b] below meth c H [] 601024 7293034 (lw_Z below #[Value.ref b] s) (F0 m pc ls [.int 1]) := by
  intro T hT X
  obtain ⟨fs, hret, hrun, hended, hW, hframe⟩ := X.leave (v := some (.int 1)) (hlocks := hlocks) (fun h => by rw [hr] at h; cases h)
  have hmeth' : T.vm.method? m = some meth := X.method'
  refine ⟨T.setFrames fs, ?_, .returned (some (.int 1)), hrun, hended, rfl, ⟨_, rfl⟩, hW, hframe⟩
  jvm_step X.here [X.here.top, hx, hb, hdg, hmeth', hr, ret, narrow_b1]
  (try refine ⟨rfl, ?_⟩); (try refine ⟨rfl, ?_⟩)
  first | (intro acts; rw [hret _ acts rfl rfl rfl]) | rw [hret _ _ rfl rfl rfl]
  exact Steps.refl _
/-- what holds at the law's entry: the machine, the code, the tables' words (any of lw_tbl by 'hts w (by decide +kernel)'), the script of L ints xs at the cell b, what the Statement gives of the start (any of its parts by flat_of_before) -/
def lw_At (p : Program) (s : State) (m : MethodId) (meth : Method) (c : Code) (b L : Nat) (xs : Nat → Int32) : Prop :=
  p.tables.exec = Jvm.exec ∧ c.code = code ∧ meth.sig.returnType = ret ∧ c.maxLocals = 7 ∧ s.vm.findClass R_law = some m.cls ∧ (∀ w ∈ lw_tbl, w.before #[Value.ref b] s = true) ∧ va_X b L xs s s.heap ∧ b < s.heap.size ∧ meth.locks = false ∧ (Jvm.Cond.and given_1 narrow_1).before #[Value.ref b] s = true
/-! what holds of the yard and the model at the head of the law's loop -/
def REL (T : MT) : Prop := (T 4 6 = T 0 2 ∧ T 4 8 = T 0 4 ∧ T 4 9 = T 0 5) ∧ (∀ j : Nat, j < 60 → T 9 j = T 1 j) ∧ (∀ j : Nat, (j : Int) < T 0 2 → T 7 j = T 14 j ∧ T 5 j = T 15 j ∧ T 6 j = T 16 j ∧ T 8 j = T 17 j) ∧ ∀ a : Nat, a < 4096 → T 10 a = T 2 a
def GEO (T : MT) : Prop := (T 15 0 = 0 ∧ T 16 0 = 4096 ∧ T 14 0 = -1) ∧ (∀ j : Nat, j < 60 → T 1 j ≠ 0 → pw13 (T 16 j) ∧ T 15 j % T 16 j = 0 ∧ (j ≠ 0 → 0 ≤ T 14 j ∧ T 15 (T 14 j).toNat ≤ T 15 j ∧ T 15 j + T 16 j ≤ T 15 (T 14 j).toNat + T 16 (T 14 j).toNat ∧ T 16 j ≤ T 16 (T 14 j).toNat)) ∧ ∀ i j : Nat, i < 60 → j < 60 → i ≠ j → T 1 i ≠ 0 → T 1 j ≠ 0 → T 14 i = T 14 j → T 15 i + T 16 i ≤ T 15 j ∨ T 15 j + T 16 j ≤ T 15 i
def LEN (T : MT) : Prop := T 0 4 = lnt (T 2) 0 4096
def ROW (T : MT) : Prop := T 0 7 ≠ 0 → ∀ a : Nat, a < 4096 → T 3 a = nsI T a 60
def Inv (np : Nat) (T : MT) : Prop := VC np T ∧ VA T ∧ VP T ∧ VT T ∧ VM T ∧ REL T ∧ GEO T ∧ LEN T ∧ ROW T
section
variable {p : Program} {l : Launch} {e : Env} {R : Room} {s : State} {m : MethodId} {args : Array Value} {below : List Frame} {meth : Method} {c : Code} {Q : State → Prop} {cs : CSt} {A : Nat → Prop} {nL : Nat}
variable {cc : ByteArray} {own : String} {rt : Option FieldType} {k n np : Nat} {ad : Nat → Nat} {T : MT} {pc : Nat} {lv : List (Option Value)} {st : List Value}
/-- the script -/
def scP (b L : Nat) (xs : Nat → Int32) (A : Nat → Prop) (s : State) : Prop := va_X b L xs s s.heap ∧ b < s.heap.size ∧ ¬ A b
theorem g_sld (C : gC p l s m args meth c cs A nL cc own rt) {b L : Nat} {xs : Nat → Int32} (hX : scP b L xs A s) (hL : L ≤ 2560) {i : Int} (hi : 0 ≤ i ∧ i < L) (d : decode cc pc = .ok (.iaload, 1)) (kk : GG p l e R s m args below meth c Q cs A nL k n np ad T (pc + 1) lv (.int (zI (xs i.toNat).toInt) :: st)) : GG p l e R s m args below meth c Q cs A nL k n np ad T pc lv (.int (zI i) :: .ref b :: st) := fun H locs ls hP hD hS hl =>
  va_sld C.1 C.2.1 hX.1 hX.2.1 hX.2.2 hS (zI_in hi (by omega)) d (by
    have h := kk H locs ls hP hD hS hl
    rw [zI_self] at h
    rw [zI_nat (by omega)]
    exact h)
theorem g_slen (C : gC p l s m args meth c cs A nL cc own rt) {b L : Nat} {xs : Nat → Int32} (hX : scP b L xs A s) (d : decode cc pc = .ok (.arraylength, 1)) (kk : GG p l e R s m args below meth c Q cs A nL k n np ad T (pc + 1) lv (.int (zI (L : Int)) :: st)) : GG p l e R s m args below meth c Q cs A nL k n np ad T pc lv (.ref b :: st) := fun H locs ls hP hD hS hl =>
  va_slen C.1 C.2.1 hX.1 hX.2.1 hX.2.2 hS d (by
    rw [zI_ofNat]
    exact kk H locs ls hP hD hS hl)
theorem g_lcmp (C : gC p l s m args meth c cs A nL cc own rt) {x y : Int64} (hxy : x = y) (d : decode cc pc = .ok (.lcmp, 1)) (kk : GG p l e R s m args below meth c Q cs A nL k n np ad T (pc + 1) lv (.int (zI 0) :: st)) : GG p l e R s m args below meth c Q cs A nL k n np ad T pc lv (.long y :: .long x :: st) := fun H locs ls hP hD hS hl =>
  W.lcmp C.1 C.2.1 d (by
    subst hxy
    have e1 : lg_cmp x x = zI 0 := by rw [zI_0]; simp [lg_cmp]
    rw [e1]
    exact kk H locs ls hP hD hS hl)
theorem g_tabI (C : gC p l s m args meth c cs A nL cc own rt) {dflt lo hi off : Int} {offs : Array Int} {len tgt : Nat} {x : Int} (hx : -2147483648 ≤ x ∧ x < 2147483648) (h : lo ≤ x ∧ x ≤ hi) (ho : offs[(x - lo).toNat]? = some off) (ht : (pc : Int) + off = (tgt : Int)) (d : decode cc pc = .ok (.tableswitch dflt lo hi offs, len)) (kk : GG p l e R s m args below meth c Q cs A nL k n np ad T tgt lv st) : GG p l e R s m args below meth c Q cs A nL k n np ad T pc lv (.int (zI x) :: st) := fun H locs ls hP hD hS hl =>
  lv_tableIn C.1 C.2.1 d (by rw [zI_toInt hx]; omega) (by rw [zI_toInt hx]; omega) (by rw [zI_toInt hx]; exact ho) ht (kk H locs ls hP hD hS hl)
theorem g_tabO (C : gC p l s m args meth c cs A nL cc own rt) {dflt lo hi : Int} {offs : Array Int} {len tgt : Nat} {x : Int} (hx : -2147483648 ≤ x ∧ x < 2147483648) (h : x < lo ∨ hi < x) (ht : (pc : Int) + dflt = (tgt : Int)) (d : decode cc pc = .ok (.tableswitch dflt lo hi offs, len)) (kk : GG p l e R s m args below meth c Q cs A nL k n np ad T tgt lv st) : GG p l e R s m args below meth c Q cs A nL k n np ad T pc lv (.int (zI x) :: st) := fun H locs ls hP hD hS hl =>
  lv_tableOut C.1 C.2.1 d (by rw [zI_toInt hx]; exact h) ht (kk H locs ls hP hD hS hl)
end
theorem g_lawret {p : Program} {l : Launch} {e : Env} {s : State} {m : MethodId} {below : List Frame} {meth : Method} {c : Code} {cs : CSt} {b k n np : Nat} {ad : Nat → Nat} {T : MT} {pc : Nat} {lv : List (Option Value)} (C : gC p l s m #[Value.ref b] meth c cs (fun q => s.heap.size ≤ q) 7 cL_law RL ret) (hk : k ≤ 601024) (hn : n ≤ 7293034) (d : decode cL_law pc = .ok (.ireturn, 1)) : GG p l e room_1 s m #[Value.ref b] below meth c (lw_Z below #[Value.ref b] s) cs (fun q => s.heap.size ≤ q) 7 k n np ad T pc lv [.int (zI 1)] := fun H locs ls hP hD hS hl =>
  va_forget hS.2.2 (W.widen hk hn (lw_ret C.1 C.2.1 C.2.2.2.2.2.2.2.2.2.2 C.2.2.2.2.2.1 d))
