/-! methods with an exception table -/
section
variable {l : Launch} {cs : CSt} {cc : ByteArray} {rt : Option FieldType} {np nL mc ms : Nat} {ad : Nat → Nat} {T : MT} {PR : Option Value → St3 → Prop} {PX : String → St3 → Prop} {hh : List (Nat × Nat × Nat × Nat)}
theorem KX_of {y : MethodName} {d : Nat} {av : List Value} (hy : plainName y.cls = true) (hc : ∀ v ∈ av, v.category = 1) (hn : av.length ≤ nL)
    (body : ∀ p e s m args below meth c A, gC p l s m args meth c cs A nL cc y.cls rt → c.exceptionTable.toList = tableOf hh → meth.name = y.name → GG p l e (rmL d mc ms) s m args below meth c (kQ cs A PR PX below args s mc ms) cs A nL 0 0 np ad T 0 (av.map some ++ List.replicate (nL - av.length) none) []) :
    KC l cs y (Cond.codeWith y cc nL rt hh :: GW) d mc ms av np ad T PR PX := by
  intro hl sz
  refine vx_ofWH (cc := cc) (maxL := nL) (ret := rt) (hh := hh) hy rfl ?_
  intro p e s m args below meth c s₁ B hml hv
  obtain ⟨rfl, hsz, hP, hK, hD0, hX⟩ := hv
  subst hsz
  have hD := hD0.self (sz := s.heap.size)
  have hts := atoms_spec (ws := Cond.codeWith y cc nL rt hh :: GW) B.pre
  have hexc := vx_table (x := y) B (hts _ List.mem_cons_self)
  rw [lg_entry_eq]
  exact body p e s m _ below meth c (va_A (gW cs np ad T) s.heap.size) ⟨B.exec, B.bytes, hml, findClass_of_methodNamed B.named, fun w hw => hts w (List.mem_cons_of_mem _ hw), B.notSynchronized, hK, fun q h => Or.inr h, hX, hl, B.returns⟩ hexc (name_of_methodNamed B.named B.method).1 s.heap [] _ hP hD va_S.rf (gl_entry av hc hn)
end
section
variable {p : Program} {l : Launch} {e : Env} {R : Room} {s : State} {m : MethodId} {args : Array Value} {below : List Frame} {meth : Method} {c : Code} {Q : State → Prop} {cs : CSt} {A : Nat → Prop} {nL : Nat}
variable {cc : ByteArray} {own : String} {rt : Option FieldType} {k n np : Nat} {ad : Nat → Nat} {T : MT} {pc : Nat} {lv : List (Option Value)} {st : List Value}
/-- what a class's method threw is caught by the row of its name -/
theorem g_catch (C : gC p l s m args meth c cs A nL cc own rt) {hh : List (Nat × Nat × Nat × Nat)} (hE : c.exceptionTable.toList = tableOf hh) (pre : List ExceptionTableEntry) (x : ExceptionTableEntry) (suf : List ExceptionTableEntry) (hs : tableOf hh = pre ++ x :: suf) {E : String}
    (hpass : ∀ z ∈ pre, z.catchType ≠ 0 ∧ ∃ nm : String, Cond.classLink own z.catchType nm ∈ GW ∧ (E, nm) ∈ gNc) (hx : covers x pc = true) (h0 : x.catchType ≠ 0) (hlink : Cond.classLink own x.catchType E ∈ GW) (hcast : Cond.castable E E ∈ gBd) {u : St3} {rest : List Value}
    (kk : ∀ q : Nat, GG p l e R s m args below meth c Q cs A nL k n u.1 u.2.1 u.2.2 x.handlerPc lv [.ref q]) :
    ∀ (H : Heap) (locs : List Loc) (ls : Array Slot) (q : Addr) (ce : Cell), va_P cs.1 vwCl (gW cs u.1 u.2.1 u.2.2) H → va_D A (gW cs u.1 u.2.1 u.2.2) → va_S A s.heap H locs → gl ls nL lv → H[q]? = some ce → ce.vm = .none → s.vm.findClass E = some ce.cls → vx_W p l e R s m args below meth c H locs k n Q (F0 m pc ls rest) q := fun H locs ls q ce hP hD hS hl hce hcv hcl => by
  have hX := C.2.2.2.2.2.2.2.2.1
  exact vx_catch C.2.2.2.1 pre x suf (by rw [hE, hs]) (fun z hz => Or.inr ⟨(hpass z hz).1, by obtain ⟨nm, h1, h2⟩ := (hpass z hz).2; exact ⟨nm, C.2.2.2.2.1 _ h1, hX.2.2.2.2 _ h2⟩⟩) hx h0 (C.2.2.2.2.1 _ hlink) (va_Nw.use (gBd_ot _ hcast) (hX.2.2.2.1 _ hcast)) hce hcv hcl (kk q H locs ls hP hD hS hl)
/-- a static call of a method with an exception table, which throws nothing -/
theorem g_runX (C : gC p l s m args meth c cs A nL cc own rt) {hh : List (Nat × Nat × Nat × Nat)} {y : MethodName} {b : ByteArray} {maxL : Nat} {ret : Option FieldType} {d mc' ms' idx : Nat} {As rest : List Value} {PR' : Option Value → St3 → Prop} {PX' : String → St3 → Prop}
    (K : KC l cs y (Cond.codeWith y b maxL ret hh :: GW) d mc' ms' As np ad T PR' PX') (hG : GoodIn GW (va_wsS own idx y (Cond.codeWith y b maxL ret hh :: GW)))
    (hd : y.cls ≠ "java/lang/invoke/MethodHandle" ∧ y.cls ≠ "java/lang/invoke/VarHandle" ∧ (parseMethodDescriptor y.desc).map (fun d => d.parameters.length) = some As.length) (hR : d + 1 ≤ R.frames ∧ 8 + (maxL + 11) + 40 * d ≤ R.locals)
    (hW : (rest.map fun v => v.category).sum ≤ 8) (hf : k + mc' ≤ R.cells ∧ n + ms' ≤ R.slots) (dd : decode cc pc = .ok (.invokestatic idx, 3)) :
    ∀ (H : Heap) (locs : List Loc) (ls : Array Slot), va_P cs.1 vwCl (gW cs np ad T) H → va_D A (gW cs np ad T) → va_S A s.heap H locs → gl ls nL lv → vx_Run p l e R s m args below meth c H locs k n mc' ms' (F0 m pc ls (As.reverse ++ rest)) rest (gQ cs (va_A (gW cs np ad T) H.size) PR' As.toArray) (gXC cs (va_A (gW cs np ad T) H.size) PX') (va_A (gW cs np ad T) H.size) := fun H locs ls hP hD hS hl =>
  vx_runSX (own := own) (Ts := GW) ⟨C.1, C.2.1, C.2.2.1, C.2.2.2.1, C.2.2.2.2.1⟩ (K C.2.2.2.2.2.2.2.2.2.1 H.size) (vx_cwSW As.length C.2.2.2.2.1 hG rfl rfl rfl hd hR) ⟨gB_blind, g_pre C hP hD hS _⟩ rfl rfl hl.1 rfl (lv_room hW) dd hf
end
theorem GW_X {own : String} {idx maxL : Nat} {y : MethodName} {b : ByteArray} {ret : Option FieldType} {hh : List (Nat × Nat × Nat × Nat)} (h1 : Cond.methodLink own idx y ∈ GW) (h2 : Cond.static y ∈ GW) (h4 : Cond.initialized y.cls ∈ GW) (h5 : Cond.codeWith y b maxL ret hh ∈ GW) : GoodIn GW (va_wsS own idx y (Cond.codeWith y b maxL ret hh :: GW)) := GW_in fun w hw => by
  simp only [va_wsS, List.cons_append, List.nil_append, List.mem_cons] at hw
  rcases hw with rfl | rfl | rfl | rfl | hw
  · exact h1
  · exact h2
  · exact h4
  · exact h5
  · exact hw
def CGX (own : String) (idx : Nat) (y : MethodName) (b : ByteArray) (maxL : Nat) (ret : Option FieldType) (hh : List (Nat × Nat × Nat × Nat)) (na : Nat) : Prop := GoodIn GW (va_wsS own idx y (Cond.codeWith y b maxL ret hh :: GW)) ∧ (y.cls ≠ "java/lang/invoke/MethodHandle" ∧ y.cls ≠ "java/lang/invoke/VarHandle" ∧ (parseMethodDescriptor y.desc).map (fun d => d.parameters.length) = some na)
section
variable {p : Program} {l : Launch} {e : Env} {R : Room} {s : State} {m : MethodId} {args : Array Value} {below : List Frame} {meth : Method} {c : Code} {Q : State → Prop} {cs : CSt} {A : Nat → Prop} {nL : Nat}
variable {cc : ByteArray} {own : String} {rt : Option FieldType} {k n np : Nat} {ad : Nat → Nat} {T : MT} {pc : Nat} {lv : List (Option Value)} {st : List Value}
variable {PR : Option Value → St3 → Prop} {PX : String → St3 → Prop} {mc ms : Nat}
/-- a call of one of the law's own methods that catch -/
theorem g_cX (C : gC p l s m args meth c cs A nL cc own rt) {hh : List (Nat × Nat × Nat × Nat)} {y : MethodName} {b : ByteArray} {maxL : Nat} {ret : Option FieldType} {d mc' ms' idx : Nat} {As rest : List Value} {PR' : Option Value → St3 → Prop} (hG : CGX own idx y b maxL ret hh As.length)
    (K : KC l cs y (Cond.codeWith y b maxL ret hh :: GW) d mc' ms' As np ad T PR' (fun _ _ => False)) (hR : d + 1 ≤ R.frames ∧ 8 + (maxL + 11) + 40 * d ≤ R.locals) (hW : (rest.map fun v => v.category).sum ≤ 8) (hf : k + mc' ≤ R.cells ∧ n + ms' ≤ R.slots) (dd : decode cc pc = .ok (.invokestatic idx, 3))
    (kk : ∀ (v : Option Value) (u : St3), PR' v u → GG p l e R s m args below meth c Q cs A nL (k + mc') (n + ms') u.1 u.2.1 u.2.2 (pc + 3) lv (v.toList ++ rest)) : GG p l e R s m args below meth c Q cs A nL k n np ad T pc lv (As.reverse ++ rest) := g_call0 C (g_runX C K hG.1 hG.2 hR hW hf dd) (fun _ _ h => h.elim) kk
/-- a call of one of the law's own methods, whose end is told by a relation -/
theorem g_cR (C : gC p l s m args meth c cs A nL cc own rt) {y : MethodName} {b : ByteArray} {maxL : Nat} {ret : Option FieldType} {d mc' ms' idx : Nat} {As rest : List Value} {PR' : Option Value → St3 → Prop} (hG : CGS own idx y b maxL ret As.length)
    (K : KC l cs y (Cond.code y b maxL ret :: GW) d mc' ms' As np ad T PR' (fun _ _ => False)) (hR : d + 1 ≤ R.frames ∧ 8 + (maxL + 11) + 40 * d ≤ R.locals) (hW : (rest.map fun v => v.category).sum ≤ 8) (hf : k + mc' ≤ R.cells ∧ n + ms' ≤ R.slots) (dd : decode cc pc = .ok (.invokestatic idx, 3))
    (kk : ∀ (v : Option Value) (u : St3), PR' v u → GG p l e R s m args below meth c Q cs A nL (k + mc') (n + ms') u.1 u.2.1 u.2.2 (pc + 3) lv (v.toList ++ rest)) : GG p l e R s m args below meth c Q cs A nL k n np ad T pc lv (As.reverse ++ rest) := g_call0 C (g_runS C K hG.1 hG.2 hR hW hf dd) (fun _ _ h => h.elim) kk
theorem g_ishr (C : gC p l s m args meth c cs A nL cc own rt) {x y : Int32} (d : decode cc pc = .ok (.ishr, 1)) (kk : GG p l e R s m args below meth c Q cs A nL k n np ad T (pc + 1) lv (.int (x >>> (y &&& 31)) :: st)) : GG p l e R s m args below meth c Q cs A nL k n np ad T pc lv (.int y :: .int x :: st) := fun H locs ls hP hD hS hl => lv_ishr C.1 C.2.1 d (kk H locs ls hP hD hS hl)
theorem g_ishlz (C : gC p l s m args meth c cs A nL cc own rt) {x y : Int32} {z : Int} (d : decode cc pc = .ok (.ishl, 1)) (hz : x <<< (y &&& 31) = zI z) (kk : GG p l e R s m args below meth c Q cs A nL k n np ad T (pc + 1) lv (.int (zI z) :: st)) : GG p l e R s m args below meth c Q cs A nL k n np ad T pc lv (.int y :: .int x :: st) := fun H locs ls hP hD hS hl => lv_ishl C.1 C.2.1 d (by rw [hz]; exact kk H locs ls hP hD hS hl)
theorem g_tabI (C : gC p l s m args meth c cs A nL cc own rt) {dflt lo hi off : Int} {offs : Array Int} {len tgt : Nat} {x : Int} (hx : -2147483648 ≤ x ∧ x < 2147483648) (h : lo ≤ x ∧ x ≤ hi) (ho : offs[(x - lo).toNat]? = some off) (ht : (pc : Int) + off = (tgt : Int)) (d : decode cc pc = .ok (.tableswitch dflt lo hi offs, len)) (kk : GG p l e R s m args below meth c Q cs A nL k n np ad T tgt lv st) : GG p l e R s m args below meth c Q cs A nL k n np ad T pc lv (.int (zI x) :: st) := fun H locs ls hP hD hS hl =>
  lv_tableIn C.1 C.2.1 d (by rw [zI_toInt hx]; omega) (by rw [zI_toInt hx]; omega) (by rw [zI_toInt hx]; exact ho) ht (kk H locs ls hP hD hS hl)
theorem g_tabO (C : gC p l s m args meth c cs A nL cc own rt) {dflt lo hi : Int} {offs : Array Int} {len tgt : Nat} {x : Int} (hx : -2147483648 ≤ x ∧ x < 2147483648) (h : x < lo ∨ hi < x) (ht : (pc : Int) + dflt = (tgt : Int)) (d : decode cc pc = .ok (.tableswitch dflt lo hi offs, len)) (kk : GG p l e R s m args below meth c Q cs A nL k n np ad T tgt lv st) : GG p l e R s m args below meth c Q cs A nL k n np ad T pc lv (.int (zI x) :: st) := fun H locs ls hP hD hS hl =>
  lv_tableOut C.1 C.2.1 d (by rw [zI_toInt hx]; exact h) ht (kk H locs ls hP hD hS hl)
end
theorem cx_L_52 : CGX RL 52 yL_carve cL_carve 6 (some .int) [(0, 9, 10, 14), (0, 9, 15, 17), (0, 9, 20, 19)] 5 := ⟨GW_X ml_L_52 mt_L_carve ini_PrefixYardLaw mc_L_carve, by decide +kernel⟩
theorem cx_L_55 : CGX RL 55 yL_carveAt cL_carveAt 6 (some .int) [(0, 9, 10, 14), (0, 9, 15, 17), (0, 9, 20, 19)] 5 := ⟨GW_X ml_L_55 mt_L_carveAt ini_PrefixYardLaw mc_L_carveAt, by decide +kernel⟩
theorem cx_L_57 : CGX RL 57 yL_remove cL_remove 3 (some .int) [(0, 5, 6, 14), (0, 5, 10, 19)] 2 := ⟨GW_X ml_L_57 mt_L_remove ini_PrefixYardLaw mc_L_remove, by decide +kernel⟩
theorem cx_L_60 : CGX RL 60 yL_grow cL_grow 3 (some .int) [(0, 5, 6, 14), (0, 5, 10, 19)] 2 := ⟨GW_X ml_L_60 mt_L_grow ini_PrefixYardLaw mc_L_grow, by decide +kernel⟩
theorem cx_L_62 : CGX RL 62 yL_halve cL_halve 3 (some .int) [(0, 5, 6, 14), (0, 5, 10, 19)] 2 := ⟨GW_X ml_L_62 mt_L_halve ini_PrefixYardLaw mc_L_halve, by decide +kernel⟩
theorem cx_L_64 : CGX RL 64 yL_setOwner cL_setOwner 4 (some .int) [(0, 6, 7, 14), (0, 6, 11, 17)] 3 := ⟨GW_X ml_L_64 mt_L_setOwner ini_PrefixYardLaw mc_L_setOwner, by decide +kernel⟩
theorem cx_L_67 : CGX RL 67 yL_lend cL_lend 4 (some .int) [(0, 6, 7, 14), (0, 6, 11, 17), (0, 6, 15, 19)] 3 := ⟨GW_X ml_L_67 mt_L_lend ini_PrefixYardLaw mc_L_lend, by decide +kernel⟩
theorem cx_L_69 : CGX RL 69 yL_takeBack cL_takeBack 3 (some .int) [(0, 5, 6, 14), (0, 5, 10, 19)] 2 := ⟨GW_X ml_L_69 mt_L_takeBack ini_PrefixYardLaw mc_L_takeBack, by decide +kernel⟩
theorem cx_L_71 : CGX RL 71 yL_pass cL_pass 3 (some .int) [(0, 5, 6, 17), (0, 5, 10, 19)] 2 := ⟨GW_X ml_L_71 mt_L_pass ini_PrefixYardLaw mc_L_pass, by decide +kernel⟩
theorem KC.mono {l : Launch} {cs : CSt} {y : MethodName} {ws : List Cond} {d mc ms : Nat} {av : List Value} {np : Nat} {ad : Nat → Nat} {T : MT} {PR PR' : Option Value → St3 → Prop} {PX PX' : String → St3 → Prop} (h : KC l cs y ws d mc ms av np ad T PR PX) (h1 : ∀ v u, PR v u → PR' v u) (h2 : ∀ E u, PX E u → PX' E u) : KC l cs y ws d mc ms av np ad T PR' PX' := fun hl sz p e a1 a2 a3 s m args below b1 b2 b3 b4 => by
  obtain ⟨n, o, c1, c2, c3, c4⟩ := h hl sz p e a1 a2 a3 s m args below b1 b2 b3 b4
  refine ⟨n, o, c1, c2, c3, ?_⟩
  rcases c4 with ⟨⟨⟨v, u, q1, q2, q3⟩, q4⟩, q5⟩ | ⟨q, hq, E, ce, L, ⟨u, q1, q2⟩, q3⟩
  · exact Or.inl ⟨⟨⟨v, u, q1, h1 v u q2, q3⟩, q4⟩, q5⟩
  · exact Or.inr ⟨q, hq, E, ce, L, ⟨u, h2 E u q1, q2⟩, q3⟩
