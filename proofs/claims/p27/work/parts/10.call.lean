theorem gX_at {cs : CSt} {A A1 : Nat → Prop} {s U : State} {H : Heap} {locs : List Loc} (h : gX cs A s s.heap) (hS : va_S A s.heap H locs) (h1 : ∀ q, A1 q → A q) (hU : U.heap = H) (hW : s.WarmedH U.vm) : gX cs A1 U U.heap := by
  refine ⟨?_, ?_, fun q hq => vk_R.warm hW (h.2.2.1 q hq), gBd_warm hW h.2.2.2.1, fun q hq => va_Nc.moved hW.alike (h.2.2.2.2 q hq)⟩
  · rw [hU]
    exact vx_Zq.moved hW.alike ((h.1.kept hS.2.1).narrow h1)
  · rw [hU]
    exact vx_Zq.moved hW.alike ((h.2.1.kept hS.2.1).narrow h1)
theorem gB_blind {cs : CSt} {np : Nat} {ad : Nat → Nat} {T : MT} {sz : Nat} {av : List Value} : FrameBlind (va_Pc av (gB cs np ad T sz)) := fun a U g mk h => by
  obtain ⟨h0, h1, h2, h3, h4, h5, h6, h7, h8, h9⟩ := h
  exact ⟨h0, h1, h2, va_K.moved (u := U) (U := U.calling g mk a) (Vm.Alike.refl U.vm) h3, h4, vx_Zq.moved (u := U) (U := U.calling g mk a) (Vm.Alike.refl U.vm) h5, vx_Zq.moved (u := U) (U := U.calling g mk a) (Vm.Alike.refl U.vm) h6, fun q hq => vk_R.same rfl (h7 q hq), fun w hw => va_Nw.same (u := U) (U := U.calling g mk a) (gBd_ot w hw) rfl (h8 w hw), fun q hq => va_Nc.moved (u := U) (U := U.calling g mk a) (Vm.Alike.refl U.vm) (h9 q hq)⟩
theorem GW_good {x : Cond} {w : Cond} (h : w ∈ GW) : w ∈ x :: GW ∧ ((w.onTables && w.keeps) = true ∨ ∃ ty, w = .arrayClass ty) := ⟨List.mem_cons_of_mem _ h, good_of_word (List.mem_filter.mp h).2⟩
theorem GW_in {ws : List Cond} (h : ∀ w ∈ ws, w ∈ GW) : GoodIn GW ws := fun w hw => ⟨h w hw, good_of_word (List.mem_filter.mp (h w hw)).2⟩
theorem GW_V {own C : String} {idx maxL : Nat} {y : MethodName} {b : ByteArray} {ret : Option FieldType} (h1 : Cond.methodLink own idx y ∈ GW) (h2 : Cond.instanceMethod y ∈ GW) (h3 : Cond.selects C y y ∈ GW) (h4 : Cond.initialized C ∈ GW) (h5 : Cond.code y b maxL ret ∈ GW) : GoodIn GW (wsV own idx C y (Cond.code y b maxL ret :: GW)) := GW_in fun w hw => by
  simp only [wsV, List.cons_append, List.nil_append, List.mem_cons] at hw
  rcases hw with rfl | rfl | rfl | rfl | rfl | hw
  · exact h1
  · exact h2
  · exact h3
  · exact h4
  · exact h5
  · exact hw
theorem GW_S {own : String} {idx maxL : Nat} {y : MethodName} {b : ByteArray} {ret : Option FieldType} (h1 : Cond.methodLink own idx y ∈ GW) (h2 : Cond.static y ∈ GW) (h4 : Cond.initialized y.cls ∈ GW) (h5 : Cond.code y b maxL ret ∈ GW) : GoodIn GW (va_wsS own idx y (Cond.code y b maxL ret :: GW)) := GW_in fun w hw => by
  simp only [va_wsS, List.cons_append, List.nil_append, List.mem_cons] at hw
  rcases hw with rfl | rfl | rfl | rfl | hw
  · exact h1
  · exact h2
  · exact h4
  · exact h5
  · exact hw
section
variable {p : Program} {l : Launch} {e : Env} {R : Room} {s : State} {m : MethodId} {args : Array Value} {below : List Frame} {meth : Method} {c : Code} {Q : State → Prop} {cs : CSt} {A : Nat → Prop} {nL : Nat}
variable {cc : ByteArray} {own : String} {rt : Option FieldType} {k n np : Nat} {ad : Nat → Nat} {T : MT} {pc : Nat} {lv : List (Option Value)} {st : List Value}
variable {PR : Option Value → St3 → Prop} {PX : String → St3 → Prop} {mc ms : Nat}
/-- what a body owes at its end -/
def kQ (cs : CSt) (A : Nat → Prop) (PR : Option Value → St3 → Prop) (PX : String → St3 → Prop) (below : List Frame) (args : Array Value) (s : State) (mc ms : Nat) : State → Prop := vx_MQ below (gQ cs A PR) (gXC cs A PX) args s mc ms A
theorem KC_of {y : MethodName} {d : Nat} {av : List Value} (hy : plainName y.cls = true) (hc : ∀ v ∈ av, v.category = 1) (hn : av.length ≤ nL)
    (body : ∀ p e s m args below meth c A, gC p l s m args meth c cs A nL cc y.cls rt → (∀ x ∈ c.exceptionTable.toList, False) → meth.name = y.name → GG p l e (rmL d mc ms) s m args below meth c (kQ cs A PR PX below args s mc ms) cs A nL 0 0 np ad T 0 (av.map some ++ List.replicate (nL - av.length) none) []) :
    KC l cs y (Cond.code y cc nL rt :: GW) d mc ms av np ad T PR PX := by
  intro hl sz
  refine vx_ofW (cc := cc) (maxL := nL) (ret := rt) hy rfl ?_
  intro p e s m args below meth c s₁ B hml hexc hv
  obtain ⟨rfl, hsz, hP, hK, hD0, hX⟩ := hv
  subst hsz
  have hD := hD0.self (sz := s.heap.size)
  have hts := atoms_spec (ws := Cond.code y cc nL rt :: GW) B.pre
  rw [lg_entry_eq]
  exact body p e s m _ below meth c (va_A (gW cs np ad T) s.heap.size) ⟨B.exec, B.bytes, hml, findClass_of_methodNamed B.named, fun w hw => hts w (List.mem_cons_of_mem _ hw), B.notSynchronized, hK, fun q h => Or.inr h, hX, hl, B.returns⟩ hexc (name_of_methodNamed B.named B.method).1 s.heap [] _ hP hD va_S.rf (gl_entry av hc hn)
theorem g_end {v : Option Value} (hpr : PR v (np, ad, T)) {H : Heap} {locs : List Loc} (hP : va_P cs.1 vwCl (gW cs np ad T) H) (hD : va_D A (gW cs np ad T)) (hS : va_S A s.heap H locs) : ∀ t : State, t.heap = H → s.WarmedH t.vm → gQ cs A PR args s (.returned v) t := fun t ht hW =>
  ⟨⟨v, (np, ad, T), rfl, hpr, by rw [ht]; exact hP, hD⟩, hS.F ht⟩
theorem g_iret (C : gC p l s m args meth c cs A nL cc own (some .int)) {v : Int32} (hk : k ≤ mc) (hn : n ≤ ms) (d : decode cc pc = .ok (.ireturn, 1)) (kk : PR (some (.int v)) (np, ad, T)) : GG p l e R s m args below meth c (kQ cs A PR PX below args s mc ms) cs A nL k n np ad T pc lv [.int v] := fun H locs ls hP hD hS hl =>
  vx_ret (W.widen hk hn (W.iret C.1 C.2.1 C.2.2.2.2.2.2.2.2.2.2 (g_end kk hP hD hS) hS.2.2 d C.2.2.2.2.2.1))
theorem g_zret (C : gC p l s m args meth c cs A nL cc own (some .boolean)) {v : Int} (hv : v = 0 ∨ v = 1) (hk : k ≤ mc) (hn : n ≤ ms) (d : decode cc pc = .ok (.ireturn, 1)) (kk : PR (some (.int (zI v))) (np, ad, T)) : GG p l e R s m args below meth c (kQ cs A PR PX below args s mc ms) cs A nL k n np ad T pc lv [.int (zI v)] := fun H locs ls hP hD hS hl =>
  vx_ret (W.widen hk hn (W.zret C.1 C.2.1 C.2.2.2.2.2.2.2.2.2.2 (by rcases hv with rfl | rfl <;> decide) (g_end kk hP hD hS) hS.2.2 d C.2.2.2.2.2.1))
theorem g_vret (C : gC p l s m args meth c cs A nL cc own none) (hk : k ≤ mc) (hn : n ≤ ms) (d : decode cc pc = .ok (.return_, 1)) (kk : PR none (np, ad, T)) : GG p l e R s m args below meth c (kQ cs A PR PX below args s mc ms) cs A nL k n np ad T pc lv [] := fun H locs ls hP hD hS hl =>
  vx_ret (W.widen hk hn (W.vret C.1 C.2.1 C.2.2.2.2.2.2.2.2.2.2 (g_end kk hP hD hS) hS.2.2 d C.2.2.2.2.2.1))
theorem g_aret (C : gC p l s m args meth c cs A nL cc own (some (.object "PrefixYard$Span"))) {v : Value} (hv : v = .null ∨ ∃ a, v = .ref a) (hk : k ≤ mc) (hn : n ≤ ms) (d : decode cc pc = .ok (.areturn, 1)) (kk : PR (some v) (np, ad, T)) : GG p l e R s m args below meth c (kQ cs A PR PX below args s mc ms) cs A nL k n np ad T pc lv [v] := fun H locs ls hP hD hS hl =>
  vx_ret (W.widen hk hn (W.aret C.1 C.2.1 C.2.2.2.2.2.2.2.2.2.2 (Or.inl ⟨_, rfl⟩) hv (g_end kk hP hD hS) hS.2.2 d C.2.2.2.2.2.1))
theorem grf_or {ad : Nat → Nat} {x : Int} : grf ad x = .null ∨ ∃ a, grf ad x = .ref a := va_rf_or _
/-- behind a call -/
theorem g_call0 (C : gC p l s m args meth c cs A nL cc own rt) {PR' : Option Value → St3 → Prop} {PX' : String → St3 → Prop} {mc' ms' : Nat} {a : Array Value} {rest st0 : List Value}
    (hr : ∀ (H : Heap) (locs : List Loc) (ls : Array Slot), va_P cs.1 vwCl (gW cs np ad T) H → va_D A (gW cs np ad T) → va_S A s.heap H locs → gl ls nL lv → vx_Run p l e R s m args below meth c H locs k n mc' ms' (F0 m pc ls st0) rest (gQ cs (va_A (gW cs np ad T) H.size) PR' a) (gXC cs (va_A (gW cs np ad T) H.size) PX') (va_A (gW cs np ad T) H.size))
    (kx : ∀ (E : String) (u : St3), PX' E u → ∀ (H : Heap) (locs : List Loc) (ls : Array Slot) (q : Addr) (ce : Cell), va_P cs.1 vwCl (gW cs u.1 u.2.1 u.2.2) H → va_D A (gW cs u.1 u.2.1 u.2.2) → va_S A s.heap H locs → gl ls nL lv → H[q]? = some ce → ce.vm = .none → s.vm.findClass E = some ce.cls → vx_W p l e R s m args below meth c H locs (k + mc') (n + ms') Q (F0 m pc ls rest) q)
    (kk : ∀ (v : Option Value) (u : St3), PR' v u → GG p l e R s m args below meth c Q cs A nL (k + mc') (n + ms') u.1 u.2.1 u.2.2 (pc + 3) lv (v.toList ++ rest)) : GG p l e R s m args below meth c Q cs A nL k n np ad T pc lv st0 := by
  intro H locs ls hP hD hS hl T0 hT X
  have hA1 : ∀ q, va_A (gW cs np ad T) H.size q → A q := fun q h => by
    rcases h with ⟨j, e9, h⟩ | h
    · exact hD.2 j _ h
    · exact C.2.2.2.2.2.2.2.1 q (Nat.le_trans hS.1 h)
  rcases hr H locs ls hP hD hS hl T0 hT X with ⟨v, st₀, t, T', L, h0, X', hL, e1, e2, ⟨⟨v', u, hv, hp, hb⟩, hF⟩, st⟩ | ⟨q, st₀, t, T', L, E, ce, h0, X', hL, e1, e2, ⟨u, hp, hb, hF⟩, hce, hcv, hcl, st⟩
  · cases hv
    obtain ⟨k1, k2, k3⟩ := vx_keep h0 e1 hS (fun q _ h => hA1 q h) hA1 hL hF
    obtain ⟨t2, a1, b1⟩ := kk v u hp T'.heap (locs ++ L) ls (by rw [e1]; exact hb.1) (hb.2.weaken (fun _ q _ h => hA1 q.1 h)) k3 hl T' rfl X'
    exact ⟨t2, st t2 a1, b1⟩
  · obtain ⟨k1, k2, k3⟩ := vx_keep h0 e1 hS (fun q _ h => hA1 q h) hA1 hL hF
    obtain ⟨t2, a1, b1⟩ := kx E u hp T'.heap (locs ++ L) ls q ce (by rw [e1]; exact hb.1) (hb.2.weaken (fun _ q _ h => hA1 q.1 h)) k3 hl (by rw [e1]; exact hce) hcv hcl T' rfl X'
    exact ⟨t2, st.trans a1, b1⟩
/-- an exception of a callee leaves this method too -/
theorem g_pass (C : gC p l s m args meth c cs A nL cc own rt) (hE : ∀ x ∈ c.exceptionTable.toList, False) {PX' : String → St3 → Prop} (hx : ∀ E u, PX' E u → PX E u) {rest : List Value} (hk : k ≤ mc) (hn : n ≤ ms) :
    ∀ (E : String) (u : St3), PX' E u → ∀ (H : Heap) (locs : List Loc) (ls : Array Slot) (q : Addr) (ce : Cell), va_P cs.1 vwCl (gW cs u.1 u.2.1 u.2.2) H → va_D A (gW cs u.1 u.2.1 u.2.2) → va_S A s.heap H locs → gl ls nL lv → H[q]? = some ce → ce.vm = .none → s.vm.findClass E = some ce.cls → vx_W p l e R s m args below meth c H locs k n (kQ cs A PR PX below args s mc ms) (F0 m pc ls rest) q := fun E u hp H locs ls q ce hP hD hS hl hce hcv hcl =>
  vx_out (fun x hx9 => (hE x hx9).elim) C.2.2.2.2.2.1 hce hcv hcl (fun t ht _ => ⟨u, hx E u hp, ⟨by rw [ht]; exact hP, hD⟩, hS.F ht⟩) hS.2.2 hk hn
/-- what a call starts with -/
theorem g_pre (C : gC p l s m args meth c cs A nL cc own rt) {H : Heap} {locs : List Loc} (hP : va_P cs.1 vwCl (gW cs np ad T) H) (hD : va_D A (gW cs np ad T)) (hS : va_S A s.heap H locs) (av : List Value) : ∀ U : State, U.heap = H → s.WarmedH U.vm → va_Pc av (gB cs np ad T H.size) av.toArray U := fun U hU hW => by
  have hA1 : ∀ q, va_A (gW cs np ad T) H.size q → A q := fun q h => by
    rcases h with ⟨j, e9, h⟩ | h
    · exact hD.2 j _ h
    · exact C.2.2.2.2.2.2.2.1 q (Nat.le_trans hS.1 h)
  exact ⟨rfl, by rw [hU], by rw [hU]; exact hP, va_K.moved hW.alike C.2.2.2.2.2.2.1, hD.weaken (fun _ _ _ _ => trivial), gX_at C.2.2.2.2.2.2.2.2.1 hS hA1 hU hW⟩
theorem g_runV (C : gC p l s m args meth c cs A nL cc own rt) {y : MethodName} {b : ByteArray} {maxL : Nat} {ret : Option FieldType} {d mc' ms' idx ci q N : Nat} {Cn : String} {TT : u_T} {fs As rest : List Value} {PR' : Option Value → St3 → Prop} {PX' : String → St3 → Prop}
    (K : KC l cs y (Cond.code y b maxL ret :: GW) d mc' ms' (.ref (ad q) :: As) np ad T PR' PX') (hG : GoodIn GW (wsV own idx Cn y (Cond.code y b maxL ret :: GW)))
    (hd : y.cls = Cn ∧ y.cls ≠ "java/lang/invoke/MethodHandle" ∧ y.cls ≠ "java/lang/invoke/VarHandle" ∧ (parseMethodDescriptor y.desc).map (fun d => d.parameters.length) = some As.length) (hR : d + 1 ≤ R.frames ∧ 8 + (maxL + 11) + 40 * d ≤ R.locals) (hq : 13 ≤ np ∧ (q < 4 ∨ 13 ≤ q) ∧ q < np) (he : cel cs ad T q = .inr (ci, fs)) (hc : vwCl[ci]? = some (Cn, TT, N))
    (hW : (rest.map fun v => v.category).sum ≤ 8) (hf : k + mc' ≤ R.cells ∧ n + ms' ≤ R.slots) (dd : decode cc pc = .ok (.invokevirtual idx, 3)) :
    ∀ (H : Heap) (locs : List Loc) (ls : Array Slot), va_P cs.1 vwCl (gW cs np ad T) H → va_D A (gW cs np ad T) → va_S A s.heap H locs → gl ls nL lv → vx_Run p l e R s m args below meth c H locs k n mc' ms' (F0 m pc ls (As.reverse ++ .ref (ad q) :: rest)) rest (gQ cs (va_A (gW cs np ad T) H.size) PR' (Value.ref (ad q) :: As).toArray) (gXC cs (va_A (gW cs np ad T) H.size) PX') (va_A (gW cs np ad T) H.size) := fun H locs ls hP hD hS hl =>
  vx_runV (own := own) (C := Cn) (Ts := GW) ⟨C.1, C.2.1, C.2.2.1, C.2.2.2.1, C.2.2.2.2.1⟩ (K C.2.2.2.2.2.2.2.2.2.1 H.size) (cwV As.length C.2.2.2.2.1 hG rfl rfl rfl hd hR) ⟨gB_blind, va_recv C.2.2.2.2.2.2.1 hP hc (by rw [gW_get hq, he]), g_pre C hP hD hS _⟩ rfl rfl hl.1 rfl (lv_room hW) dd hf
theorem g_runS (C : gC p l s m args meth c cs A nL cc own rt) {y : MethodName} {b : ByteArray} {maxL : Nat} {ret : Option FieldType} {d mc' ms' idx : Nat} {As rest : List Value} {PR' : Option Value → St3 → Prop} {PX' : String → St3 → Prop}
    (K : KC l cs y (Cond.code y b maxL ret :: GW) d mc' ms' As np ad T PR' PX') (hG : GoodIn GW (va_wsS own idx y (Cond.code y b maxL ret :: GW)))
    (hd : y.cls ≠ "java/lang/invoke/MethodHandle" ∧ y.cls ≠ "java/lang/invoke/VarHandle" ∧ (parseMethodDescriptor y.desc).map (fun d => d.parameters.length) = some As.length) (hR : d + 1 ≤ R.frames ∧ 8 + (maxL + 11) + 40 * d ≤ R.locals)
    (hW : (rest.map fun v => v.category).sum ≤ 8) (hf : k + mc' ≤ R.cells ∧ n + ms' ≤ R.slots) (dd : decode cc pc = .ok (.invokestatic idx, 3)) :
    ∀ (H : Heap) (locs : List Loc) (ls : Array Slot), va_P cs.1 vwCl (gW cs np ad T) H → va_D A (gW cs np ad T) → va_S A s.heap H locs → gl ls nL lv → vx_Run p l e R s m args below meth c H locs k n mc' ms' (F0 m pc ls (As.reverse ++ rest)) rest (gQ cs (va_A (gW cs np ad T) H.size) PR' As.toArray) (gXC cs (va_A (gW cs np ad T) H.size) PX') (va_A (gW cs np ad T) H.size) := fun H locs ls hP hD hS hl =>
  vx_runS (own := own) (Ts := GW) ⟨C.1, C.2.1, C.2.2.1, C.2.2.2.1, C.2.2.2.2.1⟩ (K C.2.2.2.2.2.2.2.2.2.1 H.size) (va_cwS As.length C.2.2.2.2.1 hG rfl rfl rfl hd hR) ⟨gB_blind, g_pre C hP hD hS _⟩ rfl rfl hl.1 rfl (lv_room hW) dd hf
end
