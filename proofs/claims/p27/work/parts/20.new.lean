/-! ===== BEGIN a constructor that throws (launches without stack traces) ===== -/
section VXIA
variable {p : Program} {l : Launch} {e : Env} {R : Room} {s : State} {m : MethodId} {args : Array Value} {below : List Frame} {meth : Method} {c : Code} {T : State} {locs : List Loc} {cells slots : Nat}
theorem vx_callI (X : Stand p l e R s m args below meth c T locs cells slots) (hexec : p.tables.exec = Jvm.exec) {own : String} {index : Nat} {y : MethodName} {bytes : ByteArray} {maxL : Nat}
    (hown : s.vm.findClass own = some m.cls) (hy1 : y.name = "<init>") (hlink : (Cond.methodLink own index y).before args s = true) (hinst : (Cond.instanceMethod y).before args s = true)
    (hcode : (Cond.code y bytes maxL none).before args s = true) (hy : y.cls ≠ "java/lang/invoke/MethodHandle" ∧ y.cls ≠ "java/lang/invoke/VarHandle")
    {W9 : Nat} {Pre : Pt → Array Value → Prop} {Post : Pt → Array Value → Option Value → Pt → Prop} {PostX : Pt → Array Value → Addr → Pt → Prop} (hK : vx_Back l R p e below s args y 3 W9 Pre Post PostX)
    {g : JFrame} (hg : g.method = m) (hsize : g.locals.size = c.maxLocals) {a : Addr} {argsL rest : List Value} (hlen : ∀ sig, parseMethodDescriptor y.desc = some sig → argsL.length = sig.parameters.length)
    (hstack : g.stack = argsL.reverse ++ .ref a :: rest) (hW : 2 * g.monitorRoom + (rest.map fun v => v.category).sum ≤ W9) (hdg : decode c.code g.pc = .ok (.invokespecial index, 3))
    (hpre : ∀ vm₁, s.WarmedH vm₁ → Pre ⟨T.setVm vm₁, locs, cells, slots⟩ (Value.ref a :: argsL).toArray) :
    (∃ (v : Option Value) (vm₁ : Vm) (B : Pt), s.WarmedH vm₁ ∧ Stand p l e R s m args below meth c B.U B.locs B.cells B.slots ∧ Post ⟨T.setVm vm₁, locs, cells, slots⟩ (Value.ref a :: argsL).toArray v B ∧
      ∀ target, Steps p.tables e below (B.U.setTop { g with pc := g.pc + 3, stack := v.toList ++ rest }) target → Steps p.tables e below (T.setTop g) target) ∨
    (∃ (q : Addr) (vm₁ : Vm) (B : Pt), s.WarmedH vm₁ ∧ Stand p l e R s m args below meth c B.U B.locs B.cells B.slots ∧ PostX ⟨T.setVm vm₁, locs, cells, slots⟩ (Value.ref a :: argsL).toArray q B ∧
      Steps p.tables e below (T.setTop g) ((B.U.setTop { g with stack := rest }).pushFrame (.throwing q))) := by
  subst hg
  have hpl : e.platform.magicAccessors = ({} : Platform).magicAccessors := by rw [X.admits.platform]
  obtain ⟨mk, methM, cM, kP, vm₁, hnamed, hmethM, hcodeM, -, hlocalsM, -, hkP, -, hW₁, hstep₁⟩ := Steps.initColdArgs (e := e) X.here hexec X.warmed hpl hown hy1 hy hlink hinst hcode (f := g) rfl hlen hstack hdg
  have X₁ := X.noted hW₁
  rcases hK g.method meth c ⟨T.setVm vm₁, locs, cells, slots⟩ { g with stack := rest } (.invokespecial index) mk (Value.ref a :: argsL).toArray X₁ rfl hsize hdg hW (X₁.named hnamed) (hpre vm₁ X₁.warmed) with ⟨v, B, X', hpost, hsteps⟩ | ⟨q, B, X', hpost, hsteps⟩
  · exact Or.inl ⟨v, vm₁, B, X₁.warmed, X', hpost, fun target h => hstep₁ _ fun acts => by rw [doInvoke_state]; exact hsteps.trans h⟩
  · exact Or.inr ⟨q, vm₁, B, X₁.warmed, X', hpost, hstep₁ _ fun acts => by rw [doInvoke_state]; exact hsteps⟩
end VXIA
section VXIB
variable {p : Program} {l : Launch} {e : Env} {R : Room} {s : State} {m : MethodId} {args : Array Value} {below : List Frame} {meth : Method} {c : Code} {H : Heap} {locs : List Loc} {cells slots : Nat}
variable {y : MethodName} {bytes cc : ByteArray} {maxL nL mc ms n index : Nat} {ret : Option FieldType} {ws : List Cond} {rm : Room} {Pc : Array Value → State → Prop} {Qc : Array Value → State → Outcome → State → Prop} {XC : String → State → State → Prop} {free : Addr → Prop} {Ts : List Cond} {own C : String} {b : Addr} {As rest : List Value} {g : JFrame}
theorem vx_runI (S : CallFix p m c cc nL s args Ts own) (hM : vx_Met l y ws rm Pc Qc XC mc ms free) (cw : CallB R s args own index y bytes maxL none ws rm mc ms n ∧ y.name = "<init>" ∧ (Cond.instanceMethod y).before args s = true) (hp : PreS s H Pc (.ref b :: As))
    (hg : g.method = m) (hn : As.length = n) (hsize : g.locals.size = nL) (hstack : g.stack = As.reverse ++ .ref b :: rest) (hW : 2 * g.monitorRoom + (rest.map fun v => v.category).sum ≤ 8) (hdg : decode cc g.pc = .ok (.invokespecial index, 3)) (hf : cells + mc ≤ R.cells ∧ slots + ms ≤ R.slots) :
    vx_Run p l e R s m args below meth c H locs cells slots mc ms g rest (Qc (Value.ref b :: As).toArray) XC free := by
  have hK : vx_Back l R p e below s args y 3 8 (PreOf R mc ms Pc) (PostOf Qc mc ms free) (vx_Post XC mc ms free) := vx_callBack cw.1 hM hp.1
  obtain ⟨⟨-, -, -, -, -, -, hcode, -, hy, hlen, hl⟩, hy1, hin⟩ := cw
  obtain ⟨hx, hb, hml, ho, -⟩ := S
  have hPc := hp.2
  intro T hT X
  rcases vx_callI X hx (bytes := bytes) (maxL := maxL) ho hy1 hl hin hcode hy hK hg (hsize.trans hml.symm) (a := b) (argsL := As) (rest := rest) (fun sig h => hn.trans (hlen sig h)) hstack hW (by rw [hb]; exact hdg)
    (fun vm₁ hW₁ => ⟨hf.1, hf.2, hPc (T.setVm vm₁) hT hW₁⟩) with ⟨v, vm₁, ⟨U', l2, c2, s2⟩, hW₁, X', ⟨g', mk, t, L, e1, e2, hq, h1, hL, h2, h3⟩, st⟩ | ⟨q, vm₁, ⟨U', l2, c2, s2⟩, hW₁, X', ⟨g', mk, t, L, E, ce, e1, e2, hq, hce, hcv, hcl, h1, hL, h2, h3⟩, st⟩
  · dsimp only [Pt.U, Pt.locs, Pt.cells, Pt.slots] at X' e1 e2 h1 h2 h3 st
    subst h1; subst h2; subst h3
    exact Or.inl ⟨v, (T.setVm vm₁).calling g' mk (Value.ref b :: As).toArray, t, U', L, hT, X', hL, e1, e2, hq, st⟩
  · dsimp only [Pt.U, Pt.locs, Pt.cells, Pt.slots] at X' e1 e2 h1 h2 h3 st hcl
    subst h1; subst h2; subst h3
    exact Or.inr ⟨q, (T.setVm vm₁).calling g' mk (Value.ref b :: As).toArray, t, U', L, E, ce, hT, X', hL, e1, e2, hq, hce, hcv, vx_cls hW₁ hcl, st⟩
end VXIB
/-! ===== END ===== -/
def VP (T : MT) : Prop := ∀ j : Nat, (j : Int) < T 0 2 → -1 ≤ T 14 j ∧ T 14 j < j
def newT (T : MT) (j : Nat) : MT := fun r i => if 13 ≤ r ∧ r ≤ 17 ∧ i = j then (if r = 14 then -1 else 0) else T r i
theorem gO_up {ad : Nat → Nat} {np q : Nat} {x : Int} (h : x + 13 ≠ np ∨ x < 0) : gO (va_up ad np q) x = gO ad x := by
  unfold gO
  by_cases h1 : x < 0
  · rw [if_pos h1, if_pos h1]
  · rw [if_neg h1, if_neg h1, va_up_ne _ _ (by omega)]
theorem grf_up {ad : Nat → Nat} {np q : Nat} {x : Int} (h : x + 13 ≠ np ∨ x < 0) : grf (va_up ad np q) x = grf ad x := by
  unfold grf
  rw [gO_up h]
theorem cel_new {cs : CSt} {ad : Nat → Nat} {T : MT} {np q : Nat} (h13 : 13 < np) (hm : T 1 (np - 13) = 0) (hp : ∀ j : Nat, j + 13 < np → -1 ≤ T 14 j ∧ T 14 j < j) (j : Nat) (hj : j < np) : cel cs (va_up ad np q) (newT T (np - 13)) j = cel cs ad T j := by
  have hf : ∀ r i, r < 13 → newT T (np - 13) r i = T r i := fun r i hr => by unfold newT; rw [if_neg (by omega)]
  have hF : ∀ r, r < 13 → newT T (np - 13) r = T r := fun r hr => funext fun i => hf r i hr
  have ha : ∀ i, i < 14 → va_up ad np q i = ad i := fun i hi => va_up_ne _ _ (by omega)
  match j, hj with
  | 0, hj => simp only [cel, hF 0 (by omega), ha 13 (by omega), ha 1 (by omega), ha 2 (by omega), ha 3 (by omega)]
  | 1, hj =>
    have e1 : (fun j => gO (va_up ad np q) (mkd (newT T (np - 13)) j)) = fun j => gO ad (mkd T j) := by
      funext i
      have e2 : mkd (newT T (np - 13)) i = mkd T i := by unfold mkd; rw [hF 1 (by omega)]
      rw [e2]
      rcases mkd_or T i with ⟨h1, h2⟩ | ⟨h1, h2⟩
      · rw [h2]; exact gO_up (Or.inr (by decide))
      · rw [h2]
        refine gO_up (Or.inl fun h => h1 ?_)
        rw [show i = np - 13 by omega]
        exact hm
    simp only [cel, e1]
  | 2, hj => simp only [cel, hF 2 (by omega)]
  | 3, hj => simp only [cel, hF 3 (by omega)]
  | 4, hj => rfl
  | 5, hj => rfl
  | 6, hj => rfl
  | 7, hj => rfl
  | 8, hj => rfl
  | 9, hj => rfl
  | 10, hj => rfl
  | 11, hj => rfl
  | 12, hj => rfl
  | j + 13, hj =>
    have hg : ∀ r, newT T (np - 13) r j = T r j := fun r => by unfold newT; rw [if_neg (by omega)]
    have hp2 := hp j hj
    simp only [cel, hg, grf_up (ad := ad) (np := np) (q := q) (x := T 14 j) (by omega)]
section
variable {p : Program} {l : Launch} {e : Env} {R : Room} {s : State} {m : MethodId} {args : Array Value} {below : List Frame} {meth : Method} {c : Code} {Q : State → Prop} {cs : CSt} {A : Nat → Prop} {nL : Nat}
variable {cc : ByteArray} {own : String} {rt : Option FieldType} {k n np : Nat} {ad : Nat → Nat} {T : MT} {pc : Nat} {lv : List (Option Value)} {st : List Value}
variable {PR : Option Value → St3 → Prop} {PX : String → St3 → Prop} {mc ms : Nat}
theorem g_objI (C : gC p l s m args meth c cs A nL cc own rt) {x : Int} {idx : Nat} (hx : 0 ≤ x) (hlink : Cond.methodLink own idx objectInit ∈ GW) (hR : 1 ≤ R.frames ∧ (st.map fun v => v.category).sum + 12 ≤ R.locals) (d : decode cc pc = .ok (.invokespecial idx, 3)) (kk : GG p l e R s m args below meth c Q cs A nL k n np ad T (pc + 3) lv st) : GG p l e R s m args below meth c Q cs A nL k n np ad T pc lv (grf ad x :: st) := fun H locs ls hP hD hS hl => by
  rw [grf_ref hx]
  refine W.objInit C.1 C.2.1 C.2.2.2.1 (C.2.2.2.2.1 _ hlink) (C.2.2.2.2.1 _ ob_i) (C.2.2.2.2.1 _ ob_c) rfl (by rw [C.2.2.1]; exact hl.1) rfl d hR.1 (by show 2 * 0 + _ + 12 ≤ _; omega) ?_
  exact W.eq (g2 := F0 m (pc + 3) ls st) rfl (kk H locs ls hP hD hS hl)
/-- new Span: the next place -/
theorem g_newS (C : gC p l s m args meth c cs A nL cc own rt) {idx : Nat} (h13 : 13 < np) (hm : T 1 (np - 13) = 0) (hp : ∀ j : Nat, j + 13 < np → -1 ≤ T 14 j ∧ T 14 j < j) (hcl : Cond.classLink own idx RX0 ∈ GW) (hf : k + 1 ≤ R.cells ∧ n + 5 ≤ R.slots) (d : decode cc pc = .ok (.new idx, 3))
    (kk : ∀ q : Nat, GG p l e R s m args below meth c Q cs A nL (k + 1) (n + 5) (np + 1) (va_up ad np q) (newT T (np - 13)) (pc + 3) lv (.ref q :: st)) : GG p l e R s m args below meth c Q cs A nL k n np ad T pc lv st := fun H locs ls hP hD hS hl => by
  refine va_new (ci := 0) (fs := [.int 0, .null, .int 0, .int 0, .int 0]) (C := RX0) (T := TX0) (N := 5) C.1 C.2.1 C.2.2.2.2.1 in_RX0 tyX0 tyX0_ok C.2.2.2.1 (C.2.2.2.2.1 _ hcl) (C.2.2.2.2.1 _ ins_PrefixYard_Span) (C.2.2.2.2.1 _ ini_PrefixYard_Span) C.2.2.2.2.2.2.1 hP hD hS C.2.2.2.2.2.2.2.1 rfl (fun j hj => by rcases (show j = 0 ∨ j = 1 ∨ j = 2 ∨ j = 3 ∨ j = 4 by omega) with rfl | rfl | rfl | rfl | rfl <;> rfl) hf.1 hf.2 d (fun q H1 hP1 hD1 hS1 => ?_)
  have e1 : gW cs np ad T ++ [(q, .inr (0, [.int 0, .null, .int 0, .int 0, .int 0]))] = gW cs (np + 1) (va_up ad np q) (newT T (np - 13)) := by
    unfold gW
    rw [show np + 1 - 9 = (np - 9) + 1 by omega, List.range_succ, List.map_append]
    congr 1
    · refine List.map_congr_left fun i hi => ?_
      rw [List.mem_range] at hi
      have hj : gI i < np := (gI_ok (by omega) hi).2
      rw [va_up_ne _ _ (by omega), cel_new h13 hm hp (gI i) hj]
    · obtain ⟨j, rfl⟩ : ∃ j, np = j + 13 := ⟨np - 13, by omega⟩
      have e5 : gI (j + 13 - 9) = j + 13 := by unfold gI; rw [if_neg (by omega)]; omega
      rw [show j + 13 - 13 = j by omega, List.map_singleton, e5, va_up_self]
      simp [cel, newT, grf_null, zI_0]
  rw [e1] at hP1 hD1
  exact kk q H1 locs ls hP1 hD1 hS1 hl
/-- a constructor's call -/
theorem g_runI (C : gC p l s m args meth c cs A nL cc own rt) {y : MethodName} {b : ByteArray} {maxL : Nat} {d mc' ms' idx : Nat} {a : Nat} {As rest : List Value} {PR' : Option Value → St3 → Prop} {PX' : String → St3 → Prop}
    (K : KC l cs y (Cond.code y b maxL none :: GW) d mc' ms' (.ref a :: As) np ad T PR' PX') (h1 : Cond.methodLink own idx y ∈ GW) (h2 : Cond.instanceMethod y ∈ GW) (h3 : Cond.initialized y.cls ∈ GW) (h4 : Cond.code y b maxL none ∈ GW) (hy : y.name = "<init>")
    (hd : y.cls ≠ "java/lang/invoke/MethodHandle" ∧ y.cls ≠ "java/lang/invoke/VarHandle" ∧ (parseMethodDescriptor y.desc).map (fun d => d.parameters.length) = some As.length) (hR : d + 1 ≤ R.frames ∧ 8 + (maxL + 11) + 40 * d ≤ R.locals)
    (hW : (rest.map fun v => v.category).sum ≤ 8) (hf : k + mc' ≤ R.cells ∧ n + ms' ≤ R.slots) (dd : decode cc pc = .ok (.invokespecial idx, 3)) :
    ∀ (H : Heap) (locs : List Loc) (ls : Array Slot), va_P cs.1 vwCl (gW cs np ad T) H → va_D A (gW cs np ad T) → va_S A s.heap H locs → gl ls nL lv → vx_Run p l e R s m args below meth c H locs k n mc' ms' (F0 m pc ls (As.reverse ++ .ref a :: rest)) rest (gQ cs (va_A (gW cs np ad T) H.size) PR' (Value.ref a :: As).toArray) (gXC cs (va_A (gW cs np ad T) H.size) PX') (va_A (gW cs np ad T) H.size) := fun H locs ls hP hD hS hl =>
  vx_runI (own := own) (Ts := GW) ⟨C.1, C.2.1, C.2.2.1, C.2.2.2.1, C.2.2.2.2.1⟩ (K C.2.2.2.2.2.2.2.2.2.1 H.size) (cwI As.length C.2.2.2.2.1 (GW_in fun w hw => by rcases List.mem_cons.mp hw with rfl | hw; exact h4; exact hw) rfl rfl rfl (C.2.2.2.2.1 _ h3) (C.2.2.2.2.1 _ h1) (C.2.2.2.2.1 _ h2) hy hd hR) ⟨gB_blind, g_pre C hP hD hS _⟩ rfl rfl hl.1 rfl (lv_room hW) dd hf
end
