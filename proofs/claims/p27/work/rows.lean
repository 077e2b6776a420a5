section
-- ===== PART A: goes FIRST, ahead of the names: the tables' words, and 'selects' of the private methods out of them =====
/-- a private method of a class that the tables say can be made, by its rows of tables_1 -/
def lw_okq (q : MethodName × Nat) : Prop := (q.1.cls ≠ "java/lang/invoke/MethodHandle" ∧ q.1.cls ≠ "java/lang/invoke/VarHandle") ∧ Cond.instantiable q.1.cls q.2 ∈ tables_1 ∧ Cond.privateMethod q.1 ∈ tables_1 ∧ Cond.instanceMethod q.1 ∈ tables_1
theorem lw_p0 : lw_okq (⟨"PrefixYard", "findSpan", "(I)LPrefixYard$Span;"⟩, 8) := ⟨⟨by decide +kernel, by decide +kernel⟩, List.mem_of_getElem? (i := 11) (by decide +kernel), List.mem_of_getElem? (i := 77) (by decide +kernel), List.mem_of_getElem? (i := 78) (by decide +kernel)⟩
theorem lw_p1 : lw_okq (⟨"PrefixYard", "spanOf", "(I)LPrefixYard$Span;"⟩, 8) := ⟨⟨by decide +kernel, by decide +kernel⟩, List.mem_of_getElem? (i := 11) (by decide +kernel), List.mem_of_getElem? (i := 101) (by decide +kernel), List.mem_of_getElem? (i := 102) (by decide +kernel)⟩
theorem lw_p2 : lw_okq (⟨"java/lang/Throwable", "fillInStackTrace", "(I)Ljava/lang/Throwable;"⟩, 6) := ⟨⟨by decide +kernel, by decide +kernel⟩, List.mem_of_getElem? (i := 143) (by decide +kernel), List.mem_of_getElem? (i := 141) (by decide +kernel), List.mem_of_getElem? (i := 142) (by decide +kernel)⟩
theorem lw_p3 : lw_okq (⟨"PrefixYard", "checkCarving", "(LPrefixYard$Span;I)V"⟩, 8) := ⟨⟨by decide +kernel, by decide +kernel⟩, List.mem_of_getElem? (i := 11) (by decide +kernel), List.mem_of_getElem? (i := 197) (by decide +kernel), List.mem_of_getElem? (i := 198) (by decide +kernel)⟩
theorem lw_p4 : lw_okq (⟨"PrefixYard", "lentInItself", "(LPrefixYard$Span;)I"⟩, 8) := ⟨⟨by decide +kernel, by decide +kernel⟩, List.mem_of_getElem? (i := 11) (by decide +kernel), List.mem_of_getElem? (i := 201) (by decide +kernel), List.mem_of_getElem? (i := 202) (by decide +kernel)⟩
theorem lw_p5 : lw_okq (⟨"PrefixYard", "hasChildren", "(LPrefixYard$Span;)Z"⟩, 8) := ⟨⟨by decide +kernel, by decide +kernel⟩, List.mem_of_getElem? (i := 11) (by decide +kernel), List.mem_of_getElem? (i := 205) (by decide +kernel), List.mem_of_getElem? (i := 206) (by decide +kernel)⟩
theorem lw_p6 : lw_okq (⟨"PrefixYard", "countChildren", "(LPrefixYard$Span;II)I"⟩, 8) := ⟨⟨by decide +kernel, by decide +kernel⟩, List.mem_of_getElem? (i := 11) (by decide +kernel), List.mem_of_getElem? (i := 209) (by decide +kernel), List.mem_of_getElem? (i := 210) (by decide +kernel)⟩
theorem lw_p7 : lw_okq (⟨"PrefixYard", "countLent", "(II)I"⟩, 8) := ⟨⟨by decide +kernel, by decide +kernel⟩, List.mem_of_getElem? (i := 11) (by decide +kernel), List.mem_of_getElem? (i := 222) (by decide +kernel), List.mem_of_getElem? (i := 223) (by decide +kernel)⟩
theorem lw_p8 : lw_okq (⟨"PrefixYard", "chosenBlock", "(LPrefixYard$Span;IZ)I"⟩, 8) := ⟨⟨by decide +kernel, by decide +kernel⟩, List.mem_of_getElem? (i := 11) (by decide +kernel), List.mem_of_getElem? (i := 245) (by decide +kernel), List.mem_of_getElem? (i := 246) (by decide +kernel)⟩
theorem lw_p9 : lw_okq (⟨"PrefixYard", "childAt", "(LPrefixYard$Span;I)LPrefixYard$Span;"⟩, 8) := ⟨⟨by decide +kernel, by decide +kernel⟩, List.mem_of_getElem? (i := 11) (by decide +kernel), List.mem_of_getElem? (i := 249) (by decide +kernel), List.mem_of_getElem? (i := 250) (by decide +kernel)⟩
theorem lw_p10 : lw_okq (⟨"PrefixYard", "roomAt", "(LPrefixYard$Span;I)I"⟩, 8) := ⟨⟨by decide +kernel, by decide +kernel⟩, List.mem_of_getElem? (i := 11) (by decide +kernel), List.mem_of_getElem? (i := 257) (by decide +kernel), List.mem_of_getElem? (i := 258) (by decide +kernel)⟩
theorem lw_p11 : lw_okq (⟨"PrefixYard", "makeSpan", "(LPrefixYard$Span;III)I"⟩, 8) := ⟨⟨by decide +kernel, by decide +kernel⟩, List.mem_of_getElem? (i := 11) (by decide +kernel), List.mem_of_getElem? (i := 268) (by decide +kernel), List.mem_of_getElem? (i := 269) (by decide +kernel)⟩
theorem lw_p12 : lw_okq (⟨"PrefixYard", "lowestFree", "(LPrefixYard$Span;)I"⟩, 8) := ⟨⟨by decide +kernel, by decide +kernel⟩, List.mem_of_getElem? (i := 11) (by decide +kernel), List.mem_of_getElem? (i := 325) (by decide +kernel), List.mem_of_getElem? (i := 326) (by decide +kernel)⟩
theorem lw_p13 : lw_okq (⟨"PrefixYard", "outsideChildren", "(LPrefixYard$Span;)I"⟩, 8) := ⟨⟨by decide +kernel, by decide +kernel⟩, List.mem_of_getElem? (i := 11) (by decide +kernel), List.mem_of_getElem? (i := 379) (by decide +kernel), List.mem_of_getElem? (i := 380) (by decide +kernel)⟩
theorem lw_p14 : lw_okq (⟨"PrefixYard", "layRow", "()V"⟩, 8) := ⟨⟨by decide +kernel, by decide +kernel⟩, List.mem_of_getElem? (i := 11) (by decide +kernel), List.mem_of_getElem? (i := 412) (by decide +kernel), List.mem_of_getElem? (i := 413) (by decide +kernel)⟩
theorem lw_p15 : lw_okq (⟨"PrefixYard", "laySpan", "(LPrefixYard$Span;)V"⟩, 8) := ⟨⟨by decide +kernel, by decide +kernel⟩, List.mem_of_getElem? (i := 11) (by decide +kernel), List.mem_of_getElem? (i := 416) (by decide +kernel), List.mem_of_getElem? (i := 417) (by decide +kernel)⟩
def lw_privs_1 : List (MethodName × Nat) := [(⟨"PrefixYard", "findSpan", "(I)LPrefixYard$Span;"⟩, 8), (⟨"PrefixYard", "spanOf", "(I)LPrefixYard$Span;"⟩, 8), (⟨"java/lang/Throwable", "fillInStackTrace", "(I)Ljava/lang/Throwable;"⟩, 6), (⟨"PrefixYard", "checkCarving", "(LPrefixYard$Span;I)V"⟩, 8), (⟨"PrefixYard", "lentInItself", "(LPrefixYard$Span;)I"⟩, 8), (⟨"PrefixYard", "hasChildren", "(LPrefixYard$Span;)Z"⟩, 8), (⟨"PrefixYard", "countChildren", "(LPrefixYard$Span;II)I"⟩, 8), (⟨"PrefixYard", "countLent", "(II)I"⟩, 8), (⟨"PrefixYard", "chosenBlock", "(LPrefixYard$Span;IZ)I"⟩, 8), (⟨"PrefixYard", "childAt", "(LPrefixYard$Span;I)LPrefixYard$Span;"⟩, 8), (⟨"PrefixYard", "roomAt", "(LPrefixYard$Span;I)I"⟩, 8), (⟨"PrefixYard", "makeSpan", "(LPrefixYard$Span;III)I"⟩, 8), (⟨"PrefixYard", "lowestFree", "(LPrefixYard$Span;)I"⟩, 8), (⟨"PrefixYard", "outsideChildren", "(LPrefixYard$Span;)I"⟩, 8), (⟨"PrefixYard", "layRow", "()V"⟩, 8), (⟨"PrefixYard", "laySpan", "(LPrefixYard$Span;)V"⟩, 8)]
theorem lw_r1 : ∀ q ∈ lw_privs_1, lw_okq q := List.forall_mem_cons.mpr ⟨lw_p0, List.forall_mem_cons.mpr ⟨lw_p1, List.forall_mem_cons.mpr ⟨lw_p2, List.forall_mem_cons.mpr ⟨lw_p3, List.forall_mem_cons.mpr ⟨lw_p4, List.forall_mem_cons.mpr ⟨lw_p5, List.forall_mem_cons.mpr ⟨lw_p6, List.forall_mem_cons.mpr ⟨lw_p7, List.forall_mem_cons.mpr ⟨lw_p8, List.forall_mem_cons.mpr ⟨lw_p9, List.forall_mem_cons.mpr ⟨lw_p10, List.forall_mem_cons.mpr ⟨lw_p11, List.forall_mem_cons.mpr ⟨lw_p12, List.forall_mem_cons.mpr ⟨lw_p13, List.forall_mem_cons.mpr ⟨lw_p14, List.forall_mem_cons.mpr ⟨lw_p15, fun _ h => absurd h List.not_mem_nil⟩⟩⟩⟩⟩⟩⟩⟩⟩⟩⟩⟩⟩⟩⟩⟩
def lw_privs : List (MethodName × Nat) := lw_privs_1
def lw_tbl : List Cond := k2_sels lw_privs ++ tables_1
theorem lw_privs_ok : ∀ q ∈ lw_privs, lw_okq q := lw_r1
end
section
/-! ===== BEGIN words of one list among another's, by their places ===== -/
theorem goodIn_r {big : List Cond} (ws : List Cond) (ps : List Nat) (hp : ws = ps.filterMap (fun i => big[i]?)) (h : ws.all goodWord = true) : GoodIn big ws := by
  intro w hw
  have h1 := List.all_eq_true.mp h w hw
  rw [hp] at hw
  obtain ⟨i, -, hi⟩ := List.mem_filterMap.mp hw
  have hm : w ∈ big := by first | exact List.mem_of_getElem? hi | exact List.getElem?_mem hi
  exact ⟨hm, good_of_word h1⟩
theorem goodIn_app {big a b : List Cond} (ha : GoodIn big a) (hb : GoodIn big b) : GoodIn big (a ++ b) := fun w h => (List.mem_append.mp h).elim (ha w) (hb w)
theorem goodIn_ca {big a b : List Cond} {c : Cond} (ha : GoodIn big (c :: a)) (hb : GoodIn big b) : GoodIn big (c :: (a ++ b)) := fun w h => (List.mem_cons.mp h).elim (fun e => ha w (List.mem_cons.mpr (Or.inl e))) (fun h => (List.mem_append.mp h).elim (fun h => ha w (List.mem_cons.mpr (Or.inr h))) (hb w))
theorem goodIn_sub {big ws : List Cond} (hm : ∀ w ∈ ws, w ∈ big) (h : ws.all goodWord = true) : GoodIn big ws := fun w hw => ⟨hm w hw, good_of_word (List.all_eq_true.mp h w hw)⟩
/-! ===== END ===== -/

/-! ===== BEGIN exceptions that leave a method, and their catching by the caller (launches without stack traces) ===== -/
section VXA
/-! The laws vx_back, vx_callV, vx_callS, vx_callSW, vx_throw0, vx_throwS follow proofs of the library, with one case more: JvmDerived/Free/Laws.lean (Back.of_free), Shelf42/LK1.lean (callV, callS), Shelf/KitTraced.lean (throwNew0V, throwNewS). -/
/-- where a method has thrown q: the class by its name, the cell, what was written, the world -/
def vx_T (XC : String → State → State → Prop) (st : State) (q : Addr) (t : State) (mc ms : Nat) (free : Addr → Prop) : Prop :=
  ∃ (E : String) (ce : Cell) (L : List Loc), XC E st t ∧ t.heap[q]? = some ce ∧ ce.vm = .none ∧ st.vm.findClass E = some ce.cls ∧ st.WarmedH t.vm ∧ st.sameButNew ({ t with vm := st.vm } : State) L mc ms ∧ ∀ z ∈ L, free z.base
def vx_Q (Qc : Array Value → State → Outcome → State → Prop) (XC : String → State → State → Prop) (mc ms : Nat) (free : Addr → Prop) : Array Value → State → Outcome → State → Prop := fun a st o t =>
  (Qc a st o t ∧ ∃ L, FrameEnd st o t L mc ms ∧ ∀ q ∈ L, free q.base) ∨ ∃ q, o = .threw q ∧ vx_T XC st q t mc ms free
/-- a callee that returns or throws -/
def vx_Met (l : Launch) (y : MethodName) (ws : List Cond) (rm : Room) (Pc : Array Value → State → Prop) (Qc : Array Value → State → Outcome → State → Prop) (XC : String → State → State → Prop) (mc ms : Nat) (free : Addr → Prop) : Prop :=
  MetFree l y (headSpec ws rm) Pc (fun _ _ _ _ _ => True) (vx_Q Qc XC mc ms free)
def vx_Post (XC : String → State → State → Prop) (mc ms : Nat) (free : Addr → Prop) : Pt → Array Value → Addr → Pt → Prop := fun A a q B =>
  ∃ (g : JFrame) (mk : MethodId) (t : State) (L : List Loc) (E : String) (ce : Cell), B.U.heap = t.heap ∧ B.U.vm = t.vm ∧ XC E (A.U.calling g mk a) t ∧ t.heap[q]? = some ce ∧ ce.vm = .none ∧ A.U.vm.findClass E = some ce.cls ∧ B.locs = A.locs ++ L ∧ (∀ z ∈ L, free z.base) ∧ B.cells = A.cells + mc ∧ B.slots = A.slots + ms
def vx_Back (l : Launch) (R : Room) (p : Program) (e : Env) (below : List Frame) (s : State) (sargs : Array Value) (y : MethodName) (len W9 : Nat)
    (Pre : Pt → Array Value → Prop) (Post : Pt → Array Value → Option Value → Pt → Prop) (PostX : Pt → Array Value → Addr → Pt → Prop) : Prop :=
  ∀ (m : MethodId) (meth : Method) (c : Code) (A : Pt) (g : JFrame) (ig : Instr) (mk : MethodId) (a : Array Value),
    Stand p l e R s m sargs below meth c A.U A.locs A.cells A.slots → g.method = m → g.locals.size = c.maxLocals → decode c.code g.pc = .ok (ig, len) →
    2 * g.monitorRoom + (g.stack.map fun v => v.category).sum ≤ W9 → A.U.methodNamed? y = some mk → Pre A a →
    (∃ (v : Option Value) (B : Pt), Stand p l e R s m sargs below meth c B.U B.locs B.cells B.slots ∧ Post A a v B ∧
      Steps p.tables e below (doInvoke e (A.U.setTop g) [] mk a).1 (B.U.setTop { g with pc := g.pc + len, stack := v.toList ++ g.stack })) ∨
    (∃ (q : Addr) (B : Pt), Stand p l e R s m sargs below meth c B.U B.locs B.cells B.slots ∧ PostX A a q B ∧
      Steps p.tables e below (doInvoke e (A.U.setTop g) [] mk a).1 ((B.U.setTop g).pushFrame (.throwing q)))
section Payer
variable {l : Launch} {R : Room} {p : Program} {e : Env} {below : List Frame} {s : State} {sargs : Array Value} {y : MethodName} {len W9 : Nat}
theorem vx_back {ws : List Cond} {rm : Room} {Pc : Array Value → State → Prop} {Qc : Array Value → State → Outcome → State → Prop} {XC : String → State → State → Prop} {mc ms : Nat} {free : Addr → Prop} {bytes : ByteArray} {maxL : Nat} {ret : Option FieldType}
    (hM : vx_Met l y ws rm Pc Qc XC mc ms free) (hblind : FrameBlind Pc) (hrc : rm.cells = mc) (hrs : rm.slots = ms)
    (hframes : rm.frames + 1 ≤ R.frames) (hlocals : W9 + (maxL + 11) + rm.locals ≤ R.locals)
    (hws : ∀ w ∈ ws, ∀ a' U, s.WarmedH U.vm → w.before a' U = true) (hcode : Cond.code y bytes maxL ret ∈ ws) (hinit : ∀ a' U, s.WarmedH U.vm → (Cond.initialized y.cls).before a' U = true) :
    vx_Back l R p e below s sargs y len W9 (PreOf R mc ms Pc) (PostOf Qc mc ms free) (vx_Post XC mc ms free) := by
  intro m meth c A g ig mk a X hg hsize hdg hW hn hp
  have h1 : (headSpec ws rm).pre.before a A.U = true := atoms_intro fun w hw => hws w hw _ _ X.warmed
  have h2 : (Cond.code y bytes maxL ret).before a A.U = true := hws _ hcode _ _ X.warmed
  have h3 : (Cond.initialized y.cls).before a A.U = true := hinit _ _ X.warmed
  have h4 : A.cells + (headSpec ws rm).room.cells ≤ R.cells := by rw [show (headSpec ws rm).room.cells = mc from hrc]; exact hp.1
  have h5 : A.slots + (headSpec ws rm).room.slots ≤ R.slots := by rw [show (headSpec ws rm).room.slots = ms from hrs]; exact hp.2.1
  have hPc : Pc a (A.U.calling g mk a) := hblind _ _ _ _ hp.2.2
  obtain ⟨U, Ls, c0, s0⟩ := A
  dsimp only [Pt.U, Pt.locs, Pt.cells, Pt.slots] at h1 h2 h3 h4 h5 X hn hPc ⊢
  obtain ⟨methY, cY, hmY, hcY, -, hlY, -, -, -, -⟩ := Cond.code_spec hn h2
  obtain ⟨kY, hkY, -⟩ := className_of_methodNamed hn
  have hinitY : kY.init = .initialized := Cond.initialized_spec (findClass_of_methodNamed hn) hkY h3
  have h : At U g.method c below := by rw [hg]; exact X.here
  have hlocals9 : W9 + (maxL + 11) + (headSpec ws rm).room.locals ≤ R.locals := hlocals
  have happ : (headSpec ws rm).appliesLoose y e.platform (U.calling g mk a) = true :=
    Spec.appliesLoose_calling (g := g) h hdg hn hkY hinitY
      (X.room_calling (g := g) (R' := (headSpec ws rm).room) hsize hmY hcY hframes (by rw [hlY]; omega) h4 h5) h1
  obtain ⟨mid, hmid⟩ := h.above
  have hfr : (U.setTop g).frames = (.java g :: mid) ++ below := by rw [State.frames_setTop' g h.top, hmid]; rfl
  obtain ⟨o, s₂, hsteps, -, hend, hq⟩ := Steps.callFree hM p X.admits X.cas X.clock (acts := []) hfr happ hPc trivial
  have hq' : vx_Q Qc XC mc ms free a (U.calling g mk a) o s₂ := hq
  rw [State.frames_setTop' g h.top] at hend
  obtain ⟨g₀, hg0⟩ := Option.isSome_iff_exists.mp h.top
  obtain ⟨r, hr⟩ := State.topJava?_eq_some.mp hg0
  have hr' : (({ U with heap := s₂.heap, slotsUsed := s₂.slotsUsed } : State).setVm s₂.vm).frames = .java g₀ :: r := hr
  rcases hq' with ⟨hqc, L, hfe, hL⟩ | ⟨q, rfl, E, ce, L, hx, hce, hcv, hcl, hW₂, hsm, hL⟩
  · obtain ⟨⟨v, rfl⟩, hW₂, e2, q2, q3, q4, q5, q6⟩ := id hfe
    have e3 : s₂ = ({ (U.calling g mk a).setFrames s₂.frames with heap := s₂.heap, slotsUsed := s₂.slotsUsed } : State).setVm s₂.vm := by
      have : s₂ = ({ s₂ with vm := (U.calling g mk a).vm } : State).setVm s₂.vm := rfl
      rw [e2] at this
      exact this
    obtain ⟨c₂, i₂, len₂, hc₂, hd₂, hf₂⟩ := hend
    have hW' : U.WarmedH s₂.vm := hW₂
    have hcc : c₂ = c := by
      have h1 : s₂.code? g.method = U.code? g.method := by
        rw [State.code?_eq, State.code?_eq, hW'.alike.method?]
      exact Option.some.inj (hc₂.symm.trans (h1.trans h.code))
    subst hcc
    have hlen : len₂ = len := by rw [hdg] at hd₂; cases hd₂; rfl
    subst hlen
    have hs₂ : s₂ = (({ U with heap := s₂.heap, slotsUsed := s₂.slotsUsed } : State).setVm s₂.vm).setTop { g with pc := g.pc + len₂, stack := v.toList ++ g.stack } := by
      refine e3.trans ?_
      rw [hf₂, State.calling_eq h.top, State.setFrames_setFrames, State.setTop_of_frames _ hr', hr]
      rfl
    have hsame : U.sameButNew ({ U with heap := s₂.heap, slotsUsed := s₂.slotsUsed } : State) L mc ms := by
      refine ⟨?_, q2, q3, q4, q5, q6⟩
      obtain ⟨t, ht, -⟩ := State.frames_cons hr
      show ({ U with heap := s₂.heap, slotsUsed := s₂.slotsUsed } : State) = { U.setFrames U.frames with heap := s₂.heap, slotsUsed := s₂.slotsUsed }
      rw [State.setFrames_self ht]
    subst hg
    refine Or.inl ⟨v, ⟨(({ U with heap := s₂.heap, slotsUsed := s₂.slotsUsed } : State).setVm s₂.vm), Ls ++ L, c0 + mc, s0 + ms⟩,
      ⟨X.admits, X.cas, X.clock, X.frames, X.room, X.hears, X.method, X.code, (X.here.setHeapUsed s₂.heap s₂.slotsUsed).setVm hW'.alike, X.tail, State.WarmedH.trans X.warmed hW', X.limits, X.bytes, X.same.trans (hsame.setVm s.vm)⟩,
      ⟨g, mk, s₂, L, rfl, rfl, hqc, rfl, hL, rfl, rfl⟩, ?_⟩
    show Steps p.tables e below _ ((({ U with heap := s₂.heap, slotsUsed := s₂.slotsUsed } : State).setVm s₂.vm).setTop { g with pc := g.pc + len₂, stack := v.toList ++ g.stack })
    rw [← hs₂]
    exact hsteps
  · obtain ⟨e2, q2, q3, q4, q5, q6⟩ := id hsm
    have e3 : s₂ = ({ (U.calling g mk a).setFrames s₂.frames with heap := s₂.heap, slotsUsed := s₂.slotsUsed } : State).setVm s₂.vm := by
      have : s₂ = ({ s₂ with vm := (U.calling g mk a).vm } : State).setVm s₂.vm := rfl
      rw [e2] at this
      exact this
    have hf₂ : s₂.frames = .throwing q :: .java g :: U.frames.tail := hend
    have hW' : U.WarmedH s₂.vm := hW₂
    have hs₂ : s₂ = ((({ U with heap := s₂.heap, slotsUsed := s₂.slotsUsed } : State).setVm s₂.vm).setTop g).pushFrame (.throwing q) := by
      refine e3.trans ?_
      rw [hf₂, State.calling_eq h.top, State.setFrames_setFrames, State.pushFrame, State.frames_setTop _ hr', State.setTop_of_frames _ hr', State.setFrames_setFrames, hr]
      rfl
    have hsame : U.sameButNew ({ U with heap := s₂.heap, slotsUsed := s₂.slotsUsed } : State) L mc ms := by
      refine ⟨?_, q2, q3, q4, q5, q6⟩
      obtain ⟨t, ht, -⟩ := State.frames_cons hr
      show ({ U with heap := s₂.heap, slotsUsed := s₂.slotsUsed } : State) = { U.setFrames U.frames with heap := s₂.heap, slotsUsed := s₂.slotsUsed }
      rw [State.setFrames_self ht]
    subst hg
    refine Or.inr ⟨q, ⟨(({ U with heap := s₂.heap, slotsUsed := s₂.slotsUsed } : State).setVm s₂.vm), Ls ++ L, c0 + mc, s0 + ms⟩,
      ⟨X.admits, X.cas, X.clock, X.frames, X.room, X.hears, X.method, X.code, (X.here.setHeapUsed s₂.heap s₂.slotsUsed).setVm hW'.alike, X.tail, State.WarmedH.trans X.warmed hW', X.limits, X.bytes, X.same.trans (hsame.setVm s.vm)⟩,
      ⟨g, mk, s₂, L, E, ce, rfl, rfl, hx, hce, hcv, hcl, rfl, hL, rfl, rfl⟩, ?_⟩
    show Steps p.tables e below _ (((({ U with heap := s₂.heap, slotsUsed := s₂.slotsUsed } : State).setVm s₂.vm).setTop g).pushFrame (.throwing q))
    rw [← hs₂]
    exact hsteps
end Payer
section Calls
variable {p : Program} {l : Launch} {e : Env} {R : Room} {s : State} {m : MethodId} {args : Array Value} {below : List Frame} {meth : Method} {c : Code} {T : State} {locs : List Loc} {cells slots : Nat}
theorem vx_callV (X : Stand p l e R s m args below meth c T locs cells slots) (hexec : p.tables.exec = Jvm.exec) {own C : String} {index : Nat} {y : MethodName} {bytes : ByteArray} {maxL : Nat} {ret : Option FieldType}
    (hown : s.vm.findClass own = some m.cls) (hlink : (Cond.methodLink own index y).before args s = true) (hinst : (Cond.instanceMethod y).before args s = true) (hsel : (Cond.selects C y y).before args s = true)
    (hcode : (Cond.code y bytes maxL ret).before args s = true) (hy : y.cls ≠ "java/lang/invoke/MethodHandle" ∧ y.cls ≠ "java/lang/invoke/VarHandle")
    {W9 : Nat} {Pre : Pt → Array Value → Prop} {Post : Pt → Array Value → Option Value → Pt → Prop} {PostX : Pt → Array Value → Addr → Pt → Prop} (hK : vx_Back l R p e below s args y 3 W9 Pre Post PostX)
    {b : Addr} {cellB : Cell} (hcell : T.heap[b]? = some cellB) (hobj : cellB.vm.isStatics = false) (hcls : s.vm.findClass C = some cellB.cls)
    {g : JFrame} (hg : g.method = m) (hsize : g.locals.size = c.maxLocals) {argsL rest : List Value} (hlen : ∀ sig, parseMethodDescriptor y.desc = some sig → argsL.length = sig.parameters.length)
    (hstack : g.stack = argsL.reverse ++ .ref b :: rest) (hW : 2 * g.monitorRoom + (rest.map fun v => v.category).sum ≤ W9) (hdg : decode c.code g.pc = .ok (.invokevirtual index, 3))
    (hpre : ∀ vm₁, s.WarmedH vm₁ → Pre ⟨T.setVm vm₁, locs, cells, slots⟩ (Value.ref b :: argsL).toArray) :
    (∃ (v : Option Value) (vm₁ : Vm) (B : Pt), s.WarmedH vm₁ ∧ Stand p l e R s m args below meth c B.U B.locs B.cells B.slots ∧ Post ⟨T.setVm vm₁, locs, cells, slots⟩ (Value.ref b :: argsL).toArray v B ∧
      ∀ target, Steps p.tables e below (B.U.setTop { g with pc := g.pc + 3, stack := v.toList ++ rest }) target → Steps p.tables e below (T.setTop g) target) ∨
    (∃ (q : Addr) (vm₁ : Vm) (B : Pt), s.WarmedH vm₁ ∧ Stand p l e R s m args below meth c B.U B.locs B.cells B.slots ∧ PostX ⟨T.setVm vm₁, locs, cells, slots⟩ (Value.ref b :: argsL).toArray q B ∧
      Steps p.tables e below (T.setTop g) ((B.U.setTop { g with stack := rest }).pushFrame (.throwing q))) := by
  obtain ⟨mk, methM, hnamed, hmethM, hstM, habM⟩ := Cond.instanceMethod_spec hinst
  obtain ⟨methM', cM, hmethM', -, -, -, -, -, -, hsigM⟩ := Cond.code_spec hnamed hcode
  cases hmethM.symm.trans hmethM'
  obtain ⟨c2, r2, m2, q1, q2, q3, q4, kP, hkP, hkPi⟩ := Cond.selects_spec hsel
  cases hcls.symm.trans q1
  cases (State.methodFound?_of_named hnamed hy).symm.trans q2
  cases hnamed.symm.trans q3
  have hselP : selectMethod e.platform s.vm cellB.cls mk = .method mk := by rw [Launch.admits_selectMethod X.admits]; exact q4
  obtain ⟨vm₁, X₁, hstep₁⟩ := X.invokevirtual hexec hown hlink hnamed hmethM hstM hkP hkPi hy (a := b) (cell := cellB) hcell
    (fun z h => by rw [h] at hobj; cases hobj) hselP hmethM habM hkP hkPi (g := g) hg (argsL := argsL) (rest := rest) (hlen _ hsigM) hstack hdg
  rcases hK m meth c ⟨T.setVm vm₁, locs, cells, slots⟩ { g with stack := rest } (.invokevirtual index) mk (Value.ref b :: argsL).toArray X₁ hg hsize hdg hW (X₁.named hnamed) (hpre vm₁ X₁.warmed) with ⟨v, B, X', hpost, hsteps⟩ | ⟨q, B, X', hpost, hsteps⟩
  · exact Or.inl ⟨v, vm₁, B, X₁.warmed, X', hpost, fun target h => hstep₁ _ fun acts => by rw [doInvoke_state]; exact hsteps.trans h⟩
  · exact Or.inr ⟨q, vm₁, B, X₁.warmed, X', hpost, hstep₁ _ fun acts => by rw [doInvoke_state]; exact hsteps⟩
theorem vx_callS (X : Stand p l e R s m args below meth c T locs cells slots) (hexec : p.tables.exec = Jvm.exec) {own : String} {index : Nat} {y : MethodName} {bytes : ByteArray} {maxL : Nat} {ret : Option FieldType}
    (hown : s.vm.findClass own = some m.cls) (hlink : (Cond.methodLink own index y).before args s = true) (hstat : (Cond.static y).before args s = true) (hinit : (Cond.initialized y.cls).before args s = true)
    (hcode : (Cond.code y bytes maxL ret).before args s = true) (hy : y.cls ≠ "java/lang/invoke/MethodHandle" ∧ y.cls ≠ "java/lang/invoke/VarHandle")
    {W9 : Nat} {Pre : Pt → Array Value → Prop} {Post : Pt → Array Value → Option Value → Pt → Prop} {PostX : Pt → Array Value → Addr → Pt → Prop} (hK : vx_Back l R p e below s args y 3 W9 Pre Post PostX)
    {g : JFrame} (hg : g.method = m) (hsize : g.locals.size = c.maxLocals) {argsL rest : List Value} (hlen : ∀ sig, parseMethodDescriptor y.desc = some sig → argsL.length = sig.parameters.length)
    (hstack : g.stack = argsL.reverse ++ rest) (hW : 2 * g.monitorRoom + (rest.map fun v => v.category).sum ≤ W9) (hdg : decode c.code g.pc = .ok (.invokestatic index, 3))
    (hpre : ∀ vm₁, s.WarmedH vm₁ → Pre ⟨T.setVm vm₁, locs, cells, slots⟩ argsL.toArray) :
    (∃ (v : Option Value) (vm₁ : Vm) (B : Pt), s.WarmedH vm₁ ∧ Stand p l e R s m args below meth c B.U B.locs B.cells B.slots ∧ Post ⟨T.setVm vm₁, locs, cells, slots⟩ argsL.toArray v B ∧
      ∀ target, Steps p.tables e below (B.U.setTop { g with pc := g.pc + 3, stack := v.toList ++ rest }) target → Steps p.tables e below (T.setTop g) target) ∨
    (∃ (q : Addr) (vm₁ : Vm) (B : Pt), s.WarmedH vm₁ ∧ Stand p l e R s m args below meth c B.U B.locs B.cells B.slots ∧ PostX ⟨T.setVm vm₁, locs, cells, slots⟩ argsL.toArray q B ∧
      Steps p.tables e below (T.setTop g) ((B.U.setTop { g with stack := rest }).pushFrame (.throwing q))) := by
  obtain ⟨mk, hnamed⟩ := Cond.code_named hcode
  obtain ⟨methM, cM, hmethM, -, -, -, -, -, -, hsigM⟩ := Cond.code_spec hnamed hcode
  have hstatic : methM.isStatic = true := Cond.static_spec hnamed hmethM hstat
  obtain ⟨kP, hkP, -⟩ := className_of_methodNamed hnamed
  have hinitP : kP.init = .initialized := Cond.initialized_spec (findClass_of_methodNamed hnamed) hkP hinit
  obtain ⟨vm₁, X₁, hstep₁⟩ := X.invokestatic hexec hown hlink hnamed hmethM hstatic hkP hinitP hy (g := g) hg (argsL := argsL) (rest := rest) (hlen _ hsigM) hstack hdg
  rcases hK m meth c ⟨T.setVm vm₁, locs, cells, slots⟩ { g with stack := rest } (.invokestatic index) mk argsL.toArray X₁ hg hsize hdg hW (X₁.named hnamed) (hpre vm₁ X₁.warmed) with ⟨v, B, X', hpost, hsteps⟩ | ⟨q, B, X', hpost, hsteps⟩
  · exact Or.inl ⟨v, vm₁, B, X₁.warmed, X', hpost, fun target h => hstep₁ _ fun acts => by rw [doInvoke_state]; exact hsteps.trans h⟩
  · exact Or.inr ⟨q, vm₁, B, X₁.warmed, X', hpost, hstep₁ _ fun acts => by rw [doInvoke_state]; exact hsteps⟩
end Calls
theorem vx_cls {s : State} {T : State} {vm₁ : Vm} {E : String} {k : ClassId} (hW : s.WarmedH vm₁) (h : (T.setVm vm₁).vm.findClass E = some k) : s.vm.findClass E = some k := by
  have h1 : vm₁.findClass E = some k := h
  rw [hW.alike.findClass] at h1
  exact h1
/-- the method's frame g, with q thrown over it -/
def vx_W (p : Program) (l : Launch) (e : Env) (R : Room) (s : State) (m : MethodId) (args : Array Value) (below : List Frame) (meth : Method) (c : Code) (H : Heap) (locs : List Loc) (cells slots : Nat) (Q : State → Prop) (g : JFrame) (q : Addr) : Prop :=
  ∀ T : State, T.heap = H → Stand p l e R s m args below meth c T locs cells slots → ∃ t, Steps p.tables e below ((T.setTop g).pushFrame (.throwing q)) t ∧ Q t
def vx_Run (p : Program) (l : Launch) (e : Env) (R : Room) (s : State) (m : MethodId) (args : Array Value) (below : List Frame) (meth : Method) (c : Code) (H : Heap) (locs : List Loc) (cells slots mc ms : Nat) (g : JFrame) (rest : List Value) (Qa : State → Outcome → State → Prop) (XC : String → State → State → Prop) (free : Addr → Prop) : Prop :=
  ∀ T : State, T.heap = H → Stand p l e R s m args below meth c T locs cells slots →
    (∃ (v : Option Value) (st₀ t T' : State) (L : List Loc), st₀.heap = H ∧ Stand p l e R s m args below meth c T' (locs ++ L) (cells + mc) (slots + ms) ∧ (∀ q ∈ L, free q.base) ∧ T'.heap = t.heap ∧ T'.vm = t.vm ∧ Qa st₀ (.returned v) t ∧
      Goes p e below T g T' { g with pc := g.pc + 3, stack := v.toList ++ rest }) ∨
    (∃ (q : Addr) (st₀ t T' : State) (L : List Loc) (E : String) (ce : Cell), st₀.heap = H ∧ Stand p l e R s m args below meth c T' (locs ++ L) (cells + mc) (slots + ms) ∧ (∀ z ∈ L, free z.base) ∧ T'.heap = t.heap ∧ T'.vm = t.vm ∧ XC E st₀ t ∧ t.heap[q]? = some ce ∧ ce.vm = .none ∧ s.vm.findClass E = some ce.cls ∧
      Steps p.tables e below (T.setTop g) ((T'.setTop { g with stack := rest }).pushFrame (.throwing q)))
def vx_X {S : Type} (px : S → Prop) (B : String → S → State → Prop) (A : Nat → Prop) : String → State → State → Prop := fun E st t => ∃ u : S, px u ∧ B E u t ∧ va_F A st t
section Runs
variable {p : Program} {l : Launch} {e : Env} {R : Room} {s : State} {m : MethodId} {args : Array Value} {below : List Frame} {meth : Method} {c : Code} {H : Heap} {locs : List Loc} {cells slots : Nat}
variable {y : MethodName} {bytes cc : ByteArray} {maxL nL mc ms n index : Nat} {ret : Option FieldType} {ws : List Cond} {rm : Room} {Pc : Array Value → State → Prop} {Qc : Array Value → State → Outcome → State → Prop} {XC : String → State → State → Prop} {free : Addr → Prop} {Ts : List Cond} {own C : String} {b : Addr} {As rest : List Value} {g : JFrame}
theorem vx_callBack (cb : CallB R s args own index y bytes maxL ret ws rm mc ms n) (hM : vx_Met l y ws rm Pc Qc XC mc ms free) (hbl : FrameBlind Pc) : vx_Back l R p e below s args y 3 8 (PreOf R mc ms Pc) (PostOf Qc mc ms free) (vx_Post XC mc ms free) := by
  obtain ⟨hrc, hrs, hfr, hlo, hws, hcw, -, hini, -⟩ := cb
  exact vx_back (bytes := bytes) (maxL := maxL) (ret := ret) hM hbl hrc hrs hfr hlo hws hcw (fun a' U hW => word_at hW (Or.inl (by first | rfl | simp [Cond.onTables, Cond.keeps, Cond.steady])) hini)
theorem vx_runV (S : CallFix p m c cc nL s args Ts own) (hM : vx_Met l y ws rm Pc Qc XC mc ms free) (cw : CallW R s args own C index y bytes maxL ret ws rm mc ms n) (hp : PreV s H C b Pc As)
    (hg : g.method = m) (hn : As.length = n) (hsize : g.locals.size = nL) (hstack : g.stack = As.reverse ++ .ref b :: rest) (hW : 2 * g.monitorRoom + (rest.map fun v => v.category).sum ≤ 8) (hdg : decode cc g.pc = .ok (.invokevirtual index, 3)) (hf : cells + mc ≤ R.cells ∧ slots + ms ≤ R.slots) :
    vx_Run p l e R s m args below meth c H locs cells slots mc ms g rest (Qc (Value.ref b :: As).toArray) XC free := by
  have hK : vx_Back l R p e below s args y 3 8 (PreOf R mc ms Pc) (PostOf Qc mc ms free) (vx_Post XC mc ms free) := vx_callBack cw.1 hM hp.1
  obtain ⟨⟨-, -, -, -, -, -, hcode, -, hy, hlen, hl⟩, hin, hse⟩ := cw
  obtain ⟨hx, hb, hml, ho, -⟩ := S
  obtain ⟨-, ⟨cellB, hcB, hoB, hclB⟩, hPc⟩ := hp
  intro T hT X
  rcases vx_callV X hx (C := C) (bytes := bytes) (maxL := maxL) (ret := ret) ho hl hin hse hcode hy hK (by rw [hT]; exact hcB) hoB hclB hg (hsize.trans hml.symm) (argsL := As) (rest := rest) (fun sig h => hn.trans (hlen sig h)) hstack hW (by rw [hb]; exact hdg)
    (fun vm₁ hW₁ => ⟨hf.1, hf.2, hPc (T.setVm vm₁) hT hW₁⟩) with ⟨v, vm₁, ⟨U', l2, c2, s2⟩, hW₁, X', ⟨g', mk, t, L, e1, e2, hq, h1, hL, h2, h3⟩, st⟩ | ⟨q, vm₁, ⟨U', l2, c2, s2⟩, hW₁, X', ⟨g', mk, t, L, E, ce, e1, e2, hq, hce, hcv, hcl, h1, hL, h2, h3⟩, st⟩
  · dsimp only [Pt.U, Pt.locs, Pt.cells, Pt.slots] at X' e1 e2 h1 h2 h3 st
    subst h1; subst h2; subst h3
    exact Or.inl ⟨v, (T.setVm vm₁).calling g' mk (Value.ref b :: As).toArray, t, U', L, hT, X', hL, e1, e2, hq, st⟩
  · dsimp only [Pt.U, Pt.locs, Pt.cells, Pt.slots] at X' e1 e2 h1 h2 h3 st hcl
    subst h1; subst h2; subst h3
    exact Or.inr ⟨q, (T.setVm vm₁).calling g' mk (Value.ref b :: As).toArray, t, U', L, E, ce, hT, X', hL, e1, e2, hq, hce, hcv, vx_cls hW₁ hcl, st⟩
theorem vx_runS (S : CallFix p m c cc nL s args Ts own) (hM : vx_Met l y ws rm Pc Qc XC mc ms free) (cw : CallB R s args own index y bytes maxL ret ws rm mc ms n ∧ (Cond.static y).before args s = true) (hp : PreS s H Pc As)
    (hg : g.method = m) (hn : As.length = n) (hsize : g.locals.size = nL) (hstack : g.stack = As.reverse ++ rest) (hW : 2 * g.monitorRoom + (rest.map fun v => v.category).sum ≤ 8) (hdg : decode cc g.pc = .ok (.invokestatic index, 3)) (hf : cells + mc ≤ R.cells ∧ slots + ms ≤ R.slots) :
    vx_Run p l e R s m args below meth c H locs cells slots mc ms g rest (Qc As.toArray) XC free := by
  have hK : vx_Back l R p e below s args y 3 8 (PreOf R mc ms Pc) (PostOf Qc mc ms free) (vx_Post XC mc ms free) := vx_callBack cw.1 hM hp.1
  obtain ⟨⟨-, -, -, -, -, -, hcode, hini, hy, hlen, hl⟩, hstt⟩ := cw
  obtain ⟨hx, hb, hml, ho, -⟩ := S
  intro T hT X
  rcases vx_callS X hx (bytes := bytes) (maxL := maxL) (ret := ret) ho hl hstt hini hcode hy hK hg (hsize.trans hml.symm) (argsL := As) (rest := rest) (fun sig h => hn.trans (hlen sig h)) hstack hW (by rw [hb]; exact hdg)
    (fun vm₁ hW₁ => ⟨hf.1, hf.2, hp.2 (T.setVm vm₁) hT hW₁⟩) with ⟨v, vm₁, ⟨U', l2, c2, s2⟩, hW₁, X', ⟨g', mk, t, L, e1, e2, hq, h1, hL, h2, h3⟩, st⟩ | ⟨q, vm₁, ⟨U', l2, c2, s2⟩, hW₁, X', ⟨g', mk, t, L, E, ce, e1, e2, hq, hce, hcv, hcl, h1, hL, h2, h3⟩, st⟩
  · dsimp only [Pt.U, Pt.locs, Pt.cells, Pt.slots] at X' e1 e2 h1 h2 h3 st
    subst h1; subst h2; subst h3
    exact Or.inl ⟨v, (T.setVm vm₁).calling g' mk As.toArray, t, U', L, hT, X', hL, e1, e2, hq, st⟩
  · dsimp only [Pt.U, Pt.locs, Pt.cells, Pt.slots] at X' e1 e2 h1 h2 h3 st hcl
    subst h1; subst h2; subst h3
    exact Or.inr ⟨q, (T.setVm vm₁).calling g' mk As.toArray, t, U', L, E, ce, hT, X', hL, e1, e2, hq, hce, hcv, vx_cls hW₁ hcl, st⟩
end Runs
section Rows
variable {p : Program} {l : Launch} {e : Env} {R : Room} {s : State} {m : MethodId} {args : Array Value} {below : List Frame} {meth : Method} {c : Code} {H : Heap} {locs : List Loc} {cells slots : Nat} {Q : State → Prop}
variable {mc ms : Nat} {free : Addr → Prop} {A0 A1 : Nat → Prop} {H0 : Heap} {a : Array Value} {pc : Nat} {ls : Array Slot} {st0 rest : List Value}
theorem vx_keep {st₀ t T' : State} {L : List Loc} (h0 : st₀.heap = H) (e1 : T'.heap = t.heap) (hS : va_S A0 H0 H locs) (hA : ∀ q, q < H.size → A1 q → A0 q) (hf : ∀ q, free q → A0 q) (hL : ∀ q ∈ L, free q.base) (hF : va_F A1 st₀ t) :
    H.size ≤ T'.heap.size ∧ (∀ q : Nat, q < H.size → ¬ A1 q → T'.heap[q]? = H[q]?) ∧ va_S A0 H0 T'.heap (locs ++ L) := by
  obtain ⟨hz, hk⟩ := hF
  rw [h0] at hz hk
  exact ⟨by rw [e1]; exact hz, fun q h1 h2 => by rw [e1]; exact hk q h1 h2,
    ⟨Nat.le_trans hS.1 (by rw [e1]; exact hz), fun q h1 h2 => by rw [e1, hk q (Nat.lt_of_lt_of_le h1 hS.1) (fun z => h2 (hA q (Nat.lt_of_lt_of_le h1 hS.1) z))]; exact hS.2.1 q h1 h2, fun q hq => by
      rcases List.mem_append.mp hq with h | h
      · exact hS.2.2 q h
      · exact hf _ (hL q h)⟩⟩
theorem vx_calli {S SX : Type} {post : Int32 → S → Prop} {px : SX → Prop} {B : S → State → Prop} {BX : String → SX → State → Prop} {AX : Nat → Prop} (hr : vx_Run p l e R s m args below meth c H locs cells slots mc ms (F0 m pc ls st0) rest (va_Qi post B A1 a) (vx_X px BX AX) free) (hS : va_S A0 H0 H locs) (hA : ∀ q, q < H.size → A1 q → A0 q) (hf : ∀ q, free q → A0 q) (hAX : ∀ q, q < H.size → AX q → A0 q)
    (kx : ∀ (E : String) (ce : Cell) (q9 : Addr) (u : SX) (t : State) (H1 : Heap) (locs1 : List Loc), t.heap = H1 → s.vm.Alike t.vm → px u → BX E u t → H.size ≤ H1.size → (∀ q : Nat, q < H.size → ¬ AX q → H1[q]? = H[q]?) → va_S A0 H0 H1 locs1 → H1[q9]? = some ce → ce.vm = .none → s.vm.findClass E = some ce.cls → vx_W p l e R s m args below meth c H1 locs1 (cells + mc) (slots + ms) Q (F0 m pc ls rest) q9)
    (kk : ∀ (r : Int32) (u : S) (t : State) (H1 : Heap) (locs1 : List Loc), t.heap = H1 → s.vm.Alike t.vm → post r u → B u t → H.size ≤ H1.size → (∀ q : Nat, q < H.size → ¬ A1 q → H1[q]? = H[q]?) → va_S A0 H0 H1 locs1 → W p l e R s m args below meth c H1 locs1 (cells + mc) (slots + ms) Q (F0 m (pc + 3) ls (.int r :: rest))) : W p l e R s m args below meth c H locs cells slots Q (F0 m pc ls st0) := by
  intro T hT X
  rcases hr T hT X with ⟨v, st₀, t, T', L, h0, X', hL, e1, e2, ⟨⟨r, u, hv, hp, hb⟩, hF⟩, st⟩ | ⟨q, st₀, t, T', L, E, ce, h0, X', hL, e1, e2, ⟨u, hp, hb, hF⟩, hce, hcv, hcl, st⟩
  · cases hv
    obtain ⟨k1, k2, k3⟩ := vx_keep h0 e1 hS hA hf hL hF
    obtain ⟨t2, a1, b1⟩ := kk r u t T'.heap (locs ++ L) e1.symm (by rw [← e2]; exact X'.warmed.alike) hp hb k1 k2 k3 T' rfl X'
    exact ⟨t2, st t2 a1, b1⟩
  · obtain ⟨k1, k2, k3⟩ := vx_keep h0 e1 hS hAX hf hL hF
    obtain ⟨t2, a1, b1⟩ := kx E ce q u t T'.heap (locs ++ L) e1.symm (by rw [← e2]; exact X'.warmed.alike) hp hb k1 k2 k3 (by rw [e1]; exact hce) hcv hcl T' rfl X'
    exact ⟨t2, st.trans a1, b1⟩
theorem vx_calll {S SX : Type} {post : Int64 → S → Prop} {px : SX → Prop} {B : S → State → Prop} {BX : String → SX → State → Prop} {AX : Nat → Prop} (hr : vx_Run p l e R s m args below meth c H locs cells slots mc ms (F0 m pc ls st0) rest (va_Ql post B A1 a) (vx_X px BX AX) free) (hS : va_S A0 H0 H locs) (hA : ∀ q, q < H.size → A1 q → A0 q) (hf : ∀ q, free q → A0 q) (hAX : ∀ q, q < H.size → AX q → A0 q)
    (kx : ∀ (E : String) (ce : Cell) (q9 : Addr) (u : SX) (t : State) (H1 : Heap) (locs1 : List Loc), t.heap = H1 → s.vm.Alike t.vm → px u → BX E u t → H.size ≤ H1.size → (∀ q : Nat, q < H.size → ¬ AX q → H1[q]? = H[q]?) → va_S A0 H0 H1 locs1 → H1[q9]? = some ce → ce.vm = .none → s.vm.findClass E = some ce.cls → vx_W p l e R s m args below meth c H1 locs1 (cells + mc) (slots + ms) Q (F0 m pc ls rest) q9)
    (kk : ∀ (r : Int64) (u : S) (t : State) (H1 : Heap) (locs1 : List Loc), t.heap = H1 → s.vm.Alike t.vm → post r u → B u t → H.size ≤ H1.size → (∀ q : Nat, q < H.size → ¬ A1 q → H1[q]? = H[q]?) → va_S A0 H0 H1 locs1 → W p l e R s m args below meth c H1 locs1 (cells + mc) (slots + ms) Q (F0 m (pc + 3) ls (.long r :: rest))) : W p l e R s m args below meth c H locs cells slots Q (F0 m pc ls st0) := by
  intro T hT X
  rcases hr T hT X with ⟨v, st₀, t, T', L, h0, X', hL, e1, e2, ⟨⟨r, u, hv, hp, hb⟩, hF⟩, st⟩ | ⟨q, st₀, t, T', L, E, ce, h0, X', hL, e1, e2, ⟨u, hp, hb, hF⟩, hce, hcv, hcl, st⟩
  · cases hv
    obtain ⟨k1, k2, k3⟩ := vx_keep h0 e1 hS hA hf hL hF
    obtain ⟨t2, a1, b1⟩ := kk r u t T'.heap (locs ++ L) e1.symm (by rw [← e2]; exact X'.warmed.alike) hp hb k1 k2 k3 T' rfl X'
    exact ⟨t2, st t2 a1, b1⟩
  · obtain ⟨k1, k2, k3⟩ := vx_keep h0 e1 hS hAX hf hL hF
    obtain ⟨t2, a1, b1⟩ := kx E ce q u t T'.heap (locs ++ L) e1.symm (by rw [← e2]; exact X'.warmed.alike) hp hb k1 k2 k3 (by rw [e1]; exact hce) hcv hcl T' rfl X'
    exact ⟨t2, st.trans a1, b1⟩
theorem vx_callf {S SX : Type} {post : UInt32 → S → Prop} {px : SX → Prop} {B : S → State → Prop} {BX : String → SX → State → Prop} {AX : Nat → Prop} (hr : vx_Run p l e R s m args below meth c H locs cells slots mc ms (F0 m pc ls st0) rest (va_Qf post B A1 a) (vx_X px BX AX) free) (hS : va_S A0 H0 H locs) (hA : ∀ q, q < H.size → A1 q → A0 q) (hf : ∀ q, free q → A0 q) (hAX : ∀ q, q < H.size → AX q → A0 q)
    (kx : ∀ (E : String) (ce : Cell) (q9 : Addr) (u : SX) (t : State) (H1 : Heap) (locs1 : List Loc), t.heap = H1 → s.vm.Alike t.vm → px u → BX E u t → H.size ≤ H1.size → (∀ q : Nat, q < H.size → ¬ AX q → H1[q]? = H[q]?) → va_S A0 H0 H1 locs1 → H1[q9]? = some ce → ce.vm = .none → s.vm.findClass E = some ce.cls → vx_W p l e R s m args below meth c H1 locs1 (cells + mc) (slots + ms) Q (F0 m pc ls rest) q9)
    (kk : ∀ (r : UInt32) (u : S) (t : State) (H1 : Heap) (locs1 : List Loc), t.heap = H1 → s.vm.Alike t.vm → post r u → B u t → H.size ≤ H1.size → (∀ q : Nat, q < H.size → ¬ A1 q → H1[q]? = H[q]?) → va_S A0 H0 H1 locs1 → W p l e R s m args below meth c H1 locs1 (cells + mc) (slots + ms) Q (F0 m (pc + 3) ls (.float r :: rest))) : W p l e R s m args below meth c H locs cells slots Q (F0 m pc ls st0) := by
  intro T hT X
  rcases hr T hT X with ⟨v, st₀, t, T', L, h0, X', hL, e1, e2, ⟨⟨r, u, hv, hp, hb⟩, hF⟩, st⟩ | ⟨q, st₀, t, T', L, E, ce, h0, X', hL, e1, e2, ⟨u, hp, hb, hF⟩, hce, hcv, hcl, st⟩
  · cases hv
    obtain ⟨k1, k2, k3⟩ := vx_keep h0 e1 hS hA hf hL hF
    obtain ⟨t2, a1, b1⟩ := kk r u t T'.heap (locs ++ L) e1.symm (by rw [← e2]; exact X'.warmed.alike) hp hb k1 k2 k3 T' rfl X'
    exact ⟨t2, st t2 a1, b1⟩
  · obtain ⟨k1, k2, k3⟩ := vx_keep h0 e1 hS hAX hf hL hF
    obtain ⟨t2, a1, b1⟩ := kx E ce q u t T'.heap (locs ++ L) e1.symm (by rw [← e2]; exact X'.warmed.alike) hp hb k1 k2 k3 (by rw [e1]; exact hce) hcv hcl T' rfl X'
    exact ⟨t2, st.trans a1, b1⟩
theorem vx_calld {S SX : Type} {post : UInt64 → S → Prop} {px : SX → Prop} {B : S → State → Prop} {BX : String → SX → State → Prop} {AX : Nat → Prop} (hr : vx_Run p l e R s m args below meth c H locs cells slots mc ms (F0 m pc ls st0) rest (va_Qd post B A1 a) (vx_X px BX AX) free) (hS : va_S A0 H0 H locs) (hA : ∀ q, q < H.size → A1 q → A0 q) (hf : ∀ q, free q → A0 q) (hAX : ∀ q, q < H.size → AX q → A0 q)
    (kx : ∀ (E : String) (ce : Cell) (q9 : Addr) (u : SX) (t : State) (H1 : Heap) (locs1 : List Loc), t.heap = H1 → s.vm.Alike t.vm → px u → BX E u t → H.size ≤ H1.size → (∀ q : Nat, q < H.size → ¬ AX q → H1[q]? = H[q]?) → va_S A0 H0 H1 locs1 → H1[q9]? = some ce → ce.vm = .none → s.vm.findClass E = some ce.cls → vx_W p l e R s m args below meth c H1 locs1 (cells + mc) (slots + ms) Q (F0 m pc ls rest) q9)
    (kk : ∀ (r : UInt64) (u : S) (t : State) (H1 : Heap) (locs1 : List Loc), t.heap = H1 → s.vm.Alike t.vm → post r u → B u t → H.size ≤ H1.size → (∀ q : Nat, q < H.size → ¬ A1 q → H1[q]? = H[q]?) → va_S A0 H0 H1 locs1 → W p l e R s m args below meth c H1 locs1 (cells + mc) (slots + ms) Q (F0 m (pc + 3) ls (.double r :: rest))) : W p l e R s m args below meth c H locs cells slots Q (F0 m pc ls st0) := by
  intro T hT X
  rcases hr T hT X with ⟨v, st₀, t, T', L, h0, X', hL, e1, e2, ⟨⟨r, u, hv, hp, hb⟩, hF⟩, st⟩ | ⟨q, st₀, t, T', L, E, ce, h0, X', hL, e1, e2, ⟨u, hp, hb, hF⟩, hce, hcv, hcl, st⟩
  · cases hv
    obtain ⟨k1, k2, k3⟩ := vx_keep h0 e1 hS hA hf hL hF
    obtain ⟨t2, a1, b1⟩ := kk r u t T'.heap (locs ++ L) e1.symm (by rw [← e2]; exact X'.warmed.alike) hp hb k1 k2 k3 T' rfl X'
    exact ⟨t2, st t2 a1, b1⟩
  · obtain ⟨k1, k2, k3⟩ := vx_keep h0 e1 hS hAX hf hL hF
    obtain ⟨t2, a1, b1⟩ := kx E ce q u t T'.heap (locs ++ L) e1.symm (by rw [← e2]; exact X'.warmed.alike) hp hb k1 k2 k3 (by rw [e1]; exact hce) hcv hcl T' rfl X'
    exact ⟨t2, st.trans a1, b1⟩
theorem vx_callv {S SX : Type} {post : S → Prop} {px : SX → Prop} {B : S → State → Prop} {BX : String → SX → State → Prop} {AX : Nat → Prop} (hr : vx_Run p l e R s m args below meth c H locs cells slots mc ms (F0 m pc ls st0) rest (va_Qv post B A1 a) (vx_X px BX AX) free) (hS : va_S A0 H0 H locs) (hA : ∀ q, q < H.size → A1 q → A0 q) (hf : ∀ q, free q → A0 q) (hAX : ∀ q, q < H.size → AX q → A0 q)
    (kx : ∀ (E : String) (ce : Cell) (q9 : Addr) (u : SX) (t : State) (H1 : Heap) (locs1 : List Loc), t.heap = H1 → s.vm.Alike t.vm → px u → BX E u t → H.size ≤ H1.size → (∀ q : Nat, q < H.size → ¬ AX q → H1[q]? = H[q]?) → va_S A0 H0 H1 locs1 → H1[q9]? = some ce → ce.vm = .none → s.vm.findClass E = some ce.cls → vx_W p l e R s m args below meth c H1 locs1 (cells + mc) (slots + ms) Q (F0 m pc ls rest) q9)
    (kk : ∀ (u : S) (t : State) (H1 : Heap) (locs1 : List Loc), t.heap = H1 → s.vm.Alike t.vm → post u → B u t → H.size ≤ H1.size → (∀ q : Nat, q < H.size → ¬ A1 q → H1[q]? = H[q]?) → va_S A0 H0 H1 locs1 → W p l e R s m args below meth c H1 locs1 (cells + mc) (slots + ms) Q (F0 m (pc + 3) ls (rest))) : W p l e R s m args below meth c H locs cells slots Q (F0 m pc ls st0) := by
  intro T hT X
  rcases hr T hT X with ⟨v, st₀, t, T', L, h0, X', hL, e1, e2, ⟨⟨u, hv, hp, hb⟩, hF⟩, st⟩ | ⟨q, st₀, t, T', L, E, ce, h0, X', hL, e1, e2, ⟨u, hp, hb, hF⟩, hce, hcv, hcl, st⟩
  · cases hv
    obtain ⟨k1, k2, k3⟩ := vx_keep h0 e1 hS hA hf hL hF
    obtain ⟨t2, a1, b1⟩ := kk u t T'.heap (locs ++ L) e1.symm (by rw [← e2]; exact X'.warmed.alike) hp hb k1 k2 k3 T' rfl X'
    exact ⟨t2, st t2 a1, b1⟩
  · obtain ⟨k1, k2, k3⟩ := vx_keep h0 e1 hS hAX hf hL hF
    obtain ⟨t2, a1, b1⟩ := kx E ce q u t T'.heap (locs ++ L) e1.symm (by rw [← e2]; exact X'.warmed.alike) hp hb k1 k2 k3 (by rw [e1]; exact hce) hcv hcl T' rfl X'
    exact ⟨t2, st.trans a1, b1⟩
/-- caught by the row x of this method's table; the rows ahead don't take it -/
theorem vx_catch {own name : String} {E : String} {ce : Cell} {q : Addr} (hown : s.vm.findClass own = some m.cls) (pre : List ExceptionTableEntry) (x : ExceptionTableEntry) (suf : List ExceptionTableEntry) (hsplit : c.exceptionTable.toList = pre ++ x :: suf)
    (hpass : ∀ z ∈ pre, covers z pc = false ∨ (z.catchType ≠ 0 ∧ ∃ nm : String, (Cond.classLink own z.catchType nm).before args s = true ∧ va_Nc E nm s)) (hx : covers x pc = true) (h0 : x.catchType ≠ 0)
    (hlink : (Cond.classLink own x.catchType name).before args s = true) (hcast : (Cond.castable E name).before args s = true) (hcell : H[q]? = some ce) (hv : ce.vm = .none) (hcl : s.vm.findClass E = some ce.cls)
    (kk : W p l e R s m args below meth c H locs cells slots Q (F0 m x.handlerPc ls [.ref q])) : vx_W p l e R s m args below meth c H locs cells slots Q (F0 m pc ls rest) q := by
  intro T hT X
  have hpl : e.platform.magicAccessors = ({} : Platform).magicAccessors := by rw [X.admits.platform]
  obtain ⟨c3, c4, hc3, hc4, hasg⟩ := Cond.castable_spec hcast
  cases Option.some.inj (hc3.symm.trans hcl)
  obtain ⟨c5, hc5, hcl5⟩ := Cond.classLink_spec hown hlink e.platform hpl
  cases Option.some.inj (hc4.symm.trans hc5)
  obtain ⟨vm', X', st⟩ := X.thenCaughtThrough q (g := F0 m pc ls rest) rfl (Steps.refl _) (by rw [hT]; exact hcell) (by rw [hv]; rfl) (by obtain ⟨k9, h9, -⟩ := Vm.findClass_spec hcl; exact ⟨k9, h9⟩) pre x suf hsplit
    (fun z hz => by
      rcases hpass z hz with h | ⟨hz0, nm, hl1, hn1⟩
      · exact Or.inl h
      · obtain ⟨c6, hc6, hcl6⟩ := Cond.classLink_spec hown hl1 e.platform hpl
        obtain ⟨a8, b8, h1, h2, h3⟩ := hn1
        cases Option.some.inj (h1.symm.trans hcl)
        cases Option.some.inj (h2.symm.trans hc6)
        exact Or.inr ⟨hz0, _, hcl6, h3⟩) hx (Or.inr ⟨h0, c4, hcl5, hasg⟩)
  obtain ⟨t, a1, b1⟩ := kk (T.setVm vm') hT X'
  exact ⟨t, st.trans a1, b1⟩
end Rows
section Ends
variable {p : Program} {l : Launch} {e : Env} {R : Room} {s : State} {m : MethodId} {args : Array Value} {below : List Frame} {meth : Method} {c : Code} {H : Heap} {locs : List Loc} {cells slots : Nat} {Q : State → Prop}
variable {mc ms : Nat} {free : Addr → Prop} {A0 A1 : Nat → Prop} {H0 : Heap} {a : Array Value} {ls : Array Slot} {st0 rest : List Value}
variable {Qc : Array Value → State → Outcome → State → Prop} {XC : String → State → State → Prop}
/-- what a body that may throw owes at its end -/
def vx_MQ (below : List Frame) (Qc : Array Value → State → Outcome → State → Prop) (XC : String → State → State → Prop) (a : Array Value) (s : State) (mc ms : Nat) (free : Addr → Prop) : State → Prop := fun t =>
  ∃ o, t.status = .running ∧ Ended t below o ∧ vx_Q Qc XC mc ms free a s o t
theorem vx_ret {g : JFrame} {mc ms : Nat} (k : W p l e R s m args below meth c H locs cells slots (MQ below Qc args s mc ms free) g) : W p l e R s m args below meth c H locs cells slots (vx_MQ below Qc XC args s mc ms free) g := by
  intro T hT X
  obtain ⟨t, a1, o, b1, b2, b3, b4⟩ := k T hT X
  exact ⟨t, a1, o, b1, b2, Or.inl ⟨b3, b4⟩⟩
/-- not caught here: it goes on to the caller -/
theorem vx_widen {g : JFrame} {q : Addr} {k n : Nat} (h1 : cells ≤ k) (h2 : slots ≤ n) (kk : vx_W p l e R s m args below meth c H locs k n Q g q) : vx_W p l e R s m args below meth c H locs cells slots Q g q := fun T hT X => kk T hT (stand_widen X h1 h2)
theorem vx_out {pc : Nat} {E : String} {ce : Cell} {q : Addr} {mc ms : Nat} (hout : ∀ x ∈ c.exceptionTable.toList, covers x pc = false) (hlocks : meth.locks = false) (hcell : H[q]? = some ce) (hv : ce.vm = .none) (hcl : s.vm.findClass E = some ce.cls)
    (hx : ∀ t : State, t.heap = H → s.vm.Alike t.vm → XC E s t) (hf : ∀ z ∈ locs, free z.base) (hc : cells ≤ mc) (hs : slots ≤ ms) :
    vx_W p l e R s m args below meth c H locs cells slots (vx_MQ below Qc XC args s mc ms free) (F0 m pc ls rest) q := by
  intro T hT X
  obtain ⟨st1, hrun, hend, hW, hsm⟩ := X.leaveThrown q (g := F0 m pc ls rest) rfl rfl rfl hout hlocks
  have hcell9 : (T.setFrames (.throwing q :: below)).heap[q]? = some ce := by
    show T.heap[q]? = some ce
    rw [hT]; exact hcell
  exact ⟨_, st1, .threw q, hrun, hend, Or.inr ⟨q, rfl, E, ce, locs, hx _ hT hW.alike, hcell9, hv, hcl, hW, hsm.mono hc hs, hf⟩⟩
theorem vx_frame {U : State} {k n : Nat} (h : s.sameButNew ({ U with vm := s.vm } : State) locs k n) : s.heap.size ≤ U.heap.size ∧ ∀ q : Nat, q < s.heap.size → (∀ z ∈ locs, z.base ≠ q) → U.heap[q]? = s.heap[q]? := by
  obtain ⟨-, h2, -, -, -, h6⟩ := h
  refine ⟨h2, fun q hq hz => ?_⟩
  obtain ⟨c9, e1, e2, e3, e4⟩ := h6 q _ (Array.getElem?_eq_getElem hq)
  have hs : c9.slots = (s.heap[q]).slots := Array.ext_getElem? fun i => e4 i fun hm => hz _ hm rfl
  have h9 : c9 = s.heap[q] := by
    rw [hs] at e2
    exact e2
  have e5 : U.heap[q]? = some c9 := e1
  rw [e5, h9, Array.getElem?_eq_getElem hq]
/-- the words of a throw but the four that speak of the heap -/
def vx_no (w : Cond) : Bool := decide (w ≠ .isRef (.static Bundle.tN "UNASSIGNED_STACK" Bundle.steD)) && decide (w ≠ .isRef (.static Bundle.tN "SUPPRESSED_SENTINEL" Bundle.listD)) && decide (w ≠ .laysStatic Bundle.tN "UNASSIGNED_STACK" Bundle.steD) && decide (w ≠ .laysStatic Bundle.tN "SUPPRESSED_SENTINEL" Bundle.listD)
def vx_at0 (own : String) (ic : Nat) (X : String) (names : List String) : List Cond := (Bundle.ownAtoms0 own ic X names).filter vx_no
def vx_atS (own : String) (ic : Nat) (X : String) (names : List String) : List Cond := (Bundle.ownAtoms own ic X names).filter vx_no
/-- a word that the tables alone decide, or a good one -/
def vx_ot (w : Cond) : Bool := w.onTables || goodWord w
theorem vx_ot_at {args a' : Array Value} {s U : State} {w : Cond} (hW : s.WarmedH U.vm) (hvm : s.vm = U.vm) (hg : vx_ot w = true) (h : w.before args s = true) : w.before a' U = true := by
  simp only [vx_ot, Bool.or_eq_true] at hg
  rcases hg with hg | hg
  · exact va_tabs hg hvm h
  · exact word_at hW (good_of_word hg) h
/-- a list's words: the good ones out of the method's own list, the others by premises of their own -/
theorem vx_hat {args : Array Value} {s : State} {L B : List Cond} (h1 : ∀ w ∈ L.filter goodWord, w.before args s = true) (h2 : ∀ w ∈ L.filter (fun w => !goodWord w), w ∈ B) (h3 : ∀ w ∈ B, w.before args s = true) : ∀ w ∈ L, w.before args s = true := by
  intro w hw
  by_cases g : goodWord w = true
  · exact h1 w (List.mem_filter.mpr ⟨hw, g⟩)
  · refine h3 w (h2 w (List.mem_filter.mpr ⟨hw, ?_⟩))
    show (!goodWord w) = true
    cases hgw : goodWord w
    · rfl
    · exact absurd hgw g
theorem vx_c {args : Array Value} {s : State} {w : Cond} {B : List Cond} (h : w.before args s = true) (t : ∀ w ∈ B, w.before args s = true) : ∀ w' ∈ w :: B, w'.before args s = true := fun w' h' => (List.mem_cons.mp h').elim (fun e => by rw [e]; exact h) (t w')
theorem vx_n {args : Array Value} {s : State} : ∀ w ∈ ([] : List Cond), w.before args s = true := fun _ h => nomatch h
theorem vx_own {args : Array Value} {s : State} {L : List Cond} (h1 : ∀ w ∈ L.filter vx_no, w.before args s = true)
    (hU : (Cond.isRef (.static Bundle.tN "UNASSIGNED_STACK" Bundle.steD)).before args s = true) (hN : (Cond.isRef (.static Bundle.tN "SUPPRESSED_SENTINEL" Bundle.listD)).before args s = true)
    (lU : (Cond.laysStatic Bundle.tN "UNASSIGNED_STACK" Bundle.steD).before args s = true) (lN : (Cond.laysStatic Bundle.tN "SUPPRESSED_SENTINEL" Bundle.listD).before args s = true) : ∀ w ∈ L, w.before args s = true := by
  intro w hw
  by_cases e1 : w = .isRef (.static Bundle.tN "UNASSIGNED_STACK" Bundle.steD)
  · rw [e1]; exact hU
  · by_cases e2 : w = .isRef (.static Bundle.tN "SUPPRESSED_SENTINEL" Bundle.listD)
    · rw [e2]; exact hN
    · by_cases e3 : w = .laysStatic Bundle.tN "UNASSIGNED_STACK" Bundle.steD
      · rw [e3]; exact lU
      · by_cases e4 : w = .laysStatic Bundle.tN "SUPPRESSED_SENTINEL" Bundle.listD
        · rw [e4]; exact lN
        · exact h1 w (List.mem_filter.mpr ⟨hw, by unfold vx_no; rw [decide_eq_true e1, decide_eq_true e2, decide_eq_true e3, decide_eq_true e4]; rfl⟩)
/-- where a static field lies, its class's statics cell in H -/
def vx_L (C n d : String) (A : Nat → Prop) (U : State) (H : Heap) : Prop := ∃ (c : ClassId) (k : Class) (i : Nat) (f : Field) (a : Nat) (cell : Cell), U.vm.findClass C = some c ∧ U.fieldFound? C n d = some (c, k, i, f) ∧ f.isStatic = true ∧ k.statics = some a ∧ H[a]? = some cell ∧ cell.vm.isStatics = true ∧ cell.cls = c ∧ f.slot < cell.slots.size ∧ k.staticTypes[f.slot]? = some f.type ∧ ¬ A a
theorem vx_L.moved {C n d : String} {A : Nat → Prop} {u U : State} {H : Heap} (hvm : u.vm.Alike U.vm) (h : vx_L C n d A u H) : vx_L C n d A U H := by
  obtain ⟨c, k, i, f, a, cell, h1, h2, h3, h4, h5, h6, h7, h8, h9, h10⟩ := h
  obtain ⟨k', hi', he⟩ := State.fieldFound?_setVm hvm h2
  exact ⟨c, k', i, f, a, cell, by rw [hvm.findClass]; exact h1, hi', h3, by rw [he]; exact h4, h5, h6, h7, h8, by rw [he]; exact h9, h10⟩
theorem vx_L.kept {C n d : String} {A : Nat → Prop} {U : State} {H H1 : Heap} (h : vx_L C n d A U H) (hq : ∀ a : Nat, a < H.size → ¬ A a → H1[a]? = H[a]?) : vx_L C n d A U H1 := by
  obtain ⟨c, k, i, f, a, cell, h1, h2, h3, h4, h5, h6, h7, h8, h9, h10⟩ := h
  exact ⟨c, k, i, f, a, cell, h1, h2, h3, h4, by rw [hq a (Array.getElem?_eq_some_iff.mp h5).1 h10]; exact h5, h6, h7, h8, h9, h10⟩
theorem vx_L.narrow {C n d : String} {A B : Nat → Prop} {U : State} {H : Heap} (h : vx_L C n d A U H) (hAB : ∀ q, B q → A q) : vx_L C n d B U H := by
  obtain ⟨c, k, i, f, a, cell, h1, h2, h3, h4, h5, h6, h7, h8, h9, h10⟩ := h
  exact ⟨c, k, i, f, a, cell, h1, h2, h3, h4, h5, h6, h7, h8, h9, fun z => h10 (hAB _ z)⟩
theorem vx_L.word {C n d : String} {A : Nat → Prop} {s : State} {args : Array Value} (h : vx_L C n d A s s.heap) : (Cond.laysStatic C n d).before args s = true := by
  obtain ⟨c, k, i, f, a, cell, h1, h2, h3, h4, h5, h6, h7, h8, h9, -⟩ := h
  show (Cond.laysStatic C n d).holds args s none s [] = true
  exact Cond.laysStatic_of h1 h2 h3 h4 h5 h6 h7 h8 h9
/-- .. and what it holds: null or some reference -/
def vx_Zq (C n d : String) (A : Nat → Prop) (U : State) (H : Heap) : Prop := va_Zq C n d A U H ∧ vx_L C n d A U H
theorem vx_Zq.moved {C n d : String} {A : Nat → Prop} {u U : State} {H : Heap} (hvm : u.vm.Alike U.vm) (h : vx_Zq C n d A u H) : vx_Zq C n d A U H := ⟨va_Zq.moved hvm h.1, vx_L.moved hvm h.2⟩
theorem vx_Zq.kept {C n d : String} {A : Nat → Prop} {U : State} {H H1 : Heap} (h : vx_Zq C n d A U H) (hq : ∀ a : Nat, a < H.size → ¬ A a → H1[a]? = H[a]?) : vx_Zq C n d A U H1 := ⟨va_Zq.kept h.1 hq, vx_L.kept h.2 hq⟩
theorem vx_Zq.narrow {C n d : String} {A B : Nat → Prop} {U : State} {H : Heap} (h : vx_Zq C n d A U H) (hAB : ∀ q, B q → A q) : vx_Zq C n d B U H := ⟨va_Zq.narrow h.1 hAB, vx_L.narrow h.2 hAB⟩
theorem vx_Zqof {args : Array Value} {s : State} {C n d : String} {A : Nat → Prop} (hl : (Cond.laysStatic C n d).before args s = true) (hini : (Cond.initialized C).before args s = true) (h : (Cond.isRef (.static C n d)).before args s = true) (hA : ∀ a : Nat, a < s.heap.size → ¬ A a) : vx_Zq C n d A s s.heap := by
  refine ⟨va_Zqof hl hini h hA, ?_⟩
  obtain ⟨c, k, i, f, a, cell, h1, h2, h3, h4, h5, h6, h7, h8, h9⟩ := Cond.laysStatic_spec hl
  exact ⟨c, k, i, f, a, cell, h1, h2, h3, h4, h5, h6, h7, h8, h9, hA a (Array.getElem?_eq_some_iff.mp h5).1⟩
theorem vx_isRef {C n d : String} {v : Value} {A : Nat → Prop} {s : State} {args : Array Value} (h : va_Z C n d v A s s.heap) (hv : v.isRef = true) : (Cond.isRef (.static C n d)).before args s = true := by
  obtain ⟨cf, kf, fi, f, a, cell, h1, h2, h3, h4, h5, h6, h7, -⟩ := h
  have he : (Term.static C n d).eval args s none [] s = some v := by
    simp [Term.eval, State.fieldNamed?, h1, h2, h4, h5, h6, h7]
  simp only [Cond.before, Cond.holds, Cond.value, he]
  cases v <;> simp_all [Value.isRef]
theorem vx_isRefq {C n d : String} {A : Nat → Prop} {s : State} {args : Array Value} (h : va_Zq C n d A s s.heap) : (Cond.isRef (.static C n d)).before args s = true := by
  rcases h with h | ⟨t, h⟩
  · exact vx_isRef h rfl
  · exact vx_isRef h rfl
/-- the same frame, seen from here: as if the method were called anew in this heap -/
theorem vx_rebase {T : State} (X : Stand p l e R s m args below meth c T locs cells slots) {R' : Room} (hf : R'.frames ≤ R.frames) (hl : R'.locals ≤ R.locals) (hc : cells + R'.cells ≤ R.cells) (hs : slots + R'.slots ≤ R.slots) :
    Stand p l e R' ((T.setVm s.vm).setFrames (.invoking m args :: below)) m args below meth c T [] 0 0 := by
  have htop : (T.setVm s.vm).topJava?.isSome := X.here.top
  have hF : ((T.setVm s.vm).setFrames (.invoking m args :: below)).frames = .invoking m args :: below := State.frames_setFrames _ (State.cur_lt_of_top htop)
  obtain ⟨g₀, hg0⟩ := Option.isSome_iff_exists.mp htop
  obtain ⟨r, hr⟩ := State.topJava?_eq_some.mp hg0
  have hl9 : e.platform.stackLimits (T.setVm s.vm).me = e.platform.stackLimits s.me := X.limits
  have hb9 : (T.setVm s.vm).me.stackBytes = s.me.stackBytes := X.bytes
  refine ⟨X.admits, X.cas, X.clock, hF, ?_, X.hears, X.method, X.code, X.here, X.tail, X.warmed, ?_, ?_, ?_⟩
  · have h := X.room
    have hU : ((T.setVm s.vm).setFrames (.invoking m args :: below)).localsInUse = s.localsInUse := by
      rw [State.localsInUse_invoking hF (meth := meth) (c := c) X.method X.code, State.localsInUse_invoking X.frames X.method X.code]
    simp only [State.hasRoom, Bool.and_eq_true, decide_eq_true_eq] at h ⊢
    obtain ⟨⟨⟨⟨h1, h2, h3, h4, h5, h6⟩, h7⟩, h8⟩, h9⟩ := h
    rw [X.frames, List.length_cons] at h2 h3
    have q1 := X.heapSize
    have q2 := X.used
    simp only [hF, hU, List.length_cons, State.stackLimits_setFrames, State.stackBytes_setFrames, hl9, hb9]
    refine ⟨⟨⟨⟨by omega, by omega, by omega, by omega, by omega, h6⟩, ?_⟩, ?_⟩, X.book⟩
    · show T.heap.size + R'.cells ≤ e.platform.maxCells
      omega
    · show T.slotsUsed + R'.slots ≤ e.platform.maxSlots
      omega
  · rw [State.stackLimits_setFrames]; rfl
  · rw [State.stackBytes_setFrames]; rfl
  · refine ⟨?_, Nat.le_refl _, Nat.le_refl _, ?_, ?_, fun a c9 h9 => ⟨c9, h9, rfl, rfl, fun _ _ => rfl⟩⟩
    · obtain ⟨t, ht, -⟩ := State.frames_cons hr
      show T.setVm s.vm = { ((T.setVm s.vm).setFrames (.invoking m args :: below)).setFrames (T.setVm s.vm).frames with heap := T.heap, slotsUsed := T.slotsUsed }
      rw [State.setFrames_setFrames, State.setFrames_self ht]
      rfl
    · show T.slotsUsed = T.slotsUsed + ((T.heap.toList.drop T.heap.size).map (·.slots.size)).sum
      rw [List.drop_eq_nil_of_le (Nat.le_of_eq Array.length_toList)]
      rfl
    · show ((T.heap.toList.drop T.heap.size).map (·.slots.size)).sum ≤ 0
      rw [List.drop_eq_nil_of_le (Nat.le_of_eq Array.length_toList)]
      exact Nat.le_refl _
/-- 'throw new E()': new; dup; invokespecial; athrow -/
theorem vx_throw0 {cc : ByteArray} {pc : Nat} (hexec : p.tables.exec = Jvm.exec) (hb : c.code = cc) (hl : l.stackTraces = false) {own cls : String} {names : List String} {ik ic mc ms : Nat} {A : Nat → Prop}
    (hown : s.vm.findClass own = some m.cls) (hcls : Bundle.fit cls = true) (hnames : ∀ n ∈ names, Bundle.fit n = true)
    (hk : (Cond.classLink own ik cls).before args s = true) (hini : (Cond.initialized cls).before args s = true) (hat : ∀ w ∈ vx_at0 own ic cls names, w.before args s = true)
    (hgood : ∀ w ∈ Cond.classLink own ik cls :: Cond.initialized cls :: vx_at0 own ic cls names, vx_ot w = true)
    (hU : vx_Zq Bundle.tN "UNASSIGNED_STACK" Bundle.steD A s s.heap) (hN : vx_Zq Bundle.tN "SUPPRESSED_SENTINEL" Bundle.listD A s s.heap) (hS : va_S A s.heap H locs) (hsize : ls.size = c.maxLocals)
    (d0 : decode cc pc = .ok (.new ik, 3)) (d3 : decode cc (pc + 3) = .ok (.dup, 1)) (d4 : decode cc (pc + 4) = .ok (.invokespecial ic, 3)) (d7 : decode cc (pc + 7) = .ok (.athrow, 1))
    (hout : ∀ x ∈ c.exceptionTable.toList, covers x (pc + 7) = false)
    (hRframes : names.length + 3 < R.frames) (hRlocals : (rest.map fun v => v.category).sum + (13 * (names.length + 1) + 42) ≤ R.locals) (hRcells : cells + 1 ≤ R.cells) (hRslots : slots + 6 ≤ R.slots) (hlocks : meth.locks = false)
    (hx : ∀ t : State, s.vm.Alike t.vm → H.size ≤ t.heap.size → (∀ q : Nat, q < H.size → t.heap[q]? = H[q]?) → XC cls s t)
    (hf : ∀ z ∈ locs, free z.base) (hc : cells + 1 ≤ mc) (hs : slots + 6 ≤ ms) :
    W p l e R s m args below meth c H locs cells slots (vx_MQ below Qc XC args s mc ms free) (F0 m pc ls rest) := by
  intro T hT X
  have htr : e.platform.stackTraces = false := (show e.platform.stackTraces = l.stackTraces by rw [X.admits.platform]).trans hl
  have Y := vx_rebase X (R' := { frames := R.frames, locals := R.locals, cells := 1, slots := 6 }) (Nat.le_refl _) (Nat.le_refl _) hRcells hRslots
  obtain ⟨s', hA⟩ : ∃ z, z = (T.setVm s.vm).setFrames (.invoking m args :: below) := ⟨_, rfl⟩
  rw [← hA] at Y
  have hvm : s'.vm = s.vm := by rw [hA]; rfl
  have hhp : s'.heap = H := by rw [hA]; exact hT
  have hW0 : s.WarmedH s'.vm := by rw [hvm]; exact State.WarmedH.refl s
  have hat' : ∀ w ∈ vx_at0 own ic cls names, w.before args s' = true := fun w hw => vx_ot_at hW0 hvm.symm (hgood w (List.mem_cons_of_mem _ (List.mem_cons_of_mem _ hw))) (hat w hw)
  have hk' : (Cond.classLink own ik cls).before args s' = true := vx_ot_at hW0 hvm.symm (hgood _ List.mem_cons_self) hk
  have hini' : (Cond.initialized cls).before args s' = true := vx_ot_at hW0 hvm.symm (hgood _ (List.mem_cons_of_mem _ List.mem_cons_self)) hini
  have hU' : vx_Zq Bundle.tN "UNASSIGNED_STACK" Bundle.steD A s' s'.heap := by rw [hhp]; exact vx_Zq.moved hW0.alike (hU.kept hS.2.1)
  have hN' : vx_Zq Bundle.tN "SUPPRESSED_SENTINEL" Bundle.listD A s' s'.heap := by rw [hhp]; exact vx_Zq.moved hW0.alike (hN.kept hS.2.1)
  have h : ∀ w ∈ Bundle.ownAtoms0 own ic cls names, w.before args s' = true := vx_own hat' (vx_isRefq hU'.1) (vx_isRefq hN'.1) hU'.2.word hN'.2.word
  have hown' : s'.vm.findClass own = some m.cls := by rw [hvm]; exact hown
  have hins : (Cond.instantiable cls 6).before args s' = true := h _ (by simp [Bundle.ownAtoms0])
  obtain ⟨vm₁, cX, kX, hfX, hkX, -, -, X₁, st1⟩ := Y.newCold hexec (own := own) (C := cls) (index := ik) (n := 6) hown' hk' hins hini'
    (g := F0 m pc ls rest) rfl (by rw [hb]; exact d0) (Nat.le_refl _) (Nat.le_refl _)
  generalize hT1 : (T.setVm vm₁).pushCell { cls := cX, slots := kX.instanceTypes.map defaultValue, vm := .none } = T1 at X₁ st1
  have hcat : (Value.ref T.heap.size).category = 1 := rfl
  have hcellA : T1.heap[T.heap.size]? = some (freshCell cX kX) := by rw [← hT1]; exact State.heap_pushCell_size _ _
  have d3' : decode c.code (pc + 3) = .ok (.dup, 1) := by rw [hb]; exact d3
  obtain ⟨U, hsteps, hrun, hend, hW, hsame, ce, hce, hO⟩ := X₁.ctorThrow0 hexec htr (own := own) (cls := cls) (names := names) (ic := ic) hown' hcls hnames h (fun x hx => nomatch hx) hfX hkX hcellA (by rw [hhp, hT]; exact Nat.le_refl _)
    (g := { method := m, pc := pc + 4, locals := ls, stack := .ref T.heap.size :: .ref T.heap.size :: rest, locked := none }) rfl hsize rfl rfl (rest := rest) rfl
    (by rw [hb]; exact d4) (by rw [hb]; exact d7) hout hRframes (by simp only [List.map_cons, List.sum_cons, hcat]; omega) hlocks
  obtain ⟨f1, f2⟩ := vx_frame hsame
  rw [hhp] at f1 f2
  have hWs : s.WarmedH U.vm := State.WarmedH.trans hW0 hW
  have hcl : s.vm.findClass cls = some ce.cls := by
    have h9 := hO.cls
    rw [hvm] at h9
    exact h9
  have hall : s.sameButNew ({ U with vm := s.vm } : State) locs mc ms := by
    subst hA
    obtain ⟨e1, e2⟩ := hsame
    rw [State.setFrames_setFrames] at e1
    have h2 : (T.setVm s.vm).sameButNew ({ U with vm := s.vm } : State) [] (0 + 1) (0 + 6) := ⟨e1, e2⟩
    have h3 := X.same.trans h2
    rw [List.append_nil] at h3
    exact h3.mono hc hs
  refine ⟨U, ?_, .threw T.heap.size, hrun, hend, Or.inr ⟨T.heap.size, rfl, cls, ce, locs, hx U hWs.alike f1 (fun q hq => f2 q hq (fun z hz => nomatch hz)), hce, hO.vm, hcl, hWs, hall, hf⟩⟩
  refine st1 _ ?_
  show Steps p.tables e below (T1.setTop { method := m, pc := pc + 3, locals := ls, stack := .ref T.heap.size :: rest, locked := none }) _
  jvm_step X₁.here [X₁.here.top, hexec, d3', Value.category]
  exact hsteps
/-- 'throw new E("text")': new; dup; ldc; invokespecial; athrow -/
theorem vx_throwS {cc : ByteArray} {pc : Nat} (hexec : p.tables.exec = Jvm.exec) (hb : c.code = cc) (hl : l.stackTraces = false) {own cls text : String} {names : List String} {ik is ic mc ms sa : Nat} {A : Nat → Prop}
    (hown : s.vm.findClass own = some m.cls) (hcls : Bundle.fit cls = true) (hnames : ∀ n ∈ names, Bundle.fit n = true)
    (hk : (Cond.classLink own ik cls).before args s = true) (hini : (Cond.initialized cls).before args s = true) (hstr : vk_R own is text sa s) (hat : ∀ w ∈ vx_atS own ic cls names, w.before args s = true)
    (hgood : ∀ w ∈ Cond.classLink own ik cls :: Cond.initialized cls :: vx_atS own ic cls names, vx_ot w = true)
    (hU : vx_Zq Bundle.tN "UNASSIGNED_STACK" Bundle.steD A s s.heap) (hN : vx_Zq Bundle.tN "SUPPRESSED_SENTINEL" Bundle.listD A s s.heap) (hS : va_S A s.heap H locs) (hsize : ls.size = c.maxLocals)
    (d0 : decode cc pc = .ok (.new ik, 3)) (d3 : decode cc (pc + 3) = .ok (.dup, 1)) (d4 : decode cc (pc + 4) = .ok (.ldc is, 2)) (d6 : decode cc (pc + 6) = .ok (.invokespecial ic, 3)) (d9 : decode cc (pc + 9) = .ok (.athrow, 1))
    (hout : ∀ x ∈ c.exceptionTable.toList, covers x (pc + 9) = false)
    (hRframes : names.length + 3 < R.frames) (hRlocals : (rest.map fun v => v.category).sum + (13 * (names.length + 1) + 43) ≤ R.locals) (hRcells : cells + 1 ≤ R.cells) (hRslots : slots + 6 ≤ R.slots) (hlocks : meth.locks = false)
    (hx : ∀ t : State, s.vm.Alike t.vm → H.size ≤ t.heap.size → (∀ q : Nat, q < H.size → t.heap[q]? = H[q]?) → XC cls s t)
    (hf : ∀ z ∈ locs, free z.base) (hc : cells + 1 ≤ mc) (hs : slots + 6 ≤ ms) :
    W p l e R s m args below meth c H locs cells slots (vx_MQ below Qc XC args s mc ms free) (F0 m pc ls rest) := by
  intro T hT X
  have htr : e.platform.stackTraces = false := (show e.platform.stackTraces = l.stackTraces by rw [X.admits.platform]).trans hl
  have Y := vx_rebase X (R' := { frames := R.frames, locals := R.locals, cells := 1, slots := 6 }) (Nat.le_refl _) (Nat.le_refl _) hRcells hRslots
  obtain ⟨s', hA⟩ : ∃ z, z = (T.setVm s.vm).setFrames (.invoking m args :: below) := ⟨_, rfl⟩
  rw [← hA] at Y
  have hvm : s'.vm = s.vm := by rw [hA]; rfl
  have hhp : s'.heap = H := by rw [hA]; exact hT
  have hW0 : s.WarmedH s'.vm := by rw [hvm]; exact State.WarmedH.refl s
  have hat' : ∀ w ∈ vx_atS own ic cls names, w.before args s' = true := fun w hw => vx_ot_at hW0 hvm.symm (hgood w (List.mem_cons_of_mem _ (List.mem_cons_of_mem _ hw))) (hat w hw)
  have hk' : (Cond.classLink own ik cls).before args s' = true := vx_ot_at hW0 hvm.symm (hgood _ List.mem_cons_self) hk
  have hini' : (Cond.initialized cls).before args s' = true := vx_ot_at hW0 hvm.symm (hgood _ (List.mem_cons_of_mem _ List.mem_cons_self)) hini
  have hU' : vx_Zq Bundle.tN "UNASSIGNED_STACK" Bundle.steD A s' s'.heap := by rw [hhp]; exact vx_Zq.moved hW0.alike (hU.kept hS.2.1)
  have hN' : vx_Zq Bundle.tN "SUPPRESSED_SENTINEL" Bundle.listD A s' s'.heap := by rw [hhp]; exact vx_Zq.moved hW0.alike (hN.kept hS.2.1)
  have h : ∀ w ∈ Bundle.ownAtoms own ic cls names, w.before args s' = true := vx_own hat' (vx_isRefq hU'.1) (vx_isRefq hN'.1) hU'.2.word hN'.2.word
  have hown' : s'.vm.findClass own = some m.cls := by rw [hvm]; exact hown
  have hins : (Cond.instantiable cls 6).before args s' = true := h _ (by simp [Bundle.ownAtoms])
  obtain ⟨vm₁, cX, kX, hfX, hkX, -, -, X₁, st1⟩ := Y.newCold hexec (own := own) (C := cls) (index := ik) (n := 6) hown' hk' hins hini'
    (g := F0 m pc ls rest) rfl (by rw [hb]; exact d0) (Nat.le_refl _) (Nat.le_refl _)
  generalize hT1 : (T.setVm vm₁).pushCell { cls := cX, slots := kX.instanceTypes.map defaultValue, vm := .none } = T1 at X₁ st1
  have hcat : (Value.ref T.heap.size).category = 1 := rfl
  have hcellA : T1.heap[T.heap.size]? = some (freshCell cX kX) := by rw [← hT1]; exact State.heap_pushCell_size _ _
  have d3' : decode c.code (pc + 3) = .ok (.dup, 1) := by rw [hb]; exact d3
  have d4' : decode c.code (pc + 4) = .ok (.ldc is, 2) := by rw [hb]; exact d4
  have hstr' : vk_R own is text sa s' := vk_R.warm hW0 hstr
  obtain ⟨U, hsteps, hrun, hend, hW, hsame, ce, hce, hO⟩ := X₁.ctorThrowS hexec htr (own := own) (cls := cls) (names := names) (ic := ic) hown' hcls hnames h (fun x hx => nomatch hx) hfX hkX hcellA (by rw [hhp, hT]; exact Nat.le_refl _) (msg := .ref sa) rfl
    (g := { method := m, pc := pc + 6, locals := ls, stack := .ref sa :: .ref T.heap.size :: .ref T.heap.size :: rest, locked := none }) rfl hsize rfl rfl (rest := rest) rfl
    (by rw [hb]; exact d6) (by rw [hb]; exact d9) hout hRframes (by simp only [List.map_cons, List.sum_cons, hcat]; omega) hlocks
  obtain ⟨f1, f2⟩ := vx_frame hsame
  rw [hhp] at f1 f2
  have hWs : s.WarmedH U.vm := State.WarmedH.trans hW0 hW
  have hcl : s.vm.findClass cls = some ce.cls := by
    have h9 := hO.cls
    rw [hvm] at h9
    exact h9
  have hall : s.sameButNew ({ U with vm := s.vm } : State) locs mc ms := by
    subst hA
    obtain ⟨e1, e2⟩ := hsame
    rw [State.setFrames_setFrames] at e1
    have h2 : (T.setVm s.vm).sameButNew ({ U with vm := s.vm } : State) [] (0 + 1) (0 + 6) := ⟨e1, e2⟩
    have h3 := X.same.trans h2
    rw [List.append_nil] at h3
    exact h3.mono hc hs
  refine ⟨U, ?_, .threw T.heap.size, hrun, hend, Or.inr ⟨T.heap.size, rfl, cls, ce, locs, hx U hWs.alike f1 (fun q hq => f2 q hq (fun z hz => nomatch hz)), hce, hO.vm, hcl, hWs, hall, hf⟩⟩
  refine st1 _ ?_
  show Steps p.tables e below (T1.setTop { method := m, pc := pc + 3, locals := ls, stack := .ref T.heap.size :: rest, locked := none }) _
  jvm_step X₁.here [X₁.here.top, hexec, d3', Value.category]
  exact X₁.ldcString hexec (own := own) (text := text) (index := is) (a := sa) hown' hstr'.1 hstr'.2
    (g := { method := m, pc := pc + 4, locals := ls, stack := .ref T.heap.size :: .ref T.heap.size :: rest, locked := none }) rfl d4' _ hsteps
/-- 'throw new E("text")', the text by a wide index -/
theorem vx_throwSW {cc : ByteArray} {pc : Nat} (hexec : p.tables.exec = Jvm.exec) (hb : c.code = cc) (hl : l.stackTraces = false) {own cls text : String} {names : List String} {ik is ic mc ms sa : Nat} {A : Nat → Prop}
    (hown : s.vm.findClass own = some m.cls) (hcls : Bundle.fit cls = true) (hnames : ∀ n ∈ names, Bundle.fit n = true)
    (hk : (Cond.classLink own ik cls).before args s = true) (hini : (Cond.initialized cls).before args s = true) (hstr : vk_R own is text sa s) (hat : ∀ w ∈ vx_atS own ic cls names, w.before args s = true)
    (hgood : ∀ w ∈ Cond.classLink own ik cls :: Cond.initialized cls :: vx_atS own ic cls names, vx_ot w = true)
    (hU : vx_Zq Bundle.tN "UNASSIGNED_STACK" Bundle.steD A s s.heap) (hN : vx_Zq Bundle.tN "SUPPRESSED_SENTINEL" Bundle.listD A s s.heap) (hS : va_S A s.heap H locs) (hsize : ls.size = c.maxLocals)
    (d0 : decode cc pc = .ok (.new ik, 3)) (d3 : decode cc (pc + 3) = .ok (.dup, 1)) (d4 : decode cc (pc + 4) = .ok (.ldc_w is, 3)) (d7 : decode cc (pc + 7) = .ok (.invokespecial ic, 3)) (d10 : decode cc (pc + 10) = .ok (.athrow, 1))
    (hout : ∀ x ∈ c.exceptionTable.toList, covers x (pc + 10) = false)
    (hRframes : names.length + 3 < R.frames) (hRlocals : (rest.map fun v => v.category).sum + (13 * (names.length + 1) + 43) ≤ R.locals) (hRcells : cells + 1 ≤ R.cells) (hRslots : slots + 6 ≤ R.slots) (hlocks : meth.locks = false)
    (hx : ∀ t : State, s.vm.Alike t.vm → H.size ≤ t.heap.size → (∀ q : Nat, q < H.size → t.heap[q]? = H[q]?) → XC cls s t)
    (hf : ∀ z ∈ locs, free z.base) (hc : cells + 1 ≤ mc) (hs : slots + 6 ≤ ms) :
    W p l e R s m args below meth c H locs cells slots (vx_MQ below Qc XC args s mc ms free) (F0 m pc ls rest) := by
  intro T hT X
  have htr : e.platform.stackTraces = false := (show e.platform.stackTraces = l.stackTraces by rw [X.admits.platform]).trans hl
  have Y := vx_rebase X (R' := { frames := R.frames, locals := R.locals, cells := 1, slots := 6 }) (Nat.le_refl _) (Nat.le_refl _) hRcells hRslots
  obtain ⟨s', hA⟩ : ∃ z, z = (T.setVm s.vm).setFrames (.invoking m args :: below) := ⟨_, rfl⟩
  rw [← hA] at Y
  have hvm : s'.vm = s.vm := by rw [hA]; rfl
  have hhp : s'.heap = H := by rw [hA]; exact hT
  have hW0 : s.WarmedH s'.vm := by rw [hvm]; exact State.WarmedH.refl s
  have hat' : ∀ w ∈ vx_atS own ic cls names, w.before args s' = true := fun w hw => vx_ot_at hW0 hvm.symm (hgood w (List.mem_cons_of_mem _ (List.mem_cons_of_mem _ hw))) (hat w hw)
  have hk' : (Cond.classLink own ik cls).before args s' = true := vx_ot_at hW0 hvm.symm (hgood _ List.mem_cons_self) hk
  have hini' : (Cond.initialized cls).before args s' = true := vx_ot_at hW0 hvm.symm (hgood _ (List.mem_cons_of_mem _ List.mem_cons_self)) hini
  have hU' : vx_Zq Bundle.tN "UNASSIGNED_STACK" Bundle.steD A s' s'.heap := by rw [hhp]; exact vx_Zq.moved hW0.alike (hU.kept hS.2.1)
  have hN' : vx_Zq Bundle.tN "SUPPRESSED_SENTINEL" Bundle.listD A s' s'.heap := by rw [hhp]; exact vx_Zq.moved hW0.alike (hN.kept hS.2.1)
  have h : ∀ w ∈ Bundle.ownAtoms own ic cls names, w.before args s' = true := vx_own hat' (vx_isRefq hU'.1) (vx_isRefq hN'.1) hU'.2.word hN'.2.word
  have hown' : s'.vm.findClass own = some m.cls := by rw [hvm]; exact hown
  have hins : (Cond.instantiable cls 6).before args s' = true := h _ (by simp [Bundle.ownAtoms])
  obtain ⟨vm₁, cX, kX, hfX, hkX, -, -, X₁, st1⟩ := Y.newCold hexec (own := own) (C := cls) (index := ik) (n := 6) hown' hk' hins hini'
    (g := F0 m pc ls rest) rfl (by rw [hb]; exact d0) (Nat.le_refl _) (Nat.le_refl _)
  generalize hT1 : (T.setVm vm₁).pushCell { cls := cX, slots := kX.instanceTypes.map defaultValue, vm := .none } = T1 at X₁ st1
  have hcat : (Value.ref T.heap.size).category = 1 := rfl
  have hcellA : T1.heap[T.heap.size]? = some (freshCell cX kX) := by rw [← hT1]; exact State.heap_pushCell_size _ _
  have d3' : decode c.code (pc + 3) = .ok (.dup, 1) := by rw [hb]; exact d3
  have d4' : decode c.code (pc + 4) = .ok (.ldc_w is, 3) := by rw [hb]; exact d4
  have hstr' : vk_R own is text sa s' := vk_R.warm hW0 hstr
  obtain ⟨U, hsteps, hrun, hend, hW, hsame, ce, hce, hO⟩ := X₁.ctorThrowS hexec htr (own := own) (cls := cls) (names := names) (ic := ic) hown' hcls hnames h (fun x hx => nomatch hx) hfX hkX hcellA (by rw [hhp, hT]; exact Nat.le_refl _) (msg := .ref sa) rfl
    (g := { method := m, pc := pc + 7, locals := ls, stack := .ref sa :: .ref T.heap.size :: .ref T.heap.size :: rest, locked := none }) rfl hsize rfl rfl (rest := rest) rfl
    (by rw [hb]; exact d7) (by rw [hb]; exact d10) hout hRframes (by simp only [List.map_cons, List.sum_cons, hcat]; omega) hlocks
  obtain ⟨f1, f2⟩ := vx_frame hsame
  rw [hhp] at f1 f2
  have hWs : s.WarmedH U.vm := State.WarmedH.trans hW0 hW
  have hcl : s.vm.findClass cls = some ce.cls := by
    have h9 := hO.cls
    rw [hvm] at h9
    exact h9
  have hall : s.sameButNew ({ U with vm := s.vm } : State) locs mc ms := by
    subst hA
    obtain ⟨e1, e2⟩ := hsame
    rw [State.setFrames_setFrames] at e1
    have h2 : (T.setVm s.vm).sameButNew ({ U with vm := s.vm } : State) [] (0 + 1) (0 + 6) := ⟨e1, e2⟩
    have h3 := X.same.trans h2
    rw [List.append_nil] at h3
    exact h3.mono hc hs
  refine ⟨U, ?_, .threw T.heap.size, hrun, hend, Or.inr ⟨T.heap.size, rfl, cls, ce, locs, hx U hWs.alike f1 (fun q hq => f2 q hq (fun z hz => nomatch hz)), hce, hO.vm, hcl, hWs, hall, hf⟩⟩
  refine st1 _ ?_
  show Steps p.tables e below (T1.setTop { method := m, pc := pc + 3, locals := ls, stack := .ref T.heap.size :: rest, locked := none }) _
  jvm_step X₁.here [X₁.here.top, hexec, d3', Value.category]
  exact X₁.ldcStringW hexec (own := own) (text := text) (index := is) (a := sa) hown' hstr'.1 hstr'.2
    (g := { method := m, pc := pc + 4, locals := ls, stack := .ref T.heap.size :: .ref T.heap.size :: rest, locked := none }) rfl d4' _ hsteps
end Ends
section Bodies
variable {l : Launch}
theorem vx_ofW {y : MethodName} {ws ws' : List Cond} {rm : Room} {Pc : Array Value → State → Prop} {Qc : Array Value → State → Outcome → State → Prop} {XC : String → State → State → Prop} {mc ms : Nat} {free : Addr → Prop} {cc : ByteArray} {maxL : Nat} {ret : Option FieldType}
    (hy : plainName y.cls = true) (hw : ws = Cond.code y cc maxL ret :: ws')
    (body : ∀ p e s m args below meth c s₁, BodyLoose p l y (headSpec ws rm) cc maxL ret e s m args below meth c s₁ → c.maxLocals = maxL → (∀ x ∈ c.exceptionTable.toList, False) → Pc args s →
      W p l e (headSpec ws rm).room s m args below meth c s.heap [] 0 0 (vx_MQ below Qc XC args s mc ms free) (entryFrame m args maxL)) : vx_Met l y ws rm Pc Qc XC mc ms free := by
  refine MetFree.of_bodyS (code := cc) (maxLocals := maxL) (ret := ret) hy ?_ ?_
  · intro args s m h hn
    obtain ⟨meth, c, h1, h2, h3, h4, h5, h6, -, -⟩ := Cond.code_spec hn (atoms_spec (ws := ws) h _ (by rw [hw]; exact List.mem_cons_self))
    exact ⟨meth, c, h1, h2, h3, h4, h5, h6⟩
  · intro p e s m args below meth c s₁ B hml hP _
    have hh0 : s₁.heap = s.heap := by rw [B.state]; rfl
    have ht : ∀ x ∈ c.exceptionTable.toList, False := by
      obtain ⟨meth9, c9, h1, h2, -, -, -, -, h7, -⟩ := Cond.code_spec B.named (atoms_spec (ws := ws) B.pre _ (by rw [hw]; exact List.mem_cons_self))
      cases Option.some.inj (h1.symm.trans B.method)
      cases Option.some.inj (h2.symm.trans (Stand.of_body B).code)
      intro x hx
      rw [Array.isEmpty_iff.mp h7] at hx
      cases hx
    obtain ⟨t, a1, o, b1, b2, b3⟩ := body p e s m args below meth c s₁ B hml ht hP s₁ hh0 (Stand.of_body B)
    exact ⟨t, o, a1, b1, b2, b3⟩
/-- the table of a body with handlers -/
theorem vx_table {p : Program} {x y : MethodName} {S : Spec} {cc bytes : ByteArray} {maxL maxL' : Nat} {ret ret' : Option FieldType} {e : Env} {s s₁ : State} {m : MethodId} {args : Array Value} {below : List Frame} {meth : Method} {c : Code} {hh : List (Nat × Nat × Nat × Nat)}
    (B : BodyLoose p l y S cc maxL ret e s m args below meth c s₁) (h : (Cond.codeWith y bytes maxL' ret' hh).before args s = true) : c.exceptionTable.toList = tableOf hh := by
  obtain ⟨m9, meth9, c9, hn9, h1, h2, -, -, h6, -⟩ := Cond.codeWith_spec h
  cases Option.some.inj (hn9.symm.trans B.named)
  cases Option.some.inj (h1.symm.trans B.method)
  cases Option.some.inj (h2.symm.trans (Stand.of_body B).code)
  rw [← h6, table_eq]
end Bodies
end VXA
/-! ===== END ===== -/
/-! ===== BEGIN a static call of a method with an exception table ===== -/
section VXS
variable {p : Program} {l : Launch} {e : Env} {R : Room} {s : State} {m : MethodId} {args : Array Value} {below : List Frame} {meth : Method} {c : Code} {T : State} {H : Heap} {locs : List Loc} {cells slots : Nat}
abbrev vx_CSW (R : Room) (s : State) (args : Array Value) (own : String) (index : Nat) (y : MethodName) (bytes : ByteArray) (maxL : Nat) (ret : Option FieldType) (hh : List (Nat × Nat × Nat × Nat)) (ws : List Cond) (rm : Room) (mc ms n : Nat) : Prop :=
  (rm.cells = mc ∧ rm.slots = ms ∧ rm.frames + 1 ≤ R.frames ∧ 8 + (maxL + 11) + rm.locals ≤ R.locals ∧ (∀ w ∈ ws, ∀ (a' : Array Value) (U : State), s.WarmedH U.vm → w.before a' U = true) ∧ Cond.codeWith y bytes maxL ret hh ∈ ws) ∧
  (Cond.codeWith y bytes maxL ret hh).before args s = true ∧ (Cond.initialized y.cls).before args s = true ∧ (y.cls ≠ "java/lang/invoke/MethodHandle" ∧ y.cls ≠ "java/lang/invoke/VarHandle") ∧
  (∀ sig, parseMethodDescriptor y.desc = some sig → n = sig.parameters.length) ∧ (Cond.methodLink own index y).before args s = true ∧ (Cond.static y).before args s = true
theorem vx_cwSW {own : String} {index maxL mc ms : Nat} {y : MethodName} {bytes : ByteArray} {ret : Option FieldType} {hh : List (Nat × Nat × Nat × Nat)} {Ts ws ws' : List Cond} {rm : Room} (n : Nat) (ht : ∀ w ∈ Ts, w.before args s = true) (hT : GoodIn Ts (va_wsS own index y ws)) (hw : ws = Cond.codeWith y bytes maxL ret hh :: ws') (hrc : rm.cells = mc) (hrs : rm.slots = ms)
    (hd : y.cls ≠ "java/lang/invoke/MethodHandle" ∧ y.cls ≠ "java/lang/invoke/VarHandle" ∧ (parseMethodDescriptor y.desc).map (fun d => d.parameters.length) = some n) (hR : rm.frames + 1 ≤ R.frames ∧ 8 + (maxL + 11) + rm.locals ≤ R.locals) :
    vx_CSW R s args own index y bytes maxL ret hh ws rm mc ms n := by
  have ok : ∀ w ∈ va_wsS own index y ws, w.before args s = true := fun w h => ht w (hT w h).1
  have hG : GoodIn Ts ws := fun w h => hT w (by unfold va_wsS; exact List.mem_append_right _ h)
  have hc : Cond.codeWith y bytes maxL ret hh ∈ ws := by rw [hw]; exact List.mem_cons_self
  refine ⟨⟨hrc, hrs, hR.1, hR.2, pay_in ht hG, hc⟩, ht _ (hG _ hc).1, ok _ (by simp [va_wsS]), ⟨hd.1, hd.2.1⟩, fun sig h => ?_, ok _ (by simp [va_wsS]), ok _ (by simp [va_wsS])⟩
  have h2 := hd.2.2
  rw [h] at h2
  exact (Option.some.inj h2).symm
theorem vx_callSW (X : Stand p l e R s m args below meth c T locs cells slots) (hexec : p.tables.exec = Jvm.exec) {own : String} {index : Nat} {y : MethodName} {bytes : ByteArray} {maxL : Nat} {ret : Option FieldType} {hh : List (Nat × Nat × Nat × Nat)}
    (hown : s.vm.findClass own = some m.cls) (hlink : (Cond.methodLink own index y).before args s = true) (hstat : (Cond.static y).before args s = true) (hinit : (Cond.initialized y.cls).before args s = true)
    (hcode : (Cond.codeWith y bytes maxL ret hh).before args s = true) (hy : y.cls ≠ "java/lang/invoke/MethodHandle" ∧ y.cls ≠ "java/lang/invoke/VarHandle")
    {W9 : Nat} {Pre : Pt → Array Value → Prop} {Post : Pt → Array Value → Option Value → Pt → Prop} (hK : Back l R p e below s args y 3 W9 Pre Post)
    {g : JFrame} (hg : g.method = m) (hsize : g.locals.size = c.maxLocals) {argsL rest : List Value} (hlen : ∀ sig, parseMethodDescriptor y.desc = some sig → argsL.length = sig.parameters.length)
    (hstack : g.stack = argsL.reverse ++ rest) (hW : 2 * g.monitorRoom + (rest.map fun v => v.category).sum ≤ W9) (hdg : decode c.code g.pc = .ok (.invokestatic index, 3))
    (hpre : ∀ vm₁, s.WarmedH vm₁ → Pre ⟨T.setVm vm₁, locs, cells, slots⟩ argsL.toArray) :
    ∃ (v : Option Value) (vm₁ : Vm) (B : Pt), s.WarmedH vm₁ ∧ Stand p l e R s m args below meth c B.U B.locs B.cells B.slots ∧ Post ⟨T.setVm vm₁, locs, cells, slots⟩ argsL.toArray v B ∧
      ∀ target, Steps p.tables e below (B.U.setTop { g with pc := g.pc + 3, stack := v.toList ++ rest }) target → Steps p.tables e below (T.setTop g) target := by
  obtain ⟨mk, methM, cM, hnamed, hmethM, -, -, -, -, -, -, hsigM⟩ := Cond.codeWith_spec hcode
  have hstatic : methM.isStatic = true := Cond.static_spec hnamed hmethM hstat
  obtain ⟨kP, hkP, -⟩ := className_of_methodNamed hnamed
  have hinitP : kP.init = .initialized := Cond.initialized_spec (findClass_of_methodNamed hnamed) hkP hinit
  obtain ⟨vm₁, X₁, hstep₁⟩ := X.invokestatic hexec hown hlink hnamed hmethM hstatic hkP hinitP hy (g := g) hg (argsL := argsL) (rest := rest) (hlen _ hsigM) hstack hdg
  obtain ⟨v, B, X', hpost, hsteps⟩ := hK m meth c ⟨T.setVm vm₁, locs, cells, slots⟩ { g with stack := rest } (.invokestatic index) mk argsL.toArray X₁ hg hsize hdg hW (X₁.named hnamed) (hpre vm₁ X₁.warmed)
  exact ⟨v, vm₁, B, X₁.warmed, X', hpost, fun target h => hstep₁ _ fun acts => by rw [doInvoke_state]; exact hsteps.trans h⟩
theorem vx_runSW {y : MethodName} {bytes cc : ByteArray} {maxL nL mc ms n index : Nat} {ret : Option FieldType} {hh : List (Nat × Nat × Nat × Nat)} {ws : List Cond} {rm : Room} {Pc : Array Value → State → Prop} {Qc : Array Value → State → Outcome → State → Prop} {free : Addr → Prop} {Ts : List Cond} {own : String} {As rest : List Value} {g : JFrame}
    (S : CallFix p m c cc nL s args Ts own) (hM : Met l y ws rm Pc Qc mc ms free) (cw : vx_CSW R s args own index y bytes maxL ret hh ws rm mc ms n) (hp : PreS s H Pc As)
    (hg : g.method = m) (hn : As.length = n) (hsize : g.locals.size = nL) (hstack : g.stack = As.reverse ++ rest) (hW : 2 * g.monitorRoom + (rest.map fun v => v.category).sum ≤ 8) (hdg : decode cc g.pc = .ok (.invokestatic index, 3)) (hf : cells + mc ≤ R.cells ∧ slots + ms ≤ R.slots) :
    va_Run p l e R s m args below meth c H locs cells slots mc ms g rest (Qc As.toArray) (free) := by
  obtain ⟨⟨hrc, hrs, hfr, hlo, hws, hcw⟩, hcode, hini, hy, hlen, hl, hstt⟩ := cw
  have hK : Back l R p e below s args y 3 8 (PreOf R mc ms Pc) (PostOf Qc mc ms free) := va_backW (hh := hh) (bytes := bytes) (maxL := maxL) (ret := ret) hM hp.1 hrc hrs hfr hlo hws hcw (fun a' U hW => word_at hW (Or.inl (by first | rfl | simp [Cond.onTables, Cond.keeps, Cond.steady])) hini)
  obtain ⟨hx, hb, hml, ho, -⟩ := S
  intro T hT X
  obtain ⟨v, vm₁, ⟨U', l2, c2, s2⟩, hW₁, X', ⟨g', mk, t, L, e1, e2, hq, h1, hL, h2, h3⟩, st⟩ := vx_callSW X hx (hh := hh) (bytes := bytes) (maxL := maxL) (ret := ret) ho hl hstt hini hcode hy hK hg (hsize.trans hml.symm) (argsL := As) (rest := rest) (fun sig h => hn.trans (hlen sig h)) hstack hW (by rw [hb]; exact hdg)
    (fun vm₁ hW₁ => ⟨hf.1, hf.2, hp.2 (T.setVm vm₁) hT hW₁⟩)
  dsimp only [Pt.U, Pt.locs, Pt.cells, Pt.slots] at X' e1 e2 h1 h2 h3 st
  subst h1; subst h2; subst h3
  exact ⟨v, (T.setVm vm₁).calling g' mk As.toArray, t, U', L, hT, X', hL, e1, e2, hq, st⟩
/-- not caught here, past rows that name other classes: it goes on to the caller -/
theorem vx_outP {p : Program} {l : Launch} {e : Env} {R : Room} {s : State} {m : MethodId} {args : Array Value} {below : List Frame} {meth : Method} {c : Code} {H : Heap} {locs : List Loc} {cells slots : Nat} {free : Addr → Prop} {ls : Array Slot} {rest : List Value} {Qc : Array Value → State → Outcome → State → Prop} {XC : String → State → State → Prop}
    {pc : Nat} {own E : String} {ce : Cell} {q : Addr} {mc ms : Nat} (hown : s.vm.findClass own = some m.cls) (hlocks : meth.locks = false)
    (hpass : ∀ z ∈ c.exceptionTable.toList, covers z pc = false ∨ (z.catchType ≠ 0 ∧ ∃ nm : String, (Cond.classLink own z.catchType nm).before args s = true ∧ va_Nc E nm s)) (hcell : H[q]? = some ce) (hv : ce.vm = .none) (hcl : s.vm.findClass E = some ce.cls)
    (hx : ∀ t : State, t.heap = H → s.vm.Alike t.vm → XC E s t) (hf : ∀ z ∈ locs, free z.base) (hc : cells ≤ mc) (hs : slots ≤ ms) :
    vx_W p l e R s m args below meth c H locs cells slots (vx_MQ below Qc XC args s mc ms free) (F0 m pc ls rest) q := by
  intro T hT X
  have hpl : e.platform.magicAccessors = ({} : Platform).magicAccessors := by rw [X.admits.platform]
  obtain ⟨vm', hW', X', st⟩ := X.outThrough hlocks q (g := F0 m pc ls rest) rfl rfl rfl (cell := ce) (by rw [hT]; exact hcell) (by rw [hv]; rfl)
    (by obtain ⟨k9, h9, -⟩ := Vm.findClass_spec hcl; exact ⟨k9, h9⟩) (fun z hz => by
      rcases hpass z hz with h | ⟨hz0, nm, hl1, hn1⟩
      · exact Or.inl h
      · obtain ⟨c6, hc6, hcl6⟩ := Cond.classLink_spec hown hl1 e.platform hpl
        obtain ⟨a8, b8, h1, h2, h3⟩ := hn1
        cases Option.some.inj (h1.symm.trans hcl)
        cases Option.some.inj (h2.symm.trans hc6)
        exact Or.inr ⟨hz0, _, hcl6, h3⟩)
  obtain ⟨g₀, hfr⟩ := X'.frames_eq
  have hcell9 : ((T.setVm vm').setFrames (.throwing q :: below)).heap[q]? = some ce := by
    show T.heap[q]? = some ce
    rw [hT]; exact hcell
  have hend : Ended ((T.setVm vm').setFrames (.throwing q :: below)) below (.threw q) := State.frames_setFrames _ (State.cur_lt_of_frames hfr)
  refine ⟨(T.setVm vm').setFrames (.throwing q :: below), ?_, .threw q, X'.here.running, hend, Or.inr ⟨q, rfl, E, ce, locs, hx _ hT (X'.ends _).1.alike, hcell9, hv, hcl, (X'.ends _).1, (X'.ends _).2.mono hc hs, hf⟩⟩
  rw [X.pushThrowing_eq]
  exact st
/-- a thing of a world lies in the heap -/
theorem vx_lt {D : va_G} {cl : List vw_C} {ws : va_W} {H1 : Heap} (h : va_P D cl ws H1) {k : Nat} {q : Nat × va_E} (hk : ws[k]? = some q) : q.1 < H1.size := (h k q hk).lt
end VXS
/-! ===== END ===== -/
/-! ===== BEGIN methods with a table of their own: called by a name, returning or throwing ===== -/
section VXH
/-! vx_backW, vx_callVX, vx_callSX, vx_callVW, vx_runVW, vx_runVX, vx_runSX, vx_ofWH follow the same proofs as their sisters above (Free/Laws.lean, Shelf42/LK1.lean); vx_outP calls Shelf42/NT130.lean (outThrough). -/
section
variable {l : Launch} {R : Room} {p : Program} {e : Env} {below : List Frame} {s : State} {sargs : Array Value} {y : MethodName} {len W9 : Nat}
theorem vx_backW {ws : List Cond} {rm : Room} {Pc : Array Value → State → Prop} {Qc : Array Value → State → Outcome → State → Prop} {XC : String → State → State → Prop} {mc ms : Nat} {free : Addr → Prop} {bytes : ByteArray} {maxL : Nat} {ret : Option FieldType} {hh : List (Nat × Nat × Nat × Nat)}
    (hM : vx_Met l y ws rm Pc Qc XC mc ms free) (hblind : FrameBlind Pc) (hrc : rm.cells = mc) (hrs : rm.slots = ms)
    (hframes : rm.frames + 1 ≤ R.frames) (hlocals : W9 + (maxL + 11) + rm.locals ≤ R.locals)
    (hws : ∀ w ∈ ws, ∀ a' U, s.WarmedH U.vm → w.before a' U = true) (hcode : Cond.codeWith y bytes maxL ret hh ∈ ws) (hinit : ∀ a' U, s.WarmedH U.vm → (Cond.initialized y.cls).before a' U = true) :
    vx_Back l R p e below s sargs y len W9 (PreOf R mc ms Pc) (PostOf Qc mc ms free) (vx_Post XC mc ms free) := by
  intro m meth c A g ig mk a X hg hsize hdg hW hn hp
  have h1 : (headSpec ws rm).pre.before a A.U = true := atoms_intro fun w hw => hws w hw _ _ X.warmed
  have h2 : (Cond.codeWith y bytes maxL ret hh).before a A.U = true := hws _ hcode _ _ X.warmed
  have h3 : (Cond.initialized y.cls).before a A.U = true := hinit _ _ X.warmed
  have h4 : A.cells + (headSpec ws rm).room.cells ≤ R.cells := by rw [show (headSpec ws rm).room.cells = mc from hrc]; exact hp.1
  have h5 : A.slots + (headSpec ws rm).room.slots ≤ R.slots := by rw [show (headSpec ws rm).room.slots = ms from hrs]; exact hp.2.1
  have hPc : Pc a (A.U.calling g mk a) := hblind _ _ _ _ hp.2.2
  obtain ⟨U, Ls, c0, s0⟩ := A
  dsimp only [Pt.U, Pt.locs, Pt.cells, Pt.slots] at h1 h2 h3 h4 h5 X hn hPc ⊢
  obtain ⟨m9, methY, cY, hn9, hmY, hcY, -, hlY, -⟩ := Cond.codeWith_spec h2
  cases Option.some.inj (hn9.symm.trans hn)
  obtain ⟨kY, hkY, -⟩ := className_of_methodNamed hn
  have hinitY : kY.init = .initialized := Cond.initialized_spec (findClass_of_methodNamed hn) hkY h3
  have h : At U g.method c below := by rw [hg]; exact X.here
  have hlocals9 : W9 + (maxL + 11) + (headSpec ws rm).room.locals ≤ R.locals := hlocals
  have happ : (headSpec ws rm).appliesLoose y e.platform (U.calling g mk a) = true :=
    Spec.appliesLoose_calling (g := g) h hdg hn hkY hinitY
      (X.room_calling (g := g) (R' := (headSpec ws rm).room) hsize hmY hcY hframes (by rw [hlY]; omega) h4 h5) h1
  obtain ⟨mid, hmid⟩ := h.above
  have hfr : (U.setTop g).frames = (.java g :: mid) ++ below := by rw [State.frames_setTop' g h.top, hmid]; rfl
  obtain ⟨o, s₂, hsteps, -, hend, hq⟩ := Steps.callFree hM p X.admits X.cas X.clock (acts := []) hfr happ hPc trivial
  have hq' : vx_Q Qc XC mc ms free a (U.calling g mk a) o s₂ := hq
  rw [State.frames_setTop' g h.top] at hend
  obtain ⟨g₀, hg0⟩ := Option.isSome_iff_exists.mp h.top
  obtain ⟨r, hr⟩ := State.topJava?_eq_some.mp hg0
  have hr' : (({ U with heap := s₂.heap, slotsUsed := s₂.slotsUsed } : State).setVm s₂.vm).frames = .java g₀ :: r := hr
  rcases hq' with ⟨hqc, L, hfe, hL⟩ | ⟨q, rfl, E, ce, L, hx, hce, hcv, hcl, hW₂, hsm, hL⟩
  · obtain ⟨⟨v, rfl⟩, hW₂, e2, q2, q3, q4, q5, q6⟩ := id hfe
    have e3 : s₂ = ({ (U.calling g mk a).setFrames s₂.frames with heap := s₂.heap, slotsUsed := s₂.slotsUsed } : State).setVm s₂.vm := by
      have : s₂ = ({ s₂ with vm := (U.calling g mk a).vm } : State).setVm s₂.vm := rfl
      rw [e2] at this
      exact this
    obtain ⟨c₂, i₂, len₂, hc₂, hd₂, hf₂⟩ := hend
    have hW' : U.WarmedH s₂.vm := hW₂
    have hcc : c₂ = c := by
      have h1 : s₂.code? g.method = U.code? g.method := by
        rw [State.code?_eq, State.code?_eq, hW'.alike.method?]
      exact Option.some.inj (hc₂.symm.trans (h1.trans h.code))
    subst hcc
    have hlen : len₂ = len := by rw [hdg] at hd₂; cases hd₂; rfl
    subst hlen
    have hs₂ : s₂ = (({ U with heap := s₂.heap, slotsUsed := s₂.slotsUsed } : State).setVm s₂.vm).setTop { g with pc := g.pc + len₂, stack := v.toList ++ g.stack } := by
      refine e3.trans ?_
      rw [hf₂, State.calling_eq h.top, State.setFrames_setFrames, State.setTop_of_frames _ hr', hr]
      rfl
    have hsame : U.sameButNew ({ U with heap := s₂.heap, slotsUsed := s₂.slotsUsed } : State) L mc ms := by
      refine ⟨?_, q2, q3, q4, q5, q6⟩
      obtain ⟨t, ht, -⟩ := State.frames_cons hr
      show ({ U with heap := s₂.heap, slotsUsed := s₂.slotsUsed } : State) = { U.setFrames U.frames with heap := s₂.heap, slotsUsed := s₂.slotsUsed }
      rw [State.setFrames_self ht]
    subst hg
    refine Or.inl ⟨v, ⟨(({ U with heap := s₂.heap, slotsUsed := s₂.slotsUsed } : State).setVm s₂.vm), Ls ++ L, c0 + mc, s0 + ms⟩,
      ⟨X.admits, X.cas, X.clock, X.frames, X.room, X.hears, X.method, X.code, (X.here.setHeapUsed s₂.heap s₂.slotsUsed).setVm hW'.alike, X.tail, State.WarmedH.trans X.warmed hW', X.limits, X.bytes, X.same.trans (hsame.setVm s.vm)⟩,
      ⟨g, mk, s₂, L, rfl, rfl, hqc, rfl, hL, rfl, rfl⟩, ?_⟩
    show Steps p.tables e below _ ((({ U with heap := s₂.heap, slotsUsed := s₂.slotsUsed } : State).setVm s₂.vm).setTop { g with pc := g.pc + len₂, stack := v.toList ++ g.stack })
    rw [← hs₂]
    exact hsteps
  · obtain ⟨e2, q2, q3, q4, q5, q6⟩ := id hsm
    have e3 : s₂ = ({ (U.calling g mk a).setFrames s₂.frames with heap := s₂.heap, slotsUsed := s₂.slotsUsed } : State).setVm s₂.vm := by
      have : s₂ = ({ s₂ with vm := (U.calling g mk a).vm } : State).setVm s₂.vm := rfl
      rw [e2] at this
      exact this
    have hf₂ : s₂.frames = .throwing q :: .java g :: U.frames.tail := hend
    have hW' : U.WarmedH s₂.vm := hW₂
    have hs₂ : s₂ = ((({ U with heap := s₂.heap, slotsUsed := s₂.slotsUsed } : State).setVm s₂.vm).setTop g).pushFrame (.throwing q) := by
      refine e3.trans ?_
      rw [hf₂, State.calling_eq h.top, State.setFrames_setFrames, State.pushFrame, State.frames_setTop _ hr', State.setTop_of_frames _ hr', State.setFrames_setFrames, hr]
      rfl
    have hsame : U.sameButNew ({ U with heap := s₂.heap, slotsUsed := s₂.slotsUsed } : State) L mc ms := by
      refine ⟨?_, q2, q3, q4, q5, q6⟩
      obtain ⟨t, ht, -⟩ := State.frames_cons hr
      show ({ U with heap := s₂.heap, slotsUsed := s₂.slotsUsed } : State) = { U.setFrames U.frames with heap := s₂.heap, slotsUsed := s₂.slotsUsed }
      rw [State.setFrames_self ht]
    subst hg
    refine Or.inr ⟨q, ⟨(({ U with heap := s₂.heap, slotsUsed := s₂.slotsUsed } : State).setVm s₂.vm), Ls ++ L, c0 + mc, s0 + ms⟩,
      ⟨X.admits, X.cas, X.clock, X.frames, X.room, X.hears, X.method, X.code, (X.here.setHeapUsed s₂.heap s₂.slotsUsed).setVm hW'.alike, X.tail, State.WarmedH.trans X.warmed hW', X.limits, X.bytes, X.same.trans (hsame.setVm s.vm)⟩,
      ⟨g, mk, s₂, L, E, ce, rfl, rfl, hx, hce, hcv, hcl, rfl, hL, rfl, rfl⟩, ?_⟩
    show Steps p.tables e below _ (((({ U with heap := s₂.heap, slotsUsed := s₂.slotsUsed } : State).setVm s₂.vm).setTop g).pushFrame (.throwing q))
    rw [← hs₂]
    exact hsteps
end
variable {p : Program} {l : Launch} {e : Env} {R : Room} {s : State} {m : MethodId} {args : Array Value} {below : List Frame} {meth : Method} {c : Code} {T : State} {H : Heap} {locs : List Loc} {cells slots : Nat}
theorem vx_callVX (X : Stand p l e R s m args below meth c T locs cells slots) (hexec : p.tables.exec = Jvm.exec) {own C : String} {index : Nat} {y : MethodName} {bytes : ByteArray} {maxL : Nat} {ret : Option FieldType} {hh : List (Nat × Nat × Nat × Nat)}
    (hown : s.vm.findClass own = some m.cls) (hlink : (Cond.methodLink own index y).before args s = true) (hinst : (Cond.instanceMethod y).before args s = true) (hsel : (Cond.selects C y y).before args s = true)
    (hcode : (Cond.codeWith y bytes maxL ret hh).before args s = true) (hy : y.cls ≠ "java/lang/invoke/MethodHandle" ∧ y.cls ≠ "java/lang/invoke/VarHandle")
    {W9 : Nat} {Pre : Pt → Array Value → Prop} {Post : Pt → Array Value → Option Value → Pt → Prop} {PostX : Pt → Array Value → Addr → Pt → Prop} (hK : vx_Back l R p e below s args y 3 W9 Pre Post PostX)
    {b : Addr} {cellB : Cell} (hcell : T.heap[b]? = some cellB) (hobj : cellB.vm.isStatics = false) (hcls : s.vm.findClass C = some cellB.cls)
    {g : JFrame} (hg : g.method = m) (hsize : g.locals.size = c.maxLocals) {argsL rest : List Value} (hlen : ∀ sig, parseMethodDescriptor y.desc = some sig → argsL.length = sig.parameters.length)
    (hstack : g.stack = argsL.reverse ++ .ref b :: rest) (hW : 2 * g.monitorRoom + (rest.map fun v => v.category).sum ≤ W9) (hdg : decode c.code g.pc = .ok (.invokevirtual index, 3))
    (hpre : ∀ vm₁, s.WarmedH vm₁ → Pre ⟨T.setVm vm₁, locs, cells, slots⟩ (Value.ref b :: argsL).toArray) :
    (∃ (v : Option Value) (vm₁ : Vm) (B : Pt), s.WarmedH vm₁ ∧ Stand p l e R s m args below meth c B.U B.locs B.cells B.slots ∧ Post ⟨T.setVm vm₁, locs, cells, slots⟩ (Value.ref b :: argsL).toArray v B ∧
      ∀ target, Steps p.tables e below (B.U.setTop { g with pc := g.pc + 3, stack := v.toList ++ rest }) target → Steps p.tables e below (T.setTop g) target) ∨
    (∃ (q : Addr) (vm₁ : Vm) (B : Pt), s.WarmedH vm₁ ∧ Stand p l e R s m args below meth c B.U B.locs B.cells B.slots ∧ PostX ⟨T.setVm vm₁, locs, cells, slots⟩ (Value.ref b :: argsL).toArray q B ∧
      Steps p.tables e below (T.setTop g) ((B.U.setTop { g with stack := rest }).pushFrame (.throwing q))) := by
  obtain ⟨mk, methM, hnamed, hmethM, hstM, habM⟩ := Cond.instanceMethod_spec hinst
  obtain ⟨m8, methM', cM, hn8, hmethM', -, -, -, -, -, -, hsigM⟩ := Cond.codeWith_spec hcode
  cases Option.some.inj (hn8.symm.trans hnamed)
  cases hmethM.symm.trans hmethM'
  obtain ⟨c2, r2, m2, q1, q2, q3, q4, kP, hkP, hkPi⟩ := Cond.selects_spec hsel
  cases hcls.symm.trans q1
  cases (State.methodFound?_of_named hnamed hy).symm.trans q2
  cases hnamed.symm.trans q3
  have hselP : selectMethod e.platform s.vm cellB.cls mk = .method mk := by rw [Launch.admits_selectMethod X.admits]; exact q4
  obtain ⟨vm₁, X₁, hstep₁⟩ := X.invokevirtual hexec hown hlink hnamed hmethM hstM hkP hkPi hy (a := b) (cell := cellB) hcell
    (fun z h => by rw [h] at hobj; cases hobj) hselP hmethM habM hkP hkPi (g := g) hg (argsL := argsL) (rest := rest) (hlen _ hsigM) hstack hdg
  rcases hK m meth c ⟨T.setVm vm₁, locs, cells, slots⟩ { g with stack := rest } (.invokevirtual index) mk (Value.ref b :: argsL).toArray X₁ hg hsize hdg hW (X₁.named hnamed) (hpre vm₁ X₁.warmed) with ⟨v, B, X', hpost, hsteps⟩ | ⟨q, B, X', hpost, hsteps⟩
  · exact Or.inl ⟨v, vm₁, B, X₁.warmed, X', hpost, fun target h => hstep₁ _ fun acts => by rw [doInvoke_state]; exact hsteps.trans h⟩
  · exact Or.inr ⟨q, vm₁, B, X₁.warmed, X', hpost, hstep₁ _ fun acts => by rw [doInvoke_state]; exact hsteps⟩
theorem vx_callSX (X : Stand p l e R s m args below meth c T locs cells slots) (hexec : p.tables.exec = Jvm.exec) {own : String} {index : Nat} {y : MethodName} {bytes : ByteArray} {maxL : Nat} {ret : Option FieldType} {hh : List (Nat × Nat × Nat × Nat)}
    (hown : s.vm.findClass own = some m.cls) (hlink : (Cond.methodLink own index y).before args s = true) (hstat : (Cond.static y).before args s = true) (hinit : (Cond.initialized y.cls).before args s = true)
    (hcode : (Cond.codeWith y bytes maxL ret hh).before args s = true) (hy : y.cls ≠ "java/lang/invoke/MethodHandle" ∧ y.cls ≠ "java/lang/invoke/VarHandle")
    {W9 : Nat} {Pre : Pt → Array Value → Prop} {Post : Pt → Array Value → Option Value → Pt → Prop} {PostX : Pt → Array Value → Addr → Pt → Prop} (hK : vx_Back l R p e below s args y 3 W9 Pre Post PostX)
    {g : JFrame} (hg : g.method = m) (hsize : g.locals.size = c.maxLocals) {argsL rest : List Value} (hlen : ∀ sig, parseMethodDescriptor y.desc = some sig → argsL.length = sig.parameters.length)
    (hstack : g.stack = argsL.reverse ++ rest) (hW : 2 * g.monitorRoom + (rest.map fun v => v.category).sum ≤ W9) (hdg : decode c.code g.pc = .ok (.invokestatic index, 3))
    (hpre : ∀ vm₁, s.WarmedH vm₁ → Pre ⟨T.setVm vm₁, locs, cells, slots⟩ argsL.toArray) :
    (∃ (v : Option Value) (vm₁ : Vm) (B : Pt), s.WarmedH vm₁ ∧ Stand p l e R s m args below meth c B.U B.locs B.cells B.slots ∧ Post ⟨T.setVm vm₁, locs, cells, slots⟩ argsL.toArray v B ∧
      ∀ target, Steps p.tables e below (B.U.setTop { g with pc := g.pc + 3, stack := v.toList ++ rest }) target → Steps p.tables e below (T.setTop g) target) ∨
    (∃ (q : Addr) (vm₁ : Vm) (B : Pt), s.WarmedH vm₁ ∧ Stand p l e R s m args below meth c B.U B.locs B.cells B.slots ∧ PostX ⟨T.setVm vm₁, locs, cells, slots⟩ argsL.toArray q B ∧
      Steps p.tables e below (T.setTop g) ((B.U.setTop { g with stack := rest }).pushFrame (.throwing q))) := by
  obtain ⟨mk, methM, cM, hnamed, hmethM, -, -, -, -, -, -, hsigM⟩ := Cond.codeWith_spec hcode
  have hstatic : methM.isStatic = true := Cond.static_spec hnamed hmethM hstat
  obtain ⟨kP, hkP, -⟩ := className_of_methodNamed hnamed
  have hinitP : kP.init = .initialized := Cond.initialized_spec (findClass_of_methodNamed hnamed) hkP hinit
  obtain ⟨vm₁, X₁, hstep₁⟩ := X.invokestatic hexec hown hlink hnamed hmethM hstatic hkP hinitP hy (g := g) hg (argsL := argsL) (rest := rest) (hlen _ hsigM) hstack hdg
  rcases hK m meth c ⟨T.setVm vm₁, locs, cells, slots⟩ { g with stack := rest } (.invokestatic index) mk argsL.toArray X₁ hg hsize hdg hW (X₁.named hnamed) (hpre vm₁ X₁.warmed) with ⟨v, B, X', hpost, hsteps⟩ | ⟨q, B, X', hpost, hsteps⟩
  · exact Or.inl ⟨v, vm₁, B, X₁.warmed, X', hpost, fun target h => hstep₁ _ fun acts => by rw [doInvoke_state]; exact hsteps.trans h⟩
  · exact Or.inr ⟨q, vm₁, B, X₁.warmed, X', hpost, hstep₁ _ fun acts => by rw [doInvoke_state]; exact hsteps⟩
theorem vx_callVW (X : Stand p l e R s m args below meth c T locs cells slots) (hexec : p.tables.exec = Jvm.exec) {own C : String} {index : Nat} {y : MethodName} {bytes : ByteArray} {maxL : Nat} {ret : Option FieldType} {hh : List (Nat × Nat × Nat × Nat)}
    (hown : s.vm.findClass own = some m.cls) (hlink : (Cond.methodLink own index y).before args s = true) (hinst : (Cond.instanceMethod y).before args s = true) (hsel : (Cond.selects C y y).before args s = true)
    (hcode : (Cond.codeWith y bytes maxL ret hh).before args s = true) (hy : y.cls ≠ "java/lang/invoke/MethodHandle" ∧ y.cls ≠ "java/lang/invoke/VarHandle")
    {W9 : Nat} {Pre : Pt → Array Value → Prop} {Post : Pt → Array Value → Option Value → Pt → Prop} (hK : Back l R p e below s args y 3 W9 Pre Post)
    {b : Addr} {cellB : Cell} (hcell : T.heap[b]? = some cellB) (hobj : cellB.vm.isStatics = false) (hcls : s.vm.findClass C = some cellB.cls)
    {g : JFrame} (hg : g.method = m) (hsize : g.locals.size = c.maxLocals) {argsL rest : List Value} (hlen : ∀ sig, parseMethodDescriptor y.desc = some sig → argsL.length = sig.parameters.length)
    (hstack : g.stack = argsL.reverse ++ .ref b :: rest) (hW : 2 * g.monitorRoom + (rest.map fun v => v.category).sum ≤ W9) (hdg : decode c.code g.pc = .ok (.invokevirtual index, 3))
    (hpre : ∀ vm₁, s.WarmedH vm₁ → Pre ⟨T.setVm vm₁, locs, cells, slots⟩ (Value.ref b :: argsL).toArray) :
    ∃ (v : Option Value) (vm₁ : Vm) (B : Pt), s.WarmedH vm₁ ∧ Stand p l e R s m args below meth c B.U B.locs B.cells B.slots ∧ Post ⟨T.setVm vm₁, locs, cells, slots⟩ (Value.ref b :: argsL).toArray v B ∧
      ∀ target, Steps p.tables e below (B.U.setTop { g with pc := g.pc + 3, stack := v.toList ++ rest }) target → Steps p.tables e below (T.setTop g) target := by
  obtain ⟨mk, methM, hnamed, hmethM, hstM, habM⟩ := Cond.instanceMethod_spec hinst
  obtain ⟨m8, methM', cM, hn8, hmethM', -, -, -, -, -, -, hsigM⟩ := Cond.codeWith_spec hcode
  cases Option.some.inj (hn8.symm.trans hnamed)
  cases hmethM.symm.trans hmethM'
  obtain ⟨c2, r2, m2, q1, q2, q3, q4, kP, hkP, hkPi⟩ := Cond.selects_spec hsel
  cases hcls.symm.trans q1
  cases (State.methodFound?_of_named hnamed hy).symm.trans q2
  cases hnamed.symm.trans q3
  have hselP : selectMethod e.platform s.vm cellB.cls mk = .method mk := by rw [Launch.admits_selectMethod X.admits]; exact q4
  obtain ⟨vm₁, X₁, hstep₁⟩ := X.invokevirtual hexec hown hlink hnamed hmethM hstM hkP hkPi hy (a := b) (cell := cellB) hcell
    (fun z h => by rw [h] at hobj; cases hobj) hselP hmethM habM hkP hkPi (g := g) hg (argsL := argsL) (rest := rest) (hlen _ hsigM) hstack hdg
  obtain ⟨v, B, X', hpost, hsteps⟩ := hK m meth c ⟨T.setVm vm₁, locs, cells, slots⟩ { g with stack := rest } (.invokevirtual index) mk (Value.ref b :: argsL).toArray X₁ hg hsize hdg hW (X₁.named hnamed) (hpre vm₁ X₁.warmed)
  exact ⟨v, vm₁, B, X₁.warmed, X', hpost, fun target h => hstep₁ _ fun acts => by rw [doInvoke_state]; exact hsteps.trans h⟩
abbrev vx_CVW (R : Room) (s : State) (args : Array Value) (own C : String) (index : Nat) (y : MethodName) (bytes : ByteArray) (maxL : Nat) (ret : Option FieldType) (hh : List (Nat × Nat × Nat × Nat)) (ws : List Cond) (rm : Room) (mc ms n : Nat) : Prop :=
  (rm.cells = mc ∧ rm.slots = ms ∧ rm.frames + 1 ≤ R.frames ∧ 8 + (maxL + 11) + rm.locals ≤ R.locals ∧ (∀ w ∈ ws, ∀ (a' : Array Value) (U : State), s.WarmedH U.vm → w.before a' U = true) ∧ Cond.codeWith y bytes maxL ret hh ∈ ws) ∧
  (Cond.codeWith y bytes maxL ret hh).before args s = true ∧ (Cond.initialized y.cls).before args s = true ∧ (y.cls ≠ "java/lang/invoke/MethodHandle" ∧ y.cls ≠ "java/lang/invoke/VarHandle") ∧
  (∀ sig, parseMethodDescriptor y.desc = some sig → n = sig.parameters.length) ∧ (Cond.methodLink own index y).before args s = true ∧ (Cond.instanceMethod y).before args s = true ∧ (Cond.selects C y y).before args s = true
theorem vx_cwVW {own C : String} {index maxL mc ms : Nat} {y : MethodName} {bytes : ByteArray} {ret : Option FieldType} {hh : List (Nat × Nat × Nat × Nat)} {Ts ws ws' : List Cond} {rm : Room} (n : Nat) (ht : ∀ w ∈ Ts, w.before args s = true) (hT : GoodIn Ts (wsV own index C y ws)) (hw : ws = Cond.codeWith y bytes maxL ret hh :: ws') (hrc : rm.cells = mc) (hrs : rm.slots = ms)
    (hd : y.cls = C ∧ y.cls ≠ "java/lang/invoke/MethodHandle" ∧ y.cls ≠ "java/lang/invoke/VarHandle" ∧ (parseMethodDescriptor y.desc).map (fun d => d.parameters.length) = some n) (hR : rm.frames + 1 ≤ R.frames ∧ 8 + (maxL + 11) + rm.locals ≤ R.locals) :
    vx_CVW R s args own C index y bytes maxL ret hh ws rm mc ms n := by
  obtain ⟨hC, hd⟩ := hd
  subst hC
  have ok : ∀ w ∈ wsV own index y.cls y ws, w.before args s = true := fun w h => ht w (hT w h).1
  have hG : GoodIn Ts ws := fun w h => hT w (by unfold wsV; exact List.mem_append_right _ h)
  have hc : Cond.codeWith y bytes maxL ret hh ∈ ws := by rw [hw]; exact List.mem_cons_self
  refine ⟨⟨hrc, hrs, hR.1, hR.2, pay_in ht hG, hc⟩, ht _ (hG _ hc).1, ok _ (by simp [wsV]), ⟨hd.1, hd.2.1⟩, fun sig h => ?_, ok _ (by simp [wsV]), ok _ (by simp [wsV]), ok _ (by simp [wsV])⟩
  have h2 := hd.2.2
  rw [h] at h2
  exact (Option.some.inj h2).symm
theorem vx_runVW {y : MethodName} {bytes cc : ByteArray} {maxL nL mc ms n index : Nat} {ret : Option FieldType} {hh : List (Nat × Nat × Nat × Nat)} {ws : List Cond} {rm : Room} {Pc : Array Value → State → Prop} {Qc : Array Value → State → Outcome → State → Prop} {free : Addr → Prop} {Ts : List Cond} {own C : String} {b : Addr} {As rest : List Value} {g : JFrame}
    (S : CallFix p m c cc nL s args Ts own) (hM : Met l y ws rm Pc Qc mc ms free) (cw : vx_CVW R s args own C index y bytes maxL ret hh ws rm mc ms n) (hp : PreV s H C b Pc As)
    (hg : g.method = m) (hn : As.length = n) (hsize : g.locals.size = nL) (hstack : g.stack = As.reverse ++ .ref b :: rest) (hW : 2 * g.monitorRoom + (rest.map fun v => v.category).sum ≤ 8) (hdg : decode cc g.pc = .ok (.invokevirtual index, 3)) (hf : cells + mc ≤ R.cells ∧ slots + ms ≤ R.slots) :
    va_Run p l e R s m args below meth c H locs cells slots mc ms g rest (Qc (Value.ref b :: As).toArray) free := by
  obtain ⟨⟨hrc, hrs, hfr, hlo, hws, hcw⟩, hcode, hini, hy, hlen, hl, hin, hse⟩ := cw
  have hK : Back l R p e below s args y 3 8 (PreOf R mc ms Pc) (PostOf Qc mc ms free) := va_backW (hh := hh) (bytes := bytes) (maxL := maxL) (ret := ret) hM hp.1 hrc hrs hfr hlo hws hcw (fun a' U hW => word_at hW (Or.inl (by first | rfl | simp [Cond.onTables, Cond.keeps, Cond.steady])) hini)
  obtain ⟨hx, hb, hml, ho, -⟩ := S
  obtain ⟨-, ⟨cellB, hcB, hoB, hclB⟩, hPc⟩ := hp
  intro T hT X
  obtain ⟨v, vm₁, ⟨U', l2, c2, s2⟩, hW₁, X', ⟨g', mk, t, L, e1, e2, hq, h1, hL, h2, h3⟩, st⟩ := vx_callVW X hx (C := C) (hh := hh) (bytes := bytes) (maxL := maxL) (ret := ret) ho hl hin hse hcode hy hK (by rw [hT]; exact hcB) hoB hclB hg (hsize.trans hml.symm) (argsL := As) (rest := rest) (fun sig h => hn.trans (hlen sig h)) hstack hW (by rw [hb]; exact hdg)
    (fun vm₁ hW₁ => ⟨hf.1, hf.2, hPc (T.setVm vm₁) hT hW₁⟩)
  dsimp only [Pt.U, Pt.locs, Pt.cells, Pt.slots] at X' e1 e2 h1 h2 h3 st
  subst h1; subst h2; subst h3
  exact ⟨v, (T.setVm vm₁).calling g' mk (Value.ref b :: As).toArray, t, U', L, hT, X', hL, e1, e2, hq, st⟩
section
variable {y : MethodName} {bytes cc : ByteArray} {maxL nL mc ms n index : Nat} {ret : Option FieldType} {ws : List Cond} {rm : Room} {Pc : Array Value → State → Prop} {Qc : Array Value → State → Outcome → State → Prop} {XC : String → State → State → Prop} {free : Addr → Prop} {Ts : List Cond} {own C : String} {b : Addr} {As rest : List Value} {g : JFrame}
theorem vx_runVX {hh : List (Nat × Nat × Nat × Nat)} (S : CallFix p m c cc nL s args Ts own) (hM : vx_Met l y ws rm Pc Qc XC mc ms free) (cw : vx_CVW R s args own C index y bytes maxL ret hh ws rm mc ms n) (hp : PreV s H C b Pc As)
    (hg : g.method = m) (hn : As.length = n) (hsize : g.locals.size = nL) (hstack : g.stack = As.reverse ++ .ref b :: rest) (hW : 2 * g.monitorRoom + (rest.map fun v => v.category).sum ≤ 8) (hdg : decode cc g.pc = .ok (.invokevirtual index, 3)) (hf : cells + mc ≤ R.cells ∧ slots + ms ≤ R.slots) :
    vx_Run p l e R s m args below meth c H locs cells slots mc ms g rest (Qc (Value.ref b :: As).toArray) XC free := by
  obtain ⟨⟨hrc, hrs, hfr, hlo, hws, hcw⟩, hcode, hini, hy, hlen, hl, hin, hse⟩ := cw
  have hK : vx_Back l R p e below s args y 3 8 (PreOf R mc ms Pc) (PostOf Qc mc ms free) (vx_Post XC mc ms free) := vx_backW (hh := hh) (bytes := bytes) (maxL := maxL) (ret := ret) hM hp.1 hrc hrs hfr hlo hws hcw (fun a' U hW => word_at hW (Or.inl (by first | rfl | simp [Cond.onTables, Cond.keeps, Cond.steady])) hini)
  obtain ⟨hx, hb, hml, ho, -⟩ := S
  obtain ⟨-, ⟨cellB, hcB, hoB, hclB⟩, hPc⟩ := hp
  intro T hT X
  rcases vx_callVX X hx (C := C) (hh := hh) (bytes := bytes) (maxL := maxL) (ret := ret) ho hl hin hse hcode hy hK (by rw [hT]; exact hcB) hoB hclB hg (hsize.trans hml.symm) (argsL := As) (rest := rest) (fun sig h => hn.trans (hlen sig h)) hstack hW (by rw [hb]; exact hdg)
    (fun vm₁ hW₁ => ⟨hf.1, hf.2, hPc (T.setVm vm₁) hT hW₁⟩) with ⟨v, vm₁, ⟨U', l2, c2, s2⟩, hW₁, X', ⟨g', mk, t, L, e1, e2, hq, h1, hL, h2, h3⟩, st⟩ | ⟨q, vm₁, ⟨U', l2, c2, s2⟩, hW₁, X', ⟨g', mk, t, L, E, ce, e1, e2, hq, hce, hcv, hcl, h1, hL, h2, h3⟩, st⟩
  · dsimp only [Pt.U, Pt.locs, Pt.cells, Pt.slots] at X' e1 e2 h1 h2 h3 st
    subst h1; subst h2; subst h3
    exact Or.inl ⟨v, (T.setVm vm₁).calling g' mk (Value.ref b :: As).toArray, t, U', L, hT, X', hL, e1, e2, hq, st⟩
  · dsimp only [Pt.U, Pt.locs, Pt.cells, Pt.slots] at X' e1 e2 h1 h2 h3 st hcl
    subst h1; subst h2; subst h3
    exact Or.inr ⟨q, (T.setVm vm₁).calling g' mk (Value.ref b :: As).toArray, t, U', L, E, ce, hT, X', hL, e1, e2, hq, hce, hcv, vx_cls hW₁ hcl, st⟩
theorem vx_runSX {hh : List (Nat × Nat × Nat × Nat)} (S : CallFix p m c cc nL s args Ts own) (hM : vx_Met l y ws rm Pc Qc XC mc ms free) (cw : vx_CSW R s args own index y bytes maxL ret hh ws rm mc ms n) (hp : PreS s H Pc As)
    (hg : g.method = m) (hn : As.length = n) (hsize : g.locals.size = nL) (hstack : g.stack = As.reverse ++ rest) (hW : 2 * g.monitorRoom + (rest.map fun v => v.category).sum ≤ 8) (hdg : decode cc g.pc = .ok (.invokestatic index, 3)) (hf : cells + mc ≤ R.cells ∧ slots + ms ≤ R.slots) :
    vx_Run p l e R s m args below meth c H locs cells slots mc ms g rest (Qc As.toArray) XC free := by
  obtain ⟨⟨hrc, hrs, hfr, hlo, hws, hcw⟩, hcode, hini, hy, hlen, hl, hstt⟩ := cw
  have hK : vx_Back l R p e below s args y 3 8 (PreOf R mc ms Pc) (PostOf Qc mc ms free) (vx_Post XC mc ms free) := vx_backW (hh := hh) (bytes := bytes) (maxL := maxL) (ret := ret) hM hp.1 hrc hrs hfr hlo hws hcw (fun a' U hW => word_at hW (Or.inl (by first | rfl | simp [Cond.onTables, Cond.keeps, Cond.steady])) hini)
  obtain ⟨hx, hb, hml, ho, -⟩ := S
  intro T hT X
  rcases vx_callSX X hx (hh := hh) (bytes := bytes) (maxL := maxL) (ret := ret) ho hl hstt hini hcode hy hK hg (hsize.trans hml.symm) (argsL := As) (rest := rest) (fun sig h => hn.trans (hlen sig h)) hstack hW (by rw [hb]; exact hdg)
    (fun vm₁ hW₁ => ⟨hf.1, hf.2, hp.2 (T.setVm vm₁) hT hW₁⟩) with ⟨v, vm₁, ⟨U', l2, c2, s2⟩, hW₁, X', ⟨g', mk, t, L, e1, e2, hq, h1, hL, h2, h3⟩, st⟩ | ⟨q, vm₁, ⟨U', l2, c2, s2⟩, hW₁, X', ⟨g', mk, t, L, E, ce, e1, e2, hq, hce, hcv, hcl, h1, hL, h2, h3⟩, st⟩
  · dsimp only [Pt.U, Pt.locs, Pt.cells, Pt.slots] at X' e1 e2 h1 h2 h3 st
    subst h1; subst h2; subst h3
    exact Or.inl ⟨v, (T.setVm vm₁).calling g' mk As.toArray, t, U', L, hT, X', hL, e1, e2, hq, st⟩
  · dsimp only [Pt.U, Pt.locs, Pt.cells, Pt.slots] at X' e1 e2 h1 h2 h3 st hcl
    subst h1; subst h2; subst h3
    exact Or.inr ⟨q, (T.setVm vm₁).calling g' mk As.toArray, t, U', L, E, ce, hT, X', hL, e1, e2, hq, hce, hcv, vx_cls hW₁ hcl, st⟩
end
end VXH
theorem vx_ofWH {l : Launch} {y : MethodName} {ws ws' : List Cond} {rm : Room} {Pc : Array Value → State → Prop} {Qc : Array Value → State → Outcome → State → Prop} {XC : String → State → State → Prop} {mc ms : Nat} {free : Addr → Prop} {cc : ByteArray} {maxL : Nat} {ret : Option FieldType} {hh : List (Nat × Nat × Nat × Nat)}
    (hy : plainName y.cls = true) (hw : ws = Cond.codeWith y cc maxL ret hh :: ws')
    (body : ∀ p e s m args below meth c s₁, BodyLoose p l y (headSpec ws rm) cc maxL ret e s m args below meth c s₁ → c.maxLocals = maxL → Pc args s →
      W p l e (headSpec ws rm).room s m args below meth c s.heap [] 0 0 (vx_MQ below Qc XC args s mc ms free) (entryFrame m args maxL)) : vx_Met l y ws rm Pc Qc XC mc ms free := by
  refine MetFree.of_bodyS (code := cc) (maxLocals := maxL) (ret := ret) hy ?_ ?_
  · intro args s m h hn
    obtain ⟨m9, meth, c, hn9, h1, h2, h3, h4, -, h5, h6, -⟩ := Cond.codeWith_spec (atoms_spec (ws := ws) h _ (by rw [hw]; exact List.mem_cons_self))
    cases hn.symm.trans hn9
    exact ⟨meth, c, h1, h2, h3, h4, h5, h6⟩
  · intro p e s m args below meth c s₁ B hml hP _
    have hh0 : s₁.heap = s.heap := by rw [B.state]; rfl
    obtain ⟨t, a1, o, b1, b2, b3⟩ := body p e s m args below meth c s₁ B hml hP s₁ hh0 (Stand.of_body B)
    exact ⟨t, o, a1, b1, b2, b3⟩
/-! ===== END ===== -/
end
section
/-! ===== BEGIN printed: names, fields, word lists, decode rows ===== -/
def RX0 : String := "PrefixYard$Span"
def TX0 : u_T := fun k => match k with
  | 0 => ("PrefixYard$Span", "number", "I", true)
  | 1 => ("PrefixYard$Span", "parent", "LPrefixYard$Span;", true)
  | 2 => ("PrefixYard$Span", "base", "I", false)
  | 3 => ("PrefixYard$Span", "size", "I", false)
  | _ => ("PrefixYard$Span", "owner", "I", false)
def tyX0 : Nat → FieldType := fun k => match k with
  | 0 => .int
  | 1 => .object "PrefixYard$Span"
  | 2 => .int
  | 3 => .int
  | _ => .int
abbrev wsX00 : List Cond := u_ws RX0 TX0 5
theorem nmX0 : ∀ a, a < 5 → ∀ b, b < 5 → a ≠ b → (TX0 a).2.1 ≠ (TX0 b).2.1 := by decide +kernel
theorem tyX0_ok : ∀ k, k < 5 → parseFieldDescriptor (TX0 k).2.2.1 = some (tyX0 k) := by decide +kernel
abbrev cX0_init : ByteArray := prog_2_method_1_code
def yX0_init : MethodName := ⟨RX0, "<init>", "(ILPrefixYard$Span;III)V"⟩
abbrev cX0_end : ByteArray := prog_2_method_2_code
def yX0_end : MethodName := ⟨RX0, "end", "()I"⟩
abbrev cX0_has : ByteArray := prog_2_method_3_code
def yX0_has : MethodName := ⟨RX0, "has", "(I)Z"⟩
abbrev cX0_meets : ByteArray := prog_2_method_4_code
def yX0_meets : MethodName := ⟨RX0, "meets", "(II)Z"⟩
def RX1 : String := "PrefixYard"
def TX1 : u_T := fun k => match k with
  | 0 => ("PrefixYard", "whole", "LPrefixYard$Span;", true)
  | 1 => ("PrefixYard", "made", "[LPrefixYard$Span;", true)
  | 2 => ("PrefixYard", "madeCount", "I", false)
  | 3 => ("PrefixYard", "freeFrom", "[I", true)
  | 4 => ("PrefixYard", "lentCount", "I", false)
  | 5 => ("PrefixYard", "today", "I", false)
  | 6 => ("PrefixYard", "row", "[I", true)
  | _ => ("PrefixYard", "rowStands", "Z", false)
def tyX1 : Nat → FieldType := fun k => match k with
  | 0 => .object "PrefixYard$Span"
  | 1 => .array (.object "PrefixYard$Span")
  | 2 => .int
  | 3 => .array .int
  | 4 => .int
  | 5 => .int
  | 6 => .array .int
  | _ => .boolean
abbrev wsX10 : List Cond := u_ws RX1 TX1 8
theorem nmX1 : ∀ a, a < 8 → ∀ b, b < 8 → a ≠ b → (TX1 a).2.1 ≠ (TX1 b).2.1 := by decide +kernel
theorem tyX1_ok : ∀ k, k < 8 → parseFieldDescriptor (TX1 k).2.2.1 = some (tyX1 k) := by decide +kernel
abbrev cX1_init : ByteArray := prog_1_method_1_code
def yX1_init : MethodName := ⟨RX1, "<init>", "()V"⟩
abbrev cX1_carve : ByteArray := prog_1_method_2_code
def yX1_carve : MethodName := ⟨RX1, "carve", "(IIII)I"⟩
abbrev cX1_carveAt : ByteArray := prog_1_method_3_code
def yX1_carveAt : MethodName := ⟨RX1, "carveAt", "(IIII)I"⟩
abbrev cX1_remove : ByteArray := prog_1_method_4_code
def yX1_remove : MethodName := ⟨RX1, "remove", "(I)I"⟩
abbrev cX1_grow : ByteArray := prog_1_method_5_code
def yX1_grow : MethodName := ⟨RX1, "grow", "(I)I"⟩
abbrev cX1_halve : ByteArray := prog_1_method_6_code
def yX1_halve : MethodName := ⟨RX1, "halve", "(I)I"⟩
abbrev cX1_setOwner : ByteArray := prog_1_method_7_code
def yX1_setOwner : MethodName := ⟨RX1, "setOwner", "(II)I"⟩
abbrev cX1_lend : ByteArray := prog_1_method_8_code
def yX1_lend : MethodName := ⟨RX1, "lend", "(II)I"⟩
abbrev cX1_takeBack : ByteArray := prog_1_method_9_code
def yX1_takeBack : MethodName := ⟨RX1, "takeBack", "(I)I"⟩
abbrev cX1_pass : ByteArray := prog_1_method_10_code
def yX1_pass : MethodName := ⟨RX1, "pass", "(I)I"⟩
abbrev cX1_day : ByteArray := prog_1_method_11_code
def yX1_day : MethodName := ⟨RX1, "day", "()I"⟩
abbrev cX1_spans : ByteArray := prog_1_method_12_code
def yX1_spans : MethodName := ⟨RX1, "spans", "()I"⟩
abbrev cX1_isThere : ByteArray := prog_1_method_13_code
def yX1_isThere : MethodName := ⟨RX1, "isThere", "(I)Z"⟩
abbrev cX1_base : ByteArray := prog_1_method_14_code
def yX1_base : MethodName := ⟨RX1, "base", "(I)I"⟩
abbrev cX1_size : ByteArray := prog_1_method_15_code
def yX1_size : MethodName := ⟨RX1, "size", "(I)I"⟩
abbrev cX1_parent : ByteArray := prog_1_method_16_code
def yX1_parent : MethodName := ⟨RX1, "parent", "(I)I"⟩
abbrev cX1_free : ByteArray := prog_1_method_17_code
def yX1_free : MethodName := ⟨RX1, "free", "(I)I"⟩
abbrev cX1_greatestFree : ByteArray := prog_1_method_18_code
def yX1_greatestFree : MethodName := ⟨RX1, "greatestFree", "(I)I"⟩
abbrev cX1_inTheWay : ByteArray := prog_1_method_19_code
def yX1_inTheWay : MethodName := ⟨RX1, "inTheWay", "(II)I"⟩
abbrev cX1_lent : ByteArray := prog_1_method_20_code
def yX1_lent : MethodName := ⟨RX1, "lent", "()I"⟩
abbrev cX1_nearest : ByteArray := prog_1_method_22_code
def yX1_nearest : MethodName := ⟨RX1, "nearest", "(I)I"⟩
abbrev cX1_nearestByRow : ByteArray := prog_1_method_23_code
def yX1_nearestByRow : MethodName := ⟨RX1, "nearestByRow", "(I)I"⟩
abbrev cX1_owned : ByteArray := prog_1_method_24_code
def yX1_owned : MethodName := ⟨RX1, "owned", "(I)I"⟩
abbrev cX1_blocks : ByteArray := prog_1_method_25_code
def yX1_blocks : MethodName := ⟨RX1, "blocks", "(I)I"⟩
abbrev cX1_findSpan : ByteArray := prog_1_method_26_code
def yX1_findSpan : MethodName := ⟨RX1, "findSpan", "(I)LPrefixYard$Span;"⟩
abbrev cX1_spanOf : ByteArray := prog_1_method_27_code
def yX1_spanOf : MethodName := ⟨RX1, "spanOf", "(I)LPrefixYard$Span;"⟩
abbrev cX1_isAddress : ByteArray := prog_1_method_28_code
def yX1_isAddress : MethodName := ⟨RX1, "isAddress", "(I)Z"⟩
abbrev cX1_checkAddress : ByteArray := prog_1_method_29_code
def yX1_checkAddress : MethodName := ⟨RX1, "checkAddress", "(I)V"⟩
abbrev cX1_checkSize : ByteArray := prog_1_method_30_code
def yX1_checkSize : MethodName := ⟨RX1, "checkSize", "(I)V"⟩
abbrev cX1_checkOwner : ByteArray := prog_1_method_31_code
def yX1_checkOwner : MethodName := ⟨RX1, "checkOwner", "(I)V"⟩
abbrev cX1_checkCarving : ByteArray := prog_1_method_32_code
def yX1_checkCarving : MethodName := ⟨RX1, "checkCarving", "(LPrefixYard$Span;I)V"⟩
abbrev cX1_makeSpan : ByteArray := prog_1_method_33_code
def yX1_makeSpan : MethodName := ⟨RX1, "makeSpan", "(LPrefixYard$Span;III)I"⟩
abbrev cX1_childAt : ByteArray := prog_1_method_34_code
def yX1_childAt : MethodName := ⟨RX1, "childAt", "(LPrefixYard$Span;I)LPrefixYard$Span;"⟩
abbrev cX1_countChildren : ByteArray := prog_1_method_35_code
def yX1_countChildren : MethodName := ⟨RX1, "countChildren", "(LPrefixYard$Span;II)I"⟩
abbrev cX1_hasChildren : ByteArray := prog_1_method_36_code
def yX1_hasChildren : MethodName := ⟨RX1, "hasChildren", "(LPrefixYard$Span;)Z"⟩
abbrev cX1_outsideChildren : ByteArray := prog_1_method_37_code
def yX1_outsideChildren : MethodName := ⟨RX1, "outsideChildren", "(LPrefixYard$Span;)I"⟩
abbrev cX1_chosenBlock : ByteArray := prog_1_method_38_code
def yX1_chosenBlock : MethodName := ⟨RX1, "chosenBlock", "(LPrefixYard$Span;IZ)I"⟩
abbrev cX1_roomAt : ByteArray := prog_1_method_39_code
def yX1_roomAt : MethodName := ⟨RX1, "roomAt", "(LPrefixYard$Span;I)I"⟩
abbrev cX1_greatestBlock : ByteArray := prog_1_method_40_code
def yX1_greatestBlock : MethodName := ⟨RX1, "greatestBlock", "(II)I"⟩
abbrev cX1_countBlocks : ByteArray := prog_1_method_41_code
def yX1_countBlocks : MethodName := ⟨RX1, "countBlocks", "(II)I"⟩
abbrev cX1_countLent : ByteArray := prog_1_method_42_code
def yX1_countLent : MethodName := ⟨RX1, "countLent", "(II)I"⟩
abbrev cX1_lentInItself : ByteArray := prog_1_method_43_code
def yX1_lentInItself : MethodName := ⟨RX1, "lentInItself", "(LPrefixYard$Span;)I"⟩
abbrev cX1_lowestFree : ByteArray := prog_1_method_44_code
def yX1_lowestFree : MethodName := ⟨RX1, "lowestFree", "(LPrefixYard$Span;)I"⟩
abbrev cX1_layRow : ByteArray := prog_1_method_45_code
def yX1_layRow : MethodName := ⟨RX1, "layRow", "()V"⟩
abbrev cX1_laySpan : ByteArray := prog_1_method_46_code
def yX1_laySpan : MethodName := ⟨RX1, "laySpan", "(LPrefixYard$Span;)V"⟩
def RJ9 : String := "java/lang/Math"
def TJ9 : u_T := fun k => match k with
  | _ => ("", "", "", false)
def tyJ9 : Nat → FieldType := fun k => match k with
  | _ => .int
theorem nmJ9 : ∀ a, a < 0 → ∀ b, b < 0 → a ≠ b → (TJ9 a).2.1 ≠ (TJ9 b).2.1 := by decide +kernel
theorem tyJ9_ok : ∀ k, k < 0 → parseFieldDescriptor (TJ9 k).2.2.1 = some (tyJ9 k) := by decide +kernel
abbrev cJ9_min_7cf53 : ByteArray := prog_9_method_69_code
def yJ9_min_7cf53 : MethodName := ⟨RJ9, "min", "(II)I"⟩
def RJ0 : String := "java/lang/String"
def TJ0 : u_T := fun k => match k with
  | _ => ("", "", "", false)
def tyJ0 : Nat → FieldType := fun k => match k with
  | _ => .int
theorem nmJ0 : ∀ a, a < 0 → ∀ b, b < 0 → a ≠ b → (TJ0 a).2.1 ≠ (TJ0 b).2.1 := by decide +kernel
theorem tyJ0_ok : ∀ k, k < 0 → parseFieldDescriptor (TJ0 k).2.2.1 = some (tyJ0 k) := by decide +kernel
def RL : String := "PrefixYardLaw"
abbrev cL_cell : ByteArray := method_2_code
def yL_cell : MethodName := ⟨RL, "cell", "([II)I"⟩
abbrev cL_low : ByteArray := method_3_code
def yL_low : MethodName := ⟨RL, "low", "(II)I"⟩
abbrev cL_carve : ByteArray := method_4_code
def yL_carve : MethodName := ⟨RL, "carve", "(LPrefixYard;IIII)I"⟩
abbrev cL_carveAt : ByteArray := method_5_code
def yL_carveAt : MethodName := ⟨RL, "carveAt", "(LPrefixYard;IIII)I"⟩
abbrev cL_remove : ByteArray := method_6_code
def yL_remove : MethodName := ⟨RL, "remove", "(LPrefixYard;I)I"⟩
abbrev cL_grow : ByteArray := method_7_code
def yL_grow : MethodName := ⟨RL, "grow", "(LPrefixYard;I)I"⟩
abbrev cL_halve : ByteArray := method_8_code
def yL_halve : MethodName := ⟨RL, "halve", "(LPrefixYard;I)I"⟩
abbrev cL_setOwner : ByteArray := method_9_code
def yL_setOwner : MethodName := ⟨RL, "setOwner", "(LPrefixYard;II)I"⟩
abbrev cL_lend : ByteArray := method_10_code
def yL_lend : MethodName := ⟨RL, "lend", "(LPrefixYard;II)I"⟩
abbrev cL_takeBack : ByteArray := method_11_code
def yL_takeBack : MethodName := ⟨RL, "takeBack", "(LPrefixYard;I)I"⟩
abbrev cL_pass : ByteArray := method_12_code
def yL_pass : MethodName := ⟨RL, "pass", "(LPrefixYard;I)I"⟩
abbrev cL_act : ByteArray := method_13_code
def yL_act : MethodName := ⟨RL, "act", "(LPrefixYard;I)I"⟩
abbrev cL_areAlike : ByteArray := method_14_code
def yL_areAlike : MethodName := ⟨RL, "areAlike", "(LPrefixYard;LPrefixYard;)Z"⟩
abbrev cL_areSpansSo : ByteArray := method_15_code
def yL_areSpansSo : MethodName := ⟨RL, "areSpansSo", "(LPrefixYard;)Z"⟩
abbrev cL_areBlocksSo : ByteArray := method_16_code
def yL_areBlocksSo : MethodName := ⟨RL, "areBlocksSo", "(LPrefixYard;I)Z"⟩
abbrev cL_areOwnersSo : ByteArray := method_17_code
def yL_areOwnersSo : MethodName := ⟨RL, "areOwnersSo", "(LPrefixYard;I)Z"⟩
abbrev cL_law : ByteArray := code
def yL_law : MethodName := ⟨RL, "law", "([I)Z"⟩
abbrev vwCl : List vw_C := [(RX0, TX0, 5), (RX1, TX1, 8)]
def GW : List Cond := lw_tbl.filter goodWord
end
section
theorem dX0_init_0 : decode cX0_init 0 = .ok (.aload_n 0, 1) := by decide +kernel
theorem dX0_init_1 : decode cX0_init 1 = .ok (.invokespecial 1, 3) := by decide +kernel
theorem dX0_init_4 : decode cX0_init 4 = .ok (.aload_n 0, 1) := by decide +kernel
theorem dX0_init_5 : decode cX0_init 5 = .ok (.iload_n 1, 1) := by decide +kernel
theorem dX0_init_6 : decode cX0_init 6 = .ok (.putfield 7, 3) := by decide +kernel
theorem dX0_init_9 : decode cX0_init 9 = .ok (.aload_n 0, 1) := by decide +kernel
theorem dX0_init_10 : decode cX0_init 10 = .ok (.aload_n 2, 1) := by decide +kernel
theorem dX0_init_11 : decode cX0_init 11 = .ok (.putfield 13, 3) := by decide +kernel
theorem dX0_init_14 : decode cX0_init 14 = .ok (.aload_n 0, 1) := by decide +kernel
theorem dX0_init_15 : decode cX0_init 15 = .ok (.iload_n 3, 1) := by decide +kernel
theorem dX0_init_16 : decode cX0_init 16 = .ok (.putfield 17, 3) := by decide +kernel
theorem dX0_init_19 : decode cX0_init 19 = .ok (.aload_n 0, 1) := by decide +kernel
theorem dX0_init_20 : decode cX0_init 20 = .ok (.iload 4, 2) := by decide +kernel
theorem dX0_init_22 : decode cX0_init 22 = .ok (.putfield 20, 3) := by decide +kernel
theorem dX0_init_25 : decode cX0_init 25 = .ok (.aload_n 0, 1) := by decide +kernel
theorem dX0_init_26 : decode cX0_init 26 = .ok (.iload 5, 2) := by decide +kernel
theorem dX0_init_28 : decode cX0_init 28 = .ok (.putfield 23, 3) := by decide +kernel
theorem dX0_init_31 : decode cX0_init 31 = .ok (.return_, 1) := by decide +kernel
theorem dX0_end_0 : decode cX0_end 0 = .ok (.aload_n 0, 1) := by decide +kernel
theorem dX0_end_1 : decode cX0_end 1 = .ok (.getfield 17, 3) := by decide +kernel
theorem dX0_end_4 : decode cX0_end 4 = .ok (.aload_n 0, 1) := by decide +kernel
theorem dX0_end_5 : decode cX0_end 5 = .ok (.getfield 20, 3) := by decide +kernel
theorem dX0_end_8 : decode cX0_end 8 = .ok (.iadd, 1) := by decide +kernel
theorem dX0_end_9 : decode cX0_end 9 = .ok (.ireturn, 1) := by decide +kernel
theorem dX0_has_0 : decode cX0_has 0 = .ok (.iload_n 1, 1) := by decide +kernel
theorem dX0_has_1 : decode cX0_has 1 = .ok (.aload_n 0, 1) := by decide +kernel
theorem dX0_has_2 : decode cX0_has 2 = .ok (.getfield 17, 3) := by decide +kernel
theorem dX0_has_5 : decode cX0_has 5 = .ok (.if_icmp .lt 15, 3) := by decide +kernel
theorem dX0_has_8 : decode cX0_has 8 = .ok (.iload_n 1, 1) := by decide +kernel
theorem dX0_has_9 : decode cX0_has 9 = .ok (.aload_n 0, 1) := by decide +kernel
theorem dX0_has_10 : decode cX0_has 10 = .ok (.invokevirtual 26, 3) := by decide +kernel
theorem dX0_has_13 : decode cX0_has 13 = .ok (.if_icmp .ge 7, 3) := by decide +kernel
theorem dX0_has_16 : decode cX0_has 16 = .ok (.iconst 1, 1) := by decide +kernel
theorem dX0_has_17 : decode cX0_has 17 = .ok (.goto 4, 3) := by decide +kernel
theorem dX0_has_20 : decode cX0_has 20 = .ok (.iconst 0, 1) := by decide +kernel
theorem dX0_has_21 : decode cX0_has 21 = .ok (.ireturn, 1) := by decide +kernel
theorem dX0_meets_0 : decode cX0_meets 0 = .ok (.aload_n 0, 1) := by decide +kernel
theorem dX0_meets_1 : decode cX0_meets 1 = .ok (.getfield 17, 3) := by decide +kernel
theorem dX0_meets_4 : decode cX0_meets 4 = .ok (.iload_n 1, 1) := by decide +kernel
theorem dX0_meets_5 : decode cX0_meets 5 = .ok (.iload_n 2, 1) := by decide +kernel
theorem dX0_meets_6 : decode cX0_meets 6 = .ok (.iadd, 1) := by decide +kernel
theorem dX0_meets_7 : decode cX0_meets 7 = .ok (.if_icmp .ge 15, 3) := by decide +kernel
theorem dX0_meets_10 : decode cX0_meets 10 = .ok (.iload_n 1, 1) := by decide +kernel
theorem dX0_meets_11 : decode cX0_meets 11 = .ok (.aload_n 0, 1) := by decide +kernel
theorem dX0_meets_12 : decode cX0_meets 12 = .ok (.invokevirtual 26, 3) := by decide +kernel
theorem dX0_meets_15 : decode cX0_meets 15 = .ok (.if_icmp .ge 7, 3) := by decide +kernel
theorem dX0_meets_18 : decode cX0_meets 18 = .ok (.iconst 1, 1) := by decide +kernel
theorem dX0_meets_19 : decode cX0_meets 19 = .ok (.goto 4, 3) := by decide +kernel
theorem dX0_meets_22 : decode cX0_meets 22 = .ok (.iconst 0, 1) := by decide +kernel
theorem dX0_meets_23 : decode cX0_meets 23 = .ok (.ireturn, 1) := by decide +kernel
theorem dX1_init_0 : decode cX1_init 0 = .ok (.aload_n 0, 1) := by decide +kernel
theorem dX1_init_1 : decode cX1_init 1 = .ok (.invokespecial 1, 3) := by decide +kernel
theorem dX1_init_4 : decode cX1_init 4 = .ok (.aload_n 0, 1) := by decide +kernel
theorem dX1_init_5 : decode cX1_init 5 = .ok (.new 7, 3) := by decide +kernel
theorem dX1_init_8 : decode cX1_init 8 = .ok (.dup, 1) := by decide +kernel
theorem dX1_init_9 : decode cX1_init 9 = .ok (.iconst 0, 1) := by decide +kernel
theorem dX1_init_10 : decode cX1_init 10 = .ok (.aconst_null, 1) := by decide +kernel
theorem dX1_init_11 : decode cX1_init 11 = .ok (.iconst 0, 1) := by decide +kernel
theorem dX1_init_12 : decode cX1_init 12 = .ok (.sipush 4096, 3) := by decide +kernel
theorem dX1_init_15 : decode cX1_init 15 = .ok (.iconst 0, 1) := by decide +kernel
theorem dX1_init_16 : decode cX1_init 16 = .ok (.invokespecial 11, 3) := by decide +kernel
theorem dX1_init_19 : decode cX1_init 19 = .ok (.putfield 14, 3) := by decide +kernel
theorem dX1_init_22 : decode cX1_init 22 = .ok (.aload_n 0, 1) := by decide +kernel
theorem dX1_init_23 : decode cX1_init 23 = .ok (.bipush 60, 2) := by decide +kernel
theorem dX1_init_25 : decode cX1_init 25 = .ok (.anewarray 7, 3) := by decide +kernel
theorem dX1_init_28 : decode cX1_init 28 = .ok (.putfield 18, 3) := by decide +kernel
theorem dX1_init_31 : decode cX1_init 31 = .ok (.aload_n 0, 1) := by decide +kernel
theorem dX1_init_32 : decode cX1_init 32 = .ok (.getfield 18, 3) := by decide +kernel
theorem dX1_init_35 : decode cX1_init 35 = .ok (.iconst 0, 1) := by decide +kernel
theorem dX1_init_36 : decode cX1_init 36 = .ok (.aload_n 0, 1) := by decide +kernel
theorem dX1_init_37 : decode cX1_init 37 = .ok (.getfield 14, 3) := by decide +kernel
theorem dX1_init_40 : decode cX1_init 40 = .ok (.aastore, 1) := by decide +kernel
theorem dX1_init_41 : decode cX1_init 41 = .ok (.aload_n 0, 1) := by decide +kernel
theorem dX1_init_42 : decode cX1_init 42 = .ok (.iconst 1, 1) := by decide +kernel
theorem dX1_init_43 : decode cX1_init 43 = .ok (.putfield 22, 3) := by decide +kernel
theorem dX1_init_46 : decode cX1_init 46 = .ok (.aload_n 0, 1) := by decide +kernel
theorem dX1_init_47 : decode cX1_init 47 = .ok (.sipush 4096, 3) := by decide +kernel
theorem dX1_init_50 : decode cX1_init 50 = .ok (.newarray .int, 2) := by decide +kernel
theorem dX1_init_52 : decode cX1_init 52 = .ok (.putfield 26, 3) := by decide +kernel
theorem dX1_init_55 : decode cX1_init 55 = .ok (.aload_n 0, 1) := by decide +kernel
theorem dX1_init_56 : decode cX1_init 56 = .ok (.iconst 0, 1) := by decide +kernel
theorem dX1_init_57 : decode cX1_init 57 = .ok (.putfield 30, 3) := by decide +kernel
theorem dX1_init_60 : decode cX1_init 60 = .ok (.aload_n 0, 1) := by decide +kernel
theorem dX1_init_61 : decode cX1_init 61 = .ok (.iconst 0, 1) := by decide +kernel
theorem dX1_init_62 : decode cX1_init 62 = .ok (.putfield 33, 3) := by decide +kernel
theorem dX1_init_65 : decode cX1_init 65 = .ok (.aload_n 0, 1) := by decide +kernel
theorem dX1_init_66 : decode cX1_init 66 = .ok (.sipush 4096, 3) := by decide +kernel
theorem dX1_init_69 : decode cX1_init 69 = .ok (.newarray .int, 2) := by decide +kernel
theorem dX1_init_71 : decode cX1_init 71 = .ok (.putfield 36, 3) := by decide +kernel
theorem dX1_init_74 : decode cX1_init 74 = .ok (.aload_n 0, 1) := by decide +kernel
theorem dX1_init_75 : decode cX1_init 75 = .ok (.iconst 0, 1) := by decide +kernel
theorem dX1_init_76 : decode cX1_init 76 = .ok (.putfield 39, 3) := by decide +kernel
theorem dX1_init_79 : decode cX1_init 79 = .ok (.return_, 1) := by decide +kernel
theorem dX1_carve_0 : decode cX1_carve 0 = .ok (.aload_n 0, 1) := by decide +kernel
theorem dX1_carve_1 : decode cX1_carve 1 = .ok (.iload_n 1, 1) := by decide +kernel
theorem dX1_carve_2 : decode cX1_carve 2 = .ok (.invokevirtual 43, 3) := by decide +kernel
theorem dX1_carve_5 : decode cX1_carve 5 = .ok (.astore 5, 2) := by decide +kernel
theorem dX1_carve_7 : decode cX1_carve 7 = .ok (.iload_n 2, 1) := by decide +kernel
theorem dX1_carve_8 : decode cX1_carve 8 = .ok (.invokestatic 47, 3) := by decide +kernel
theorem dX1_carve_11 : decode cX1_carve 11 = .ok (.iload_n 3, 1) := by decide +kernel
theorem dX1_carve_12 : decode cX1_carve 12 = .ok (.invokestatic 51, 3) := by decide +kernel
theorem dX1_carve_15 : decode cX1_carve 15 = .ok (.iload 4, 2) := by decide +kernel
theorem dX1_carve_17 : decode cX1_carve 17 = .ok (.ifCond .lt 9, 3) := by decide +kernel
theorem dX1_carve_20 : decode cX1_carve 20 = .ok (.iload 4, 2) := by decide +kernel
theorem dX1_carve_22 : decode cX1_carve 22 = .ok (.iconst 2, 1) := by decide +kernel
theorem dX1_carve_23 : decode cX1_carve 23 = .ok (.if_icmp .le 13, 3) := by decide +kernel
theorem dX1_carve_26 : decode cX1_carve 26 = .ok (.new 54, 3) := by decide +kernel
theorem dX1_carve_29 : decode cX1_carve 29 = .ok (.dup, 1) := by decide +kernel
theorem dX1_carve_30 : decode cX1_carve 30 = .ok (.ldc 56, 2) := by decide +kernel
theorem dX1_carve_32 : decode cX1_carve 32 = .ok (.invokespecial 58, 3) := by decide +kernel
theorem dX1_carve_35 : decode cX1_carve 35 = .ok (.athrow, 1) := by decide +kernel
theorem dX1_carve_36 : decode cX1_carve 36 = .ok (.aload_n 0, 1) := by decide +kernel
theorem dX1_carve_37 : decode cX1_carve 37 = .ok (.aload 5, 2) := by decide +kernel
theorem dX1_carve_39 : decode cX1_carve 39 = .ok (.iload_n 2, 1) := by decide +kernel
theorem dX1_carve_40 : decode cX1_carve 40 = .ok (.invokevirtual 61, 3) := by decide +kernel
theorem dX1_carve_43 : decode cX1_carve 43 = .ok (.aload_n 0, 1) := by decide +kernel
theorem dX1_carve_44 : decode cX1_carve 44 = .ok (.aload 5, 2) := by decide +kernel
theorem dX1_carve_46 : decode cX1_carve 46 = .ok (.iload_n 2, 1) := by decide +kernel
theorem dX1_carve_47 : decode cX1_carve 47 = .ok (.iload 4, 2) := by decide +kernel
theorem dX1_carve_49 : decode cX1_carve 49 = .ok (.ifCond .ne 7, 3) := by decide +kernel
theorem dX1_carve_52 : decode cX1_carve 52 = .ok (.iconst 1, 1) := by decide +kernel
theorem dX1_carve_53 : decode cX1_carve 53 = .ok (.goto 4, 3) := by decide +kernel
theorem dX1_carve_56 : decode cX1_carve 56 = .ok (.iconst 0, 1) := by decide +kernel
theorem dX1_carve_57 : decode cX1_carve 57 = .ok (.invokevirtual 65, 3) := by decide +kernel
theorem dX1_carve_60 : decode cX1_carve 60 = .ok (.istore 6, 2) := by decide +kernel
theorem dX1_carve_62 : decode cX1_carve 62 = .ok (.iload 6, 2) := by decide +kernel
theorem dX1_carve_64 : decode cX1_carve 64 = .ok (.iconst (-1), 1) := by decide +kernel
theorem dX1_carve_65 : decode cX1_carve 65 = .ok (.if_icmp .ne 13, 3) := by decide +kernel
theorem dX1_carve_68 : decode cX1_carve 68 = .ok (.new 69, 3) := by decide +kernel
theorem dX1_carve_71 : decode cX1_carve 71 = .ok (.dup, 1) := by decide +kernel
theorem dX1_carve_72 : decode cX1_carve 72 = .ok (.ldc 71, 2) := by decide +kernel
theorem dX1_carve_74 : decode cX1_carve 74 = .ok (.invokespecial 73, 3) := by decide +kernel
theorem dX1_carve_77 : decode cX1_carve 77 = .ok (.athrow, 1) := by decide +kernel
theorem dX1_carve_78 : decode cX1_carve 78 = .ok (.aload_n 0, 1) := by decide +kernel
theorem dX1_carve_79 : decode cX1_carve 79 = .ok (.aload 5, 2) := by decide +kernel
theorem dX1_carve_81 : decode cX1_carve 81 = .ok (.iload 6, 2) := by decide +kernel
theorem dX1_carve_83 : decode cX1_carve 83 = .ok (.invokevirtual 74, 3) := by decide +kernel
theorem dX1_carve_86 : decode cX1_carve 86 = .ok (.istore 7, 2) := by decide +kernel
theorem dX1_carve_88 : decode cX1_carve 88 = .ok (.iload 4, 2) := by decide +kernel
theorem dX1_carve_90 : decode cX1_carve 90 = .ok (.iconst 2, 1) := by decide +kernel
theorem dX1_carve_91 : decode cX1_carve 91 = .ok (.if_icmp .ne 19, 3) := by decide +kernel
theorem dX1_carve_94 : decode cX1_carve 94 = .ok (.iload 7, 2) := by decide +kernel
theorem dX1_carve_96 : decode cX1_carve 96 = .ok (.iload_n 2, 1) := by decide +kernel
theorem dX1_carve_97 : decode cX1_carve 97 = .ok (.if_icmp .le 13, 3) := by decide +kernel
theorem dX1_carve_100 : decode cX1_carve 100 = .ok (.iload 6, 2) := by decide +kernel
theorem dX1_carve_102 : decode cX1_carve 102 = .ok (.iload 7, 2) := by decide +kernel
theorem dX1_carve_104 : decode cX1_carve 104 = .ok (.iconst 2, 1) := by decide +kernel
theorem dX1_carve_105 : decode cX1_carve 105 = .ok (.idiv, 1) := by decide +kernel
theorem dX1_carve_106 : decode cX1_carve 106 = .ok (.iadd, 1) := by decide +kernel
theorem dX1_carve_107 : decode cX1_carve 107 = .ok (.goto 5, 3) := by decide +kernel
theorem dX1_carve_110 : decode cX1_carve 110 = .ok (.iload 6, 2) := by decide +kernel
theorem dX1_carve_112 : decode cX1_carve 112 = .ok (.istore 8, 2) := by decide +kernel
theorem dX1_carve_114 : decode cX1_carve 114 = .ok (.aload_n 0, 1) := by decide +kernel
theorem dX1_carve_115 : decode cX1_carve 115 = .ok (.aload 5, 2) := by decide +kernel
theorem dX1_carve_117 : decode cX1_carve 117 = .ok (.iload 8, 2) := by decide +kernel
theorem dX1_carve_119 : decode cX1_carve 119 = .ok (.iload_n 2, 1) := by decide +kernel
theorem dX1_carve_120 : decode cX1_carve 120 = .ok (.iload_n 3, 1) := by decide +kernel
theorem dX1_carve_121 : decode cX1_carve 121 = .ok (.invokevirtual 78, 3) := by decide +kernel
theorem dX1_carve_124 : decode cX1_carve 124 = .ok (.ireturn, 1) := by decide +kernel
theorem dX1_carveAt_0 : decode cX1_carveAt 0 = .ok (.aload_n 0, 1) := by decide +kernel
theorem dX1_carveAt_1 : decode cX1_carveAt 1 = .ok (.iload_n 1, 1) := by decide +kernel
theorem dX1_carveAt_2 : decode cX1_carveAt 2 = .ok (.invokevirtual 43, 3) := by decide +kernel
theorem dX1_carveAt_5 : decode cX1_carveAt 5 = .ok (.astore 5, 2) := by decide +kernel
theorem dX1_carveAt_7 : decode cX1_carveAt 7 = .ok (.iload_n 3, 1) := by decide +kernel
theorem dX1_carveAt_8 : decode cX1_carveAt 8 = .ok (.invokestatic 47, 3) := by decide +kernel
theorem dX1_carveAt_11 : decode cX1_carveAt 11 = .ok (.iload 4, 2) := by decide +kernel
theorem dX1_carveAt_13 : decode cX1_carveAt 13 = .ok (.invokestatic 51, 3) := by decide +kernel
theorem dX1_carveAt_16 : decode cX1_carveAt 16 = .ok (.iload_n 2, 1) := by decide +kernel
theorem dX1_carveAt_17 : decode cX1_carveAt 17 = .ok (.ifCond .lt 11, 3) := by decide +kernel
theorem dX1_carveAt_20 : decode cX1_carveAt 20 = .ok (.iload_n 2, 1) := by decide +kernel
theorem dX1_carveAt_21 : decode cX1_carveAt 21 = .ok (.iload_n 3, 1) := by decide +kernel
theorem dX1_carveAt_22 : decode cX1_carveAt 22 = .ok (.iconst 1, 1) := by decide +kernel
theorem dX1_carveAt_23 : decode cX1_carveAt 23 = .ok (.isub, 1) := by decide +kernel
theorem dX1_carveAt_24 : decode cX1_carveAt 24 = .ok (.iand, 1) := by decide +kernel
theorem dX1_carveAt_25 : decode cX1_carveAt 25 = .ok (.ifCond .eq 13, 3) := by decide +kernel
theorem dX1_carveAt_28 : decode cX1_carveAt 28 = .ok (.new 54, 3) := by decide +kernel
theorem dX1_carveAt_31 : decode cX1_carveAt 31 = .ok (.dup, 1) := by decide +kernel
theorem dX1_carveAt_32 : decode cX1_carveAt 32 = .ok (.ldc 82, 2) := by decide +kernel
theorem dX1_carveAt_34 : decode cX1_carveAt 34 = .ok (.invokespecial 58, 3) := by decide +kernel
theorem dX1_carveAt_37 : decode cX1_carveAt 37 = .ok (.athrow, 1) := by decide +kernel
theorem dX1_carveAt_38 : decode cX1_carveAt 38 = .ok (.aload_n 0, 1) := by decide +kernel
theorem dX1_carveAt_39 : decode cX1_carveAt 39 = .ok (.aload 5, 2) := by decide +kernel
theorem dX1_carveAt_41 : decode cX1_carveAt 41 = .ok (.iload_n 3, 1) := by decide +kernel
theorem dX1_carveAt_42 : decode cX1_carveAt 42 = .ok (.invokevirtual 61, 3) := by decide +kernel
theorem dX1_carveAt_45 : decode cX1_carveAt 45 = .ok (.aload 5, 2) := by decide +kernel
theorem dX1_carveAt_47 : decode cX1_carveAt 47 = .ok (.iload_n 2, 1) := by decide +kernel
theorem dX1_carveAt_48 : decode cX1_carveAt 48 = .ok (.invokevirtual 84, 3) := by decide +kernel
theorem dX1_carveAt_51 : decode cX1_carveAt 51 = .ok (.ifCond .eq 14, 3) := by decide +kernel
theorem dX1_carveAt_54 : decode cX1_carveAt 54 = .ok (.aload_n 0, 1) := by decide +kernel
theorem dX1_carveAt_55 : decode cX1_carveAt 55 = .ok (.aload 5, 2) := by decide +kernel
theorem dX1_carveAt_57 : decode cX1_carveAt 57 = .ok (.iload_n 2, 1) := by decide +kernel
theorem dX1_carveAt_58 : decode cX1_carveAt 58 = .ok (.iload_n 3, 1) := by decide +kernel
theorem dX1_carveAt_59 : decode cX1_carveAt 59 = .ok (.invokevirtual 88, 3) := by decide +kernel
theorem dX1_carveAt_62 : decode cX1_carveAt 62 = .ok (.ifCond .le 13, 3) := by decide +kernel
theorem dX1_carveAt_65 : decode cX1_carveAt 65 = .ok (.new 69, 3) := by decide +kernel
theorem dX1_carveAt_68 : decode cX1_carveAt 68 = .ok (.dup, 1) := by decide +kernel
theorem dX1_carveAt_69 : decode cX1_carveAt 69 = .ok (.ldc 92, 2) := by decide +kernel
theorem dX1_carveAt_71 : decode cX1_carveAt 71 = .ok (.invokespecial 73, 3) := by decide +kernel
theorem dX1_carveAt_74 : decode cX1_carveAt 74 = .ok (.athrow, 1) := by decide +kernel
theorem dX1_carveAt_75 : decode cX1_carveAt 75 = .ok (.aload_n 0, 1) := by decide +kernel
theorem dX1_carveAt_76 : decode cX1_carveAt 76 = .ok (.aload 5, 2) := by decide +kernel
theorem dX1_carveAt_78 : decode cX1_carveAt 78 = .ok (.iload_n 2, 1) := by decide +kernel
theorem dX1_carveAt_79 : decode cX1_carveAt 79 = .ok (.iload_n 3, 1) := by decide +kernel
theorem dX1_carveAt_80 : decode cX1_carveAt 80 = .ok (.iload 4, 2) := by decide +kernel
theorem dX1_carveAt_82 : decode cX1_carveAt 82 = .ok (.invokevirtual 78, 3) := by decide +kernel
theorem dX1_carveAt_85 : decode cX1_carveAt 85 = .ok (.ireturn, 1) := by decide +kernel
theorem dX1_remove_0 : decode cX1_remove 0 = .ok (.aload_n 0, 1) := by decide +kernel
theorem dX1_remove_1 : decode cX1_remove 1 = .ok (.iload_n 1, 1) := by decide +kernel
theorem dX1_remove_2 : decode cX1_remove 2 = .ok (.invokevirtual 43, 3) := by decide +kernel
theorem dX1_remove_5 : decode cX1_remove 5 = .ok (.astore_n 2, 1) := by decide +kernel
theorem dX1_remove_6 : decode cX1_remove 6 = .ok (.aload_n 2, 1) := by decide +kernel
theorem dX1_remove_7 : decode cX1_remove 7 = .ok (.getfield 94, 3) := by decide +kernel
theorem dX1_remove_10 : decode cX1_remove 10 = .ok (.ifnull 26, 3) := by decide +kernel
theorem dX1_remove_13 : decode cX1_remove 13 = .ok (.aload_n 0, 1) := by decide +kernel
theorem dX1_remove_14 : decode cX1_remove 14 = .ok (.aload_n 2, 1) := by decide +kernel
theorem dX1_remove_15 : decode cX1_remove 15 = .ok (.invokevirtual 97, 3) := by decide +kernel
theorem dX1_remove_18 : decode cX1_remove 18 = .ok (.ifCond .ne 18, 3) := by decide +kernel
theorem dX1_remove_21 : decode cX1_remove 21 = .ok (.aload_n 0, 1) := by decide +kernel
theorem dX1_remove_22 : decode cX1_remove 22 = .ok (.aload_n 2, 1) := by decide +kernel
theorem dX1_remove_23 : decode cX1_remove 23 = .ok (.getfield 101, 3) := by decide +kernel
theorem dX1_remove_26 : decode cX1_remove 26 = .ok (.aload_n 2, 1) := by decide +kernel
theorem dX1_remove_27 : decode cX1_remove 27 = .ok (.invokevirtual 104, 3) := by decide +kernel
theorem dX1_remove_30 : decode cX1_remove 30 = .ok (.invokevirtual 108, 3) := by decide +kernel
theorem dX1_remove_33 : decode cX1_remove 33 = .ok (.ifCond .le 13, 3) := by decide +kernel
theorem dX1_remove_36 : decode cX1_remove 36 = .ok (.new 69, 3) := by decide +kernel
theorem dX1_remove_39 : decode cX1_remove 39 = .ok (.dup, 1) := by decide +kernel
theorem dX1_remove_40 : decode cX1_remove 40 = .ok (.ldc 112, 2) := by decide +kernel
theorem dX1_remove_42 : decode cX1_remove 42 = .ok (.invokespecial 73, 3) := by decide +kernel
theorem dX1_remove_45 : decode cX1_remove 45 = .ok (.athrow, 1) := by decide +kernel
theorem dX1_remove_46 : decode cX1_remove 46 = .ok (.aload_n 0, 1) := by decide +kernel
theorem dX1_remove_47 : decode cX1_remove 47 = .ok (.getfield 18, 3) := by decide +kernel
theorem dX1_remove_50 : decode cX1_remove 50 = .ok (.iload_n 1, 1) := by decide +kernel
theorem dX1_remove_51 : decode cX1_remove 51 = .ok (.aconst_null, 1) := by decide +kernel
theorem dX1_remove_52 : decode cX1_remove 52 = .ok (.aastore, 1) := by decide +kernel
theorem dX1_remove_53 : decode cX1_remove 53 = .ok (.aload_n 0, 1) := by decide +kernel
theorem dX1_remove_54 : decode cX1_remove 54 = .ok (.iconst 0, 1) := by decide +kernel
theorem dX1_remove_55 : decode cX1_remove 55 = .ok (.putfield 39, 3) := by decide +kernel
theorem dX1_remove_58 : decode cX1_remove 58 = .ok (.aload_n 2, 1) := by decide +kernel
theorem dX1_remove_59 : decode cX1_remove 59 = .ok (.getfield 114, 3) := by decide +kernel
theorem dX1_remove_62 : decode cX1_remove 62 = .ok (.ireturn, 1) := by decide +kernel
theorem dX1_grow_0 : decode cX1_grow 0 = .ok (.aload_n 0, 1) := by decide +kernel
theorem dX1_grow_1 : decode cX1_grow 1 = .ok (.iload_n 1, 1) := by decide +kernel
theorem dX1_grow_2 : decode cX1_grow 2 = .ok (.invokevirtual 43, 3) := by decide +kernel
theorem dX1_grow_5 : decode cX1_grow 5 = .ok (.astore_n 2, 1) := by decide +kernel
theorem dX1_grow_6 : decode cX1_grow 6 = .ok (.aload_n 2, 1) := by decide +kernel
theorem dX1_grow_7 : decode cX1_grow 7 = .ok (.getfield 94, 3) := by decide +kernel
theorem dX1_grow_10 : decode cX1_grow 10 = .ok (.astore_n 3, 1) := by decide +kernel
theorem dX1_grow_11 : decode cX1_grow 11 = .ok (.iconst 2, 1) := by decide +kernel
theorem dX1_grow_12 : decode cX1_grow 12 = .ok (.aload_n 2, 1) := by decide +kernel
theorem dX1_grow_13 : decode cX1_grow 13 = .ok (.getfield 114, 3) := by decide +kernel
theorem dX1_grow_16 : decode cX1_grow 16 = .ok (.imul, 1) := by decide +kernel
theorem dX1_grow_17 : decode cX1_grow 17 = .ok (.istore 4, 2) := by decide +kernel
theorem dX1_grow_19 : decode cX1_grow 19 = .ok (.aload_n 3, 1) := by decide +kernel
theorem dX1_grow_20 : decode cX1_grow 20 = .ok (.ifnull 12, 3) := by decide +kernel
theorem dX1_grow_23 : decode cX1_grow 23 = .ok (.iload 4, 2) := by decide +kernel
theorem dX1_grow_25 : decode cX1_grow 25 = .ok (.aload_n 3, 1) := by decide +kernel
theorem dX1_grow_26 : decode cX1_grow 26 = .ok (.getfield 114, 3) := by decide +kernel
theorem dX1_grow_29 : decode cX1_grow 29 = .ok (.if_icmp .lt 13, 3) := by decide +kernel
theorem dX1_grow_32 : decode cX1_grow 32 = .ok (.new 69, 3) := by decide +kernel
theorem dX1_grow_35 : decode cX1_grow 35 = .ok (.dup, 1) := by decide +kernel
theorem dX1_grow_36 : decode cX1_grow 36 = .ok (.ldc 117, 2) := by decide +kernel
theorem dX1_grow_38 : decode cX1_grow 38 = .ok (.invokespecial 73, 3) := by decide +kernel
theorem dX1_grow_41 : decode cX1_grow 41 = .ok (.athrow, 1) := by decide +kernel
theorem dX1_grow_42 : decode cX1_grow 42 = .ok (.aload_n 2, 1) := by decide +kernel
theorem dX1_grow_43 : decode cX1_grow 43 = .ok (.getfield 101, 3) := by decide +kernel
theorem dX1_grow_46 : decode cX1_grow 46 = .ok (.iload 4, 2) := by decide +kernel
theorem dX1_grow_48 : decode cX1_grow 48 = .ok (.ineg, 1) := by decide +kernel
theorem dX1_grow_49 : decode cX1_grow 49 = .ok (.iand, 1) := by decide +kernel
theorem dX1_grow_50 : decode cX1_grow 50 = .ok (.istore 5, 2) := by decide +kernel
theorem dX1_grow_52 : decode cX1_grow 52 = .ok (.aload_n 0, 1) := by decide +kernel
theorem dX1_grow_53 : decode cX1_grow 53 = .ok (.aload_n 3, 1) := by decide +kernel
theorem dX1_grow_54 : decode cX1_grow 54 = .ok (.iload 5, 2) := by decide +kernel
theorem dX1_grow_56 : decode cX1_grow 56 = .ok (.iload 4, 2) := by decide +kernel
theorem dX1_grow_58 : decode cX1_grow 58 = .ok (.invokevirtual 88, 3) := by decide +kernel
theorem dX1_grow_61 : decode cX1_grow 61 = .ok (.iconst 1, 1) := by decide +kernel
theorem dX1_grow_62 : decode cX1_grow 62 = .ok (.if_icmp .le 13, 3) := by decide +kernel
theorem dX1_grow_65 : decode cX1_grow 65 = .ok (.new 69, 3) := by decide +kernel
theorem dX1_grow_68 : decode cX1_grow 68 = .ok (.dup, 1) := by decide +kernel
theorem dX1_grow_69 : decode cX1_grow 69 = .ok (.ldc 119, 2) := by decide +kernel
theorem dX1_grow_71 : decode cX1_grow 71 = .ok (.invokespecial 73, 3) := by decide +kernel
theorem dX1_grow_74 : decode cX1_grow 74 = .ok (.athrow, 1) := by decide +kernel
theorem dX1_grow_75 : decode cX1_grow 75 = .ok (.aload_n 2, 1) := by decide +kernel
theorem dX1_grow_76 : decode cX1_grow 76 = .ok (.iload 5, 2) := by decide +kernel
theorem dX1_grow_78 : decode cX1_grow 78 = .ok (.putfield 101, 3) := by decide +kernel
theorem dX1_grow_81 : decode cX1_grow 81 = .ok (.aload_n 2, 1) := by decide +kernel
theorem dX1_grow_82 : decode cX1_grow 82 = .ok (.iload 4, 2) := by decide +kernel
theorem dX1_grow_84 : decode cX1_grow 84 = .ok (.putfield 114, 3) := by decide +kernel
theorem dX1_grow_87 : decode cX1_grow 87 = .ok (.aload_n 0, 1) := by decide +kernel
theorem dX1_grow_88 : decode cX1_grow 88 = .ok (.iconst 0, 1) := by decide +kernel
theorem dX1_grow_89 : decode cX1_grow 89 = .ok (.putfield 39, 3) := by decide +kernel
theorem dX1_grow_92 : decode cX1_grow 92 = .ok (.iload 5, 2) := by decide +kernel
theorem dX1_grow_94 : decode cX1_grow 94 = .ok (.ireturn, 1) := by decide +kernel
theorem dX1_halve_0 : decode cX1_halve 0 = .ok (.aload_n 0, 1) := by decide +kernel
theorem dX1_halve_1 : decode cX1_halve 1 = .ok (.iload_n 1, 1) := by decide +kernel
theorem dX1_halve_2 : decode cX1_halve 2 = .ok (.invokevirtual 43, 3) := by decide +kernel
theorem dX1_halve_5 : decode cX1_halve 5 = .ok (.astore_n 2, 1) := by decide +kernel
theorem dX1_halve_6 : decode cX1_halve 6 = .ok (.aload_n 2, 1) := by decide +kernel
theorem dX1_halve_7 : decode cX1_halve 7 = .ok (.getfield 114, 3) := by decide +kernel
theorem dX1_halve_10 : decode cX1_halve 10 = .ok (.iconst 2, 1) := by decide +kernel
theorem dX1_halve_11 : decode cX1_halve 11 = .ok (.idiv, 1) := by decide +kernel
theorem dX1_halve_12 : decode cX1_halve 12 = .ok (.istore_n 3, 1) := by decide +kernel
theorem dX1_halve_13 : decode cX1_halve 13 = .ok (.aload_n 2, 1) := by decide +kernel
theorem dX1_halve_14 : decode cX1_halve 14 = .ok (.getfield 101, 3) := by decide +kernel
theorem dX1_halve_17 : decode cX1_halve 17 = .ok (.iload_n 3, 1) := by decide +kernel
theorem dX1_halve_18 : decode cX1_halve 18 = .ok (.iadd, 1) := by decide +kernel
theorem dX1_halve_19 : decode cX1_halve 19 = .ok (.istore 4, 2) := by decide +kernel
theorem dX1_halve_21 : decode cX1_halve 21 = .ok (.aload_n 2, 1) := by decide +kernel
theorem dX1_halve_22 : decode cX1_halve 22 = .ok (.getfield 94, 3) := by decide +kernel
theorem dX1_halve_25 : decode cX1_halve 25 = .ok (.ifnull 7, 3) := by decide +kernel
theorem dX1_halve_28 : decode cX1_halve 28 = .ok (.iload_n 3, 1) := by decide +kernel
theorem dX1_halve_29 : decode cX1_halve 29 = .ok (.ifCond .ne 13, 3) := by decide +kernel
theorem dX1_halve_32 : decode cX1_halve 32 = .ok (.new 69, 3) := by decide +kernel
theorem dX1_halve_35 : decode cX1_halve 35 = .ok (.dup, 1) := by decide +kernel
theorem dX1_halve_36 : decode cX1_halve 36 = .ok (.ldc 121, 2) := by decide +kernel
theorem dX1_halve_38 : decode cX1_halve 38 = .ok (.invokespecial 73, 3) := by decide +kernel
theorem dX1_halve_41 : decode cX1_halve 41 = .ok (.athrow, 1) := by decide +kernel
theorem dX1_halve_42 : decode cX1_halve 42 = .ok (.aload_n 0, 1) := by decide +kernel
theorem dX1_halve_43 : decode cX1_halve 43 = .ok (.aload_n 2, 1) := by decide +kernel
theorem dX1_halve_44 : decode cX1_halve 44 = .ok (.iload 4, 2) := by decide +kernel
theorem dX1_halve_46 : decode cX1_halve 46 = .ok (.iload_n 3, 1) := by decide +kernel
theorem dX1_halve_47 : decode cX1_halve 47 = .ok (.invokevirtual 88, 3) := by decide +kernel
theorem dX1_halve_50 : decode cX1_halve 50 = .ok (.ifCond .gt 16, 3) := by decide +kernel
theorem dX1_halve_53 : decode cX1_halve 53 = .ok (.aload_n 0, 1) := by decide +kernel
theorem dX1_halve_54 : decode cX1_halve 54 = .ok (.iload 4, 2) := by decide +kernel
theorem dX1_halve_56 : decode cX1_halve 56 = .ok (.aload_n 2, 1) := by decide +kernel
theorem dX1_halve_57 : decode cX1_halve 57 = .ok (.invokevirtual 104, 3) := by decide +kernel
theorem dX1_halve_60 : decode cX1_halve 60 = .ok (.invokevirtual 108, 3) := by decide +kernel
theorem dX1_halve_63 : decode cX1_halve 63 = .ok (.ifCond .le 13, 3) := by decide +kernel
theorem dX1_halve_66 : decode cX1_halve 66 = .ok (.new 69, 3) := by decide +kernel
theorem dX1_halve_69 : decode cX1_halve 69 = .ok (.dup, 1) := by decide +kernel
theorem dX1_halve_70 : decode cX1_halve 70 = .ok (.ldc 123, 2) := by decide +kernel
theorem dX1_halve_72 : decode cX1_halve 72 = .ok (.invokespecial 73, 3) := by decide +kernel
theorem dX1_halve_75 : decode cX1_halve 75 = .ok (.athrow, 1) := by decide +kernel
theorem dX1_halve_76 : decode cX1_halve 76 = .ok (.aload_n 2, 1) := by decide +kernel
theorem dX1_halve_77 : decode cX1_halve 77 = .ok (.iload_n 3, 1) := by decide +kernel
theorem dX1_halve_78 : decode cX1_halve 78 = .ok (.putfield 114, 3) := by decide +kernel
theorem dX1_halve_81 : decode cX1_halve 81 = .ok (.aload_n 0, 1) := by decide +kernel
theorem dX1_halve_82 : decode cX1_halve 82 = .ok (.iconst 0, 1) := by decide +kernel
theorem dX1_halve_83 : decode cX1_halve 83 = .ok (.putfield 39, 3) := by decide +kernel
theorem dX1_halve_86 : decode cX1_halve 86 = .ok (.iload_n 3, 1) := by decide +kernel
theorem dX1_halve_87 : decode cX1_halve 87 = .ok (.ireturn, 1) := by decide +kernel
theorem dX1_setOwner_0 : decode cX1_setOwner 0 = .ok (.aload_n 0, 1) := by decide +kernel
theorem dX1_setOwner_1 : decode cX1_setOwner 1 = .ok (.iload_n 1, 1) := by decide +kernel
theorem dX1_setOwner_2 : decode cX1_setOwner 2 = .ok (.invokevirtual 43, 3) := by decide +kernel
theorem dX1_setOwner_5 : decode cX1_setOwner 5 = .ok (.astore_n 3, 1) := by decide +kernel
theorem dX1_setOwner_6 : decode cX1_setOwner 6 = .ok (.iload_n 2, 1) := by decide +kernel
theorem dX1_setOwner_7 : decode cX1_setOwner 7 = .ok (.invokestatic 51, 3) := by decide +kernel
theorem dX1_setOwner_10 : decode cX1_setOwner 10 = .ok (.aload_n 3, 1) := by decide +kernel
theorem dX1_setOwner_11 : decode cX1_setOwner 11 = .ok (.getfield 125, 3) := by decide +kernel
theorem dX1_setOwner_14 : decode cX1_setOwner 14 = .ok (.istore 4, 2) := by decide +kernel
theorem dX1_setOwner_16 : decode cX1_setOwner 16 = .ok (.aload_n 3, 1) := by decide +kernel
theorem dX1_setOwner_17 : decode cX1_setOwner 17 = .ok (.iload_n 2, 1) := by decide +kernel
theorem dX1_setOwner_18 : decode cX1_setOwner 18 = .ok (.putfield 125, 3) := by decide +kernel
theorem dX1_setOwner_21 : decode cX1_setOwner 21 = .ok (.iload 4, 2) := by decide +kernel
theorem dX1_setOwner_23 : decode cX1_setOwner 23 = .ok (.ireturn, 1) := by decide +kernel
theorem dX1_lend_0 : decode cX1_lend 0 = .ok (.aload_n 0, 1) := by decide +kernel
theorem dX1_lend_1 : decode cX1_lend 1 = .ok (.iload_n 1, 1) := by decide +kernel
theorem dX1_lend_2 : decode cX1_lend 2 = .ok (.invokevirtual 43, 3) := by decide +kernel
theorem dX1_lend_5 : decode cX1_lend 5 = .ok (.astore_n 3, 1) := by decide +kernel
theorem dX1_lend_6 : decode cX1_lend 6 = .ok (.iload_n 2, 1) := by decide +kernel
theorem dX1_lend_7 : decode cX1_lend 7 = .ok (.ifCond .lt 9, 3) := by decide +kernel
theorem dX1_lend_10 : decode cX1_lend 10 = .ok (.iload_n 2, 1) := by decide +kernel
theorem dX1_lend_11 : decode cX1_lend 11 = .ok (.bipush 100, 2) := by decide +kernel
theorem dX1_lend_13 : decode cX1_lend 13 = .ok (.if_icmp .le 13, 3) := by decide +kernel
theorem dX1_lend_16 : decode cX1_lend 16 = .ok (.new 54, 3) := by decide +kernel
theorem dX1_lend_19 : decode cX1_lend 19 = .ok (.dup, 1) := by decide +kernel
theorem dX1_lend_20 : decode cX1_lend 20 = .ok (.ldc 128, 2) := by decide +kernel
theorem dX1_lend_22 : decode cX1_lend 22 = .ok (.invokespecial 58, 3) := by decide +kernel
theorem dX1_lend_25 : decode cX1_lend 25 = .ok (.athrow, 1) := by decide +kernel
theorem dX1_lend_26 : decode cX1_lend 26 = .ok (.aload_n 0, 1) := by decide +kernel
theorem dX1_lend_27 : decode cX1_lend 27 = .ok (.getfield 30, 3) := by decide +kernel
theorem dX1_lend_30 : decode cX1_lend 30 = .ok (.sipush 200, 3) := by decide +kernel
theorem dX1_lend_33 : decode cX1_lend 33 = .ok (.if_icmp .ge 11, 3) := by decide +kernel
theorem dX1_lend_36 : decode cX1_lend 36 = .ok (.aload_n 0, 1) := by decide +kernel
theorem dX1_lend_37 : decode cX1_lend 37 = .ok (.aload_n 3, 1) := by decide +kernel
theorem dX1_lend_38 : decode cX1_lend 38 = .ok (.invokevirtual 97, 3) := by decide +kernel
theorem dX1_lend_41 : decode cX1_lend 41 = .ok (.ifCond .eq 13, 3) := by decide +kernel
theorem dX1_lend_44 : decode cX1_lend 44 = .ok (.new 69, 3) := by decide +kernel
theorem dX1_lend_47 : decode cX1_lend 47 = .ok (.dup, 1) := by decide +kernel
theorem dX1_lend_48 : decode cX1_lend 48 = .ok (.ldc 130, 2) := by decide +kernel
theorem dX1_lend_50 : decode cX1_lend 50 = .ok (.invokespecial 73, 3) := by decide +kernel
theorem dX1_lend_53 : decode cX1_lend 53 = .ok (.athrow, 1) := by decide +kernel
theorem dX1_lend_54 : decode cX1_lend 54 = .ok (.aload_n 0, 1) := by decide +kernel
theorem dX1_lend_55 : decode cX1_lend 55 = .ok (.aload_n 3, 1) := by decide +kernel
theorem dX1_lend_56 : decode cX1_lend 56 = .ok (.invokevirtual 132, 3) := by decide +kernel
theorem dX1_lend_59 : decode cX1_lend 59 = .ok (.istore 4, 2) := by decide +kernel
theorem dX1_lend_61 : decode cX1_lend 61 = .ok (.iload 4, 2) := by decide +kernel
theorem dX1_lend_63 : decode cX1_lend 63 = .ok (.invokestatic 136, 3) := by decide +kernel
theorem dX1_lend_66 : decode cX1_lend 66 = .ok (.ifCond .ne 13, 3) := by decide +kernel
theorem dX1_lend_69 : decode cX1_lend 69 = .ok (.new 69, 3) := by decide +kernel
theorem dX1_lend_72 : decode cX1_lend 72 = .ok (.dup, 1) := by decide +kernel
theorem dX1_lend_73 : decode cX1_lend 73 = .ok (.ldc 139, 2) := by decide +kernel
theorem dX1_lend_75 : decode cX1_lend 75 = .ok (.invokespecial 73, 3) := by decide +kernel
theorem dX1_lend_78 : decode cX1_lend 78 = .ok (.athrow, 1) := by decide +kernel
theorem dX1_lend_79 : decode cX1_lend 79 = .ok (.aload_n 0, 1) := by decide +kernel
theorem dX1_lend_80 : decode cX1_lend 80 = .ok (.getfield 26, 3) := by decide +kernel
theorem dX1_lend_83 : decode cX1_lend 83 = .ok (.iload 4, 2) := by decide +kernel
theorem dX1_lend_85 : decode cX1_lend 85 = .ok (.iload_n 2, 1) := by decide +kernel
theorem dX1_lend_86 : decode cX1_lend 86 = .ok (.ifCond .ne 7, 3) := by decide +kernel
theorem dX1_lend_89 : decode cX1_lend 89 = .ok (.iconst (-1), 1) := by decide +kernel
theorem dX1_lend_90 : decode cX1_lend 90 = .ok (.goto 9, 3) := by decide +kernel
theorem dX1_lend_93 : decode cX1_lend 93 = .ok (.aload_n 0, 1) := by decide +kernel
theorem dX1_lend_94 : decode cX1_lend 94 = .ok (.getfield 33, 3) := by decide +kernel
theorem dX1_lend_97 : decode cX1_lend 97 = .ok (.iload_n 2, 1) := by decide +kernel
theorem dX1_lend_98 : decode cX1_lend 98 = .ok (.iadd, 1) := by decide +kernel
theorem dX1_lend_99 : decode cX1_lend 99 = .ok (.iastore, 1) := by decide +kernel
theorem dX1_lend_100 : decode cX1_lend 100 = .ok (.aload_n 0, 1) := by decide +kernel
theorem dX1_lend_101 : decode cX1_lend 101 = .ok (.dup, 1) := by decide +kernel
theorem dX1_lend_102 : decode cX1_lend 102 = .ok (.getfield 30, 3) := by decide +kernel
theorem dX1_lend_105 : decode cX1_lend 105 = .ok (.iconst 1, 1) := by decide +kernel
theorem dX1_lend_106 : decode cX1_lend 106 = .ok (.iadd, 1) := by decide +kernel
theorem dX1_lend_107 : decode cX1_lend 107 = .ok (.putfield 30, 3) := by decide +kernel
theorem dX1_lend_110 : decode cX1_lend 110 = .ok (.iload 4, 2) := by decide +kernel
theorem dX1_lend_112 : decode cX1_lend 112 = .ok (.ireturn, 1) := by decide +kernel
theorem dX1_takeBack_0 : decode cX1_takeBack 0 = .ok (.iload_n 1, 1) := by decide +kernel
theorem dX1_takeBack_1 : decode cX1_takeBack 1 = .ok (.invokestatic 141, 3) := by decide +kernel
theorem dX1_takeBack_4 : decode cX1_takeBack 4 = .ok (.aload_n 0, 1) := by decide +kernel
theorem dX1_takeBack_5 : decode cX1_takeBack 5 = .ok (.getfield 26, 3) := by decide +kernel
theorem dX1_takeBack_8 : decode cX1_takeBack 8 = .ok (.iload_n 1, 1) := by decide +kernel
theorem dX1_takeBack_9 : decode cX1_takeBack 9 = .ok (.iaload, 1) := by decide +kernel
theorem dX1_takeBack_10 : decode cX1_takeBack 10 = .ok (.istore_n 2, 1) := by decide +kernel
theorem dX1_takeBack_11 : decode cX1_takeBack 11 = .ok (.iload_n 2, 1) := by decide +kernel
theorem dX1_takeBack_12 : decode cX1_takeBack 12 = .ok (.ifCond .ne 13, 3) := by decide +kernel
theorem dX1_takeBack_15 : decode cX1_takeBack 15 = .ok (.new 69, 3) := by decide +kernel
theorem dX1_takeBack_18 : decode cX1_takeBack 18 = .ok (.dup, 1) := by decide +kernel
theorem dX1_takeBack_19 : decode cX1_takeBack 19 = .ok (.ldc 144, 2) := by decide +kernel
theorem dX1_takeBack_21 : decode cX1_takeBack 21 = .ok (.invokespecial 73, 3) := by decide +kernel
theorem dX1_takeBack_24 : decode cX1_takeBack 24 = .ok (.athrow, 1) := by decide +kernel
theorem dX1_takeBack_25 : decode cX1_takeBack 25 = .ok (.aload_n 0, 1) := by decide +kernel
theorem dX1_takeBack_26 : decode cX1_takeBack 26 = .ok (.getfield 26, 3) := by decide +kernel
theorem dX1_takeBack_29 : decode cX1_takeBack 29 = .ok (.iload_n 1, 1) := by decide +kernel
theorem dX1_takeBack_30 : decode cX1_takeBack 30 = .ok (.iconst 0, 1) := by decide +kernel
theorem dX1_takeBack_31 : decode cX1_takeBack 31 = .ok (.iastore, 1) := by decide +kernel
theorem dX1_takeBack_32 : decode cX1_takeBack 32 = .ok (.aload_n 0, 1) := by decide +kernel
theorem dX1_takeBack_33 : decode cX1_takeBack 33 = .ok (.dup, 1) := by decide +kernel
theorem dX1_takeBack_34 : decode cX1_takeBack 34 = .ok (.getfield 30, 3) := by decide +kernel
theorem dX1_takeBack_37 : decode cX1_takeBack 37 = .ok (.iconst 1, 1) := by decide +kernel
theorem dX1_takeBack_38 : decode cX1_takeBack 38 = .ok (.isub, 1) := by decide +kernel
theorem dX1_takeBack_39 : decode cX1_takeBack 39 = .ok (.putfield 30, 3) := by decide +kernel
theorem dX1_takeBack_42 : decode cX1_takeBack 42 = .ok (.iload_n 2, 1) := by decide +kernel
theorem dX1_takeBack_43 : decode cX1_takeBack 43 = .ok (.iconst (-1), 1) := by decide +kernel
theorem dX1_takeBack_44 : decode cX1_takeBack 44 = .ok (.if_icmp .ne 7, 3) := by decide +kernel
theorem dX1_takeBack_47 : decode cX1_takeBack 47 = .ok (.iconst 0, 1) := by decide +kernel
theorem dX1_takeBack_48 : decode cX1_takeBack 48 = .ok (.goto 9, 3) := by decide +kernel
theorem dX1_takeBack_51 : decode cX1_takeBack 51 = .ok (.iload_n 2, 1) := by decide +kernel
theorem dX1_takeBack_52 : decode cX1_takeBack 52 = .ok (.aload_n 0, 1) := by decide +kernel
theorem dX1_takeBack_53 : decode cX1_takeBack 53 = .ok (.getfield 33, 3) := by decide +kernel
theorem dX1_takeBack_56 : decode cX1_takeBack 56 = .ok (.isub, 1) := by decide +kernel
theorem dX1_takeBack_57 : decode cX1_takeBack 57 = .ok (.ireturn, 1) := by decide +kernel
theorem dX1_pass_0 : decode cX1_pass 0 = .ok (.iload_n 1, 1) := by decide +kernel
theorem dX1_pass_1 : decode cX1_pass 1 = .ok (.iconst 1, 1) := by decide +kernel
theorem dX1_pass_2 : decode cX1_pass 2 = .ok (.if_icmp .lt 10, 3) := by decide +kernel
theorem dX1_pass_5 : decode cX1_pass 5 = .ok (.iload_n 1, 1) := by decide +kernel
theorem dX1_pass_6 : decode cX1_pass 6 = .ok (.sipush 1000, 3) := by decide +kernel
theorem dX1_pass_9 : decode cX1_pass 9 = .ok (.if_icmp .le 13, 3) := by decide +kernel
theorem dX1_pass_12 : decode cX1_pass 12 = .ok (.new 54, 3) := by decide +kernel
theorem dX1_pass_15 : decode cX1_pass 15 = .ok (.dup, 1) := by decide +kernel
theorem dX1_pass_16 : decode cX1_pass 16 = .ok (.ldc 146, 2) := by decide +kernel
theorem dX1_pass_18 : decode cX1_pass 18 = .ok (.invokespecial 58, 3) := by decide +kernel
theorem dX1_pass_21 : decode cX1_pass 21 = .ok (.athrow, 1) := by decide +kernel
theorem dX1_pass_22 : decode cX1_pass 22 = .ok (.iload_n 1, 1) := by decide +kernel
theorem dX1_pass_23 : decode cX1_pass 23 = .ok (.ldc 148, 2) := by decide +kernel
theorem dX1_pass_25 : decode cX1_pass 25 = .ok (.aload_n 0, 1) := by decide +kernel
theorem dX1_pass_26 : decode cX1_pass 26 = .ok (.getfield 33, 3) := by decide +kernel
theorem dX1_pass_29 : decode cX1_pass 29 = .ok (.isub, 1) := by decide +kernel
theorem dX1_pass_30 : decode cX1_pass 30 = .ok (.if_icmp .le 13, 3) := by decide +kernel
theorem dX1_pass_33 : decode cX1_pass 33 = .ok (.new 69, 3) := by decide +kernel
theorem dX1_pass_36 : decode cX1_pass 36 = .ok (.dup, 1) := by decide +kernel
theorem dX1_pass_37 : decode cX1_pass 37 = .ok (.ldc 149, 2) := by decide +kernel
theorem dX1_pass_39 : decode cX1_pass 39 = .ok (.invokespecial 73, 3) := by decide +kernel
theorem dX1_pass_42 : decode cX1_pass 42 = .ok (.athrow, 1) := by decide +kernel
theorem dX1_pass_43 : decode cX1_pass 43 = .ok (.aload_n 0, 1) := by decide +kernel
theorem dX1_pass_44 : decode cX1_pass 44 = .ok (.dup, 1) := by decide +kernel
theorem dX1_pass_45 : decode cX1_pass 45 = .ok (.getfield 33, 3) := by decide +kernel
theorem dX1_pass_48 : decode cX1_pass 48 = .ok (.iload_n 1, 1) := by decide +kernel
theorem dX1_pass_49 : decode cX1_pass 49 = .ok (.iadd, 1) := by decide +kernel
theorem dX1_pass_50 : decode cX1_pass 50 = .ok (.putfield 33, 3) := by decide +kernel
theorem dX1_pass_53 : decode cX1_pass 53 = .ok (.iconst 0, 1) := by decide +kernel
theorem dX1_pass_54 : decode cX1_pass 54 = .ok (.istore_n 2, 1) := by decide +kernel
theorem dX1_pass_55 : decode cX1_pass 55 = .ok (.iconst 0, 1) := by decide +kernel
theorem dX1_pass_56 : decode cX1_pass 56 = .ok (.istore_n 3, 1) := by decide +kernel
theorem dX1_pass_57 : decode cX1_pass 57 = .ok (.iload_n 3, 1) := by decide +kernel
theorem dX1_pass_58 : decode cX1_pass 58 = .ok (.aload_n 0, 1) := by decide +kernel
theorem dX1_pass_59 : decode cX1_pass 59 = .ok (.getfield 26, 3) := by decide +kernel
theorem dX1_pass_62 : decode cX1_pass 62 = .ok (.arraylength, 1) := by decide +kernel
theorem dX1_pass_63 : decode cX1_pass 63 = .ok (.if_icmp .ge 47, 3) := by decide +kernel
theorem dX1_pass_66 : decode cX1_pass 66 = .ok (.aload_n 0, 1) := by decide +kernel
theorem dX1_pass_67 : decode cX1_pass 67 = .ok (.getfield 26, 3) := by decide +kernel
theorem dX1_pass_70 : decode cX1_pass 70 = .ok (.iload_n 3, 1) := by decide +kernel
theorem dX1_pass_71 : decode cX1_pass 71 = .ok (.iaload, 1) := by decide +kernel
theorem dX1_pass_72 : decode cX1_pass 72 = .ok (.istore 4, 2) := by decide +kernel
theorem dX1_pass_74 : decode cX1_pass 74 = .ok (.iload 4, 2) := by decide +kernel
theorem dX1_pass_76 : decode cX1_pass 76 = .ok (.ifCond .eq 28, 3) := by decide +kernel
theorem dX1_pass_79 : decode cX1_pass 79 = .ok (.iload 4, 2) := by decide +kernel
theorem dX1_pass_81 : decode cX1_pass 81 = .ok (.iconst (-1), 1) := by decide +kernel
theorem dX1_pass_82 : decode cX1_pass 82 = .ok (.if_icmp .eq 22, 3) := by decide +kernel
theorem dX1_pass_85 : decode cX1_pass 85 = .ok (.iload 4, 2) := by decide +kernel
theorem dX1_pass_87 : decode cX1_pass 87 = .ok (.aload_n 0, 1) := by decide +kernel
theorem dX1_pass_88 : decode cX1_pass 88 = .ok (.getfield 33, 3) := by decide +kernel
theorem dX1_pass_91 : decode cX1_pass 91 = .ok (.if_icmp .gt 13, 3) := by decide +kernel
theorem dX1_pass_94 : decode cX1_pass 94 = .ok (.aload_n 0, 1) := by decide +kernel
theorem dX1_pass_95 : decode cX1_pass 95 = .ok (.getfield 26, 3) := by decide +kernel
theorem dX1_pass_98 : decode cX1_pass 98 = .ok (.iload_n 3, 1) := by decide +kernel
theorem dX1_pass_99 : decode cX1_pass 99 = .ok (.iconst 0, 1) := by decide +kernel
theorem dX1_pass_100 : decode cX1_pass 100 = .ok (.iastore, 1) := by decide +kernel
theorem dX1_pass_101 : decode cX1_pass 101 = .ok (.iinc 2 1, 3) := by decide +kernel
theorem dX1_pass_104 : decode cX1_pass 104 = .ok (.iinc 3 1, 3) := by decide +kernel
theorem dX1_pass_107 : decode cX1_pass 107 = .ok (.goto (-50), 3) := by decide +kernel
theorem dX1_pass_110 : decode cX1_pass 110 = .ok (.aload_n 0, 1) := by decide +kernel
theorem dX1_pass_111 : decode cX1_pass 111 = .ok (.dup, 1) := by decide +kernel
theorem dX1_pass_112 : decode cX1_pass 112 = .ok (.getfield 30, 3) := by decide +kernel
theorem dX1_pass_115 : decode cX1_pass 115 = .ok (.iload_n 2, 1) := by decide +kernel
theorem dX1_pass_116 : decode cX1_pass 116 = .ok (.isub, 1) := by decide +kernel
theorem dX1_pass_117 : decode cX1_pass 117 = .ok (.putfield 30, 3) := by decide +kernel
theorem dX1_pass_120 : decode cX1_pass 120 = .ok (.iload_n 2, 1) := by decide +kernel
theorem dX1_pass_121 : decode cX1_pass 121 = .ok (.ireturn, 1) := by decide +kernel
theorem dX1_day_0 : decode cX1_day 0 = .ok (.aload_n 0, 1) := by decide +kernel
theorem dX1_day_1 : decode cX1_day 1 = .ok (.getfield 33, 3) := by decide +kernel
theorem dX1_day_4 : decode cX1_day 4 = .ok (.ireturn, 1) := by decide +kernel
theorem dX1_spans_0 : decode cX1_spans 0 = .ok (.iconst 0, 1) := by decide +kernel
theorem dX1_spans_1 : decode cX1_spans 1 = .ok (.istore_n 1, 1) := by decide +kernel
theorem dX1_spans_2 : decode cX1_spans 2 = .ok (.aload_n 0, 1) := by decide +kernel
theorem dX1_spans_3 : decode cX1_spans 3 = .ok (.getfield 18, 3) := by decide +kernel
theorem dX1_spans_6 : decode cX1_spans 6 = .ok (.astore_n 2, 1) := by decide +kernel
theorem dX1_spans_7 : decode cX1_spans 7 = .ok (.aload_n 2, 1) := by decide +kernel
theorem dX1_spans_8 : decode cX1_spans 8 = .ok (.arraylength, 1) := by decide +kernel
theorem dX1_spans_9 : decode cX1_spans 9 = .ok (.istore_n 3, 1) := by decide +kernel
theorem dX1_spans_10 : decode cX1_spans 10 = .ok (.iconst 0, 1) := by decide +kernel
theorem dX1_spans_11 : decode cX1_spans 11 = .ok (.istore 4, 2) := by decide +kernel
theorem dX1_spans_13 : decode cX1_spans 13 = .ok (.iload 4, 2) := by decide +kernel
theorem dX1_spans_15 : decode cX1_spans 15 = .ok (.iload_n 3, 1) := by decide +kernel
theorem dX1_spans_16 : decode cX1_spans 16 = .ok (.if_icmp .ge 23, 3) := by decide +kernel
theorem dX1_spans_19 : decode cX1_spans 19 = .ok (.aload_n 2, 1) := by decide +kernel
theorem dX1_spans_20 : decode cX1_spans 20 = .ok (.iload 4, 2) := by decide +kernel
theorem dX1_spans_22 : decode cX1_spans 22 = .ok (.aaload, 1) := by decide +kernel
theorem dX1_spans_23 : decode cX1_spans 23 = .ok (.astore 5, 2) := by decide +kernel
theorem dX1_spans_25 : decode cX1_spans 25 = .ok (.aload 5, 2) := by decide +kernel
theorem dX1_spans_27 : decode cX1_spans 27 = .ok (.ifnull 6, 3) := by decide +kernel
theorem dX1_spans_30 : decode cX1_spans 30 = .ok (.iinc 1 1, 3) := by decide +kernel
theorem dX1_spans_33 : decode cX1_spans 33 = .ok (.iinc 4 1, 3) := by decide +kernel
theorem dX1_spans_36 : decode cX1_spans 36 = .ok (.goto (-23), 3) := by decide +kernel
theorem dX1_spans_39 : decode cX1_spans 39 = .ok (.iload_n 1, 1) := by decide +kernel
theorem dX1_spans_40 : decode cX1_spans 40 = .ok (.ireturn, 1) := by decide +kernel
theorem dX1_isThere_0 : decode cX1_isThere 0 = .ok (.aload_n 0, 1) := by decide +kernel
theorem dX1_isThere_1 : decode cX1_isThere 1 = .ok (.iload_n 1, 1) := by decide +kernel
theorem dX1_isThere_2 : decode cX1_isThere 2 = .ok (.invokevirtual 151, 3) := by decide +kernel
theorem dX1_isThere_5 : decode cX1_isThere 5 = .ok (.ifnull 7, 3) := by decide +kernel
theorem dX1_isThere_8 : decode cX1_isThere 8 = .ok (.iconst 1, 1) := by decide +kernel
theorem dX1_isThere_9 : decode cX1_isThere 9 = .ok (.goto 4, 3) := by decide +kernel
theorem dX1_isThere_12 : decode cX1_isThere 12 = .ok (.iconst 0, 1) := by decide +kernel
theorem dX1_isThere_13 : decode cX1_isThere 13 = .ok (.ireturn, 1) := by decide +kernel
theorem dX1_base_0 : decode cX1_base 0 = .ok (.aload_n 0, 1) := by decide +kernel
theorem dX1_base_1 : decode cX1_base 1 = .ok (.iload_n 1, 1) := by decide +kernel
theorem dX1_base_2 : decode cX1_base 2 = .ok (.invokevirtual 43, 3) := by decide +kernel
theorem dX1_base_5 : decode cX1_base 5 = .ok (.getfield 101, 3) := by decide +kernel
theorem dX1_base_8 : decode cX1_base 8 = .ok (.ireturn, 1) := by decide +kernel
theorem dX1_size_0 : decode cX1_size 0 = .ok (.aload_n 0, 1) := by decide +kernel
theorem dX1_size_1 : decode cX1_size 1 = .ok (.iload_n 1, 1) := by decide +kernel
theorem dX1_size_2 : decode cX1_size 2 = .ok (.invokevirtual 43, 3) := by decide +kernel
theorem dX1_size_5 : decode cX1_size 5 = .ok (.getfield 114, 3) := by decide +kernel
theorem dX1_size_8 : decode cX1_size 8 = .ok (.ireturn, 1) := by decide +kernel
theorem dX1_parent_0 : decode cX1_parent 0 = .ok (.aload_n 0, 1) := by decide +kernel
theorem dX1_parent_1 : decode cX1_parent 1 = .ok (.iload_n 1, 1) := by decide +kernel
theorem dX1_parent_2 : decode cX1_parent 2 = .ok (.invokevirtual 43, 3) := by decide +kernel
theorem dX1_parent_5 : decode cX1_parent 5 = .ok (.getfield 94, 3) := by decide +kernel
theorem dX1_parent_8 : decode cX1_parent 8 = .ok (.astore_n 2, 1) := by decide +kernel
theorem dX1_parent_9 : decode cX1_parent 9 = .ok (.aload_n 2, 1) := by decide +kernel
theorem dX1_parent_10 : decode cX1_parent 10 = .ok (.ifnonnull 7, 3) := by decide +kernel
theorem dX1_parent_13 : decode cX1_parent 13 = .ok (.iconst (-1), 1) := by decide +kernel
theorem dX1_parent_14 : decode cX1_parent 14 = .ok (.goto 7, 3) := by decide +kernel
theorem dX1_parent_17 : decode cX1_parent 17 = .ok (.aload_n 2, 1) := by decide +kernel
theorem dX1_parent_18 : decode cX1_parent 18 = .ok (.getfield 154, 3) := by decide +kernel
theorem dX1_parent_21 : decode cX1_parent 21 = .ok (.ireturn, 1) := by decide +kernel
theorem dX1_free_0 : decode cX1_free 0 = .ok (.aload_n 0, 1) := by decide +kernel
theorem dX1_free_1 : decode cX1_free 1 = .ok (.iload_n 1, 1) := by decide +kernel
theorem dX1_free_2 : decode cX1_free 2 = .ok (.invokevirtual 43, 3) := by decide +kernel
theorem dX1_free_5 : decode cX1_free 5 = .ok (.astore_n 2, 1) := by decide +kernel
theorem dX1_free_6 : decode cX1_free 6 = .ok (.aload_n 0, 1) := by decide +kernel
theorem dX1_free_7 : decode cX1_free 7 = .ok (.aload_n 2, 1) := by decide +kernel
theorem dX1_free_8 : decode cX1_free 8 = .ok (.invokevirtual 157, 3) := by decide +kernel
theorem dX1_free_11 : decode cX1_free 11 = .ok (.aload_n 0, 1) := by decide +kernel
theorem dX1_free_12 : decode cX1_free 12 = .ok (.aload_n 2, 1) := by decide +kernel
theorem dX1_free_13 : decode cX1_free 13 = .ok (.invokevirtual 160, 3) := by decide +kernel
theorem dX1_free_16 : decode cX1_free 16 = .ok (.isub, 1) := by decide +kernel
theorem dX1_free_17 : decode cX1_free 17 = .ok (.ireturn, 1) := by decide +kernel
theorem dX1_greatestFree_0 : decode cX1_greatestFree 0 = .ok (.aload_n 0, 1) := by decide +kernel
theorem dX1_greatestFree_1 : decode cX1_greatestFree 1 = .ok (.iload_n 1, 1) := by decide +kernel
theorem dX1_greatestFree_2 : decode cX1_greatestFree 2 = .ok (.invokevirtual 43, 3) := by decide +kernel
theorem dX1_greatestFree_5 : decode cX1_greatestFree 5 = .ok (.astore_n 2, 1) := by decide +kernel
theorem dX1_greatestFree_6 : decode cX1_greatestFree 6 = .ok (.aload_n 0, 1) := by decide +kernel
theorem dX1_greatestFree_7 : decode cX1_greatestFree 7 = .ok (.aload_n 2, 1) := by decide +kernel
theorem dX1_greatestFree_8 : decode cX1_greatestFree 8 = .ok (.iconst 1, 1) := by decide +kernel
theorem dX1_greatestFree_9 : decode cX1_greatestFree 9 = .ok (.iconst 0, 1) := by decide +kernel
theorem dX1_greatestFree_10 : decode cX1_greatestFree 10 = .ok (.invokevirtual 65, 3) := by decide +kernel
theorem dX1_greatestFree_13 : decode cX1_greatestFree 13 = .ok (.istore_n 3, 1) := by decide +kernel
theorem dX1_greatestFree_14 : decode cX1_greatestFree 14 = .ok (.iload_n 3, 1) := by decide +kernel
theorem dX1_greatestFree_15 : decode cX1_greatestFree 15 = .ok (.iconst (-1), 1) := by decide +kernel
theorem dX1_greatestFree_16 : decode cX1_greatestFree 16 = .ok (.if_icmp .ne 5, 3) := by decide +kernel
theorem dX1_greatestFree_19 : decode cX1_greatestFree 19 = .ok (.iconst 0, 1) := by decide +kernel
theorem dX1_greatestFree_20 : decode cX1_greatestFree 20 = .ok (.ireturn, 1) := by decide +kernel
theorem dX1_greatestFree_21 : decode cX1_greatestFree 21 = .ok (.aload_n 0, 1) := by decide +kernel
theorem dX1_greatestFree_22 : decode cX1_greatestFree 22 = .ok (.aload_n 2, 1) := by decide +kernel
theorem dX1_greatestFree_23 : decode cX1_greatestFree 23 = .ok (.iload_n 3, 1) := by decide +kernel
theorem dX1_greatestFree_24 : decode cX1_greatestFree 24 = .ok (.invokevirtual 74, 3) := by decide +kernel
theorem dX1_greatestFree_27 : decode cX1_greatestFree 27 = .ok (.istore 4, 2) := by decide +kernel
theorem dX1_greatestFree_29 : decode cX1_greatestFree 29 = .ok (.iload 4, 2) := by decide +kernel
theorem dX1_greatestFree_31 : decode cX1_greatestFree 31 = .ok (.aload_n 2, 1) := by decide +kernel
theorem dX1_greatestFree_32 : decode cX1_greatestFree 32 = .ok (.getfield 114, 3) := by decide +kernel
theorem dX1_greatestFree_35 : decode cX1_greatestFree 35 = .ok (.if_icmp .ge 8, 3) := by decide +kernel
theorem dX1_greatestFree_38 : decode cX1_greatestFree 38 = .ok (.iload 4, 2) := by decide +kernel
theorem dX1_greatestFree_40 : decode cX1_greatestFree 40 = .ok (.goto 9, 3) := by decide +kernel
theorem dX1_greatestFree_43 : decode cX1_greatestFree 43 = .ok (.aload_n 2, 1) := by decide +kernel
theorem dX1_greatestFree_44 : decode cX1_greatestFree 44 = .ok (.getfield 114, 3) := by decide +kernel
theorem dX1_greatestFree_47 : decode cX1_greatestFree 47 = .ok (.iconst 2, 1) := by decide +kernel
theorem dX1_greatestFree_48 : decode cX1_greatestFree 48 = .ok (.idiv, 1) := by decide +kernel
theorem dX1_greatestFree_49 : decode cX1_greatestFree 49 = .ok (.ireturn, 1) := by decide +kernel
theorem dX1_inTheWay_0 : decode cX1_inTheWay 0 = .ok (.aload_n 0, 1) := by decide +kernel
theorem dX1_inTheWay_1 : decode cX1_inTheWay 1 = .ok (.iload_n 1, 1) := by decide +kernel
theorem dX1_inTheWay_2 : decode cX1_inTheWay 2 = .ok (.invokevirtual 43, 3) := by decide +kernel
theorem dX1_inTheWay_5 : decode cX1_inTheWay 5 = .ok (.astore_n 3, 1) := by decide +kernel
theorem dX1_inTheWay_6 : decode cX1_inTheWay 6 = .ok (.iload_n 2, 1) := by decide +kernel
theorem dX1_inTheWay_7 : decode cX1_inTheWay 7 = .ok (.invokestatic 47, 3) := by decide +kernel
theorem dX1_inTheWay_10 : decode cX1_inTheWay 10 = .ok (.iload_n 2, 1) := by decide +kernel
theorem dX1_inTheWay_11 : decode cX1_inTheWay 11 = .ok (.aload_n 3, 1) := by decide +kernel
theorem dX1_inTheWay_12 : decode cX1_inTheWay 12 = .ok (.getfield 114, 3) := by decide +kernel
theorem dX1_inTheWay_15 : decode cX1_inTheWay 15 = .ok (.if_icmp .lt 5, 3) := by decide +kernel
theorem dX1_inTheWay_18 : decode cX1_inTheWay 18 = .ok (.iconst (-1), 1) := by decide +kernel
theorem dX1_inTheWay_19 : decode cX1_inTheWay 19 = .ok (.ireturn, 1) := by decide +kernel
theorem dX1_inTheWay_20 : decode cX1_inTheWay 20 = .ok (.bipush 60, 2) := by decide +kernel
theorem dX1_inTheWay_22 : decode cX1_inTheWay 22 = .ok (.istore 4, 2) := by decide +kernel
theorem dX1_inTheWay_24 : decode cX1_inTheWay 24 = .ok (.aload_n 3, 1) := by decide +kernel
theorem dX1_inTheWay_25 : decode cX1_inTheWay 25 = .ok (.getfield 101, 3) := by decide +kernel
theorem dX1_inTheWay_28 : decode cX1_inTheWay 28 = .ok (.istore 5, 2) := by decide +kernel
theorem dX1_inTheWay_30 : decode cX1_inTheWay 30 = .ok (.iconst 0, 1) := by decide +kernel
theorem dX1_inTheWay_31 : decode cX1_inTheWay 31 = .ok (.istore 6, 2) := by decide +kernel
theorem dX1_inTheWay_33 : decode cX1_inTheWay 33 = .ok (.iload 6, 2) := by decide +kernel
theorem dX1_inTheWay_35 : decode cX1_inTheWay 35 = .ok (.sipush 4096, 3) := by decide +kernel
theorem dX1_inTheWay_38 : decode cX1_inTheWay 38 = .ok (.if_icmp .ge 75, 3) := by decide +kernel
theorem dX1_inTheWay_41 : decode cX1_inTheWay 41 = .ok (.iload 5, 2) := by decide +kernel
theorem dX1_inTheWay_43 : decode cX1_inTheWay 43 = .ok (.aload_n 3, 1) := by decide +kernel
theorem dX1_inTheWay_44 : decode cX1_inTheWay 44 = .ok (.invokevirtual 104, 3) := by decide +kernel
theorem dX1_inTheWay_47 : decode cX1_inTheWay 47 = .ok (.if_icmp .ge 66, 3) := by decide +kernel
theorem dX1_inTheWay_50 : decode cX1_inTheWay 50 = .ok (.iload 4, 2) := by decide +kernel
theorem dX1_inTheWay_52 : decode cX1_inTheWay 52 = .ok (.ifCond .le 61, 3) := by decide +kernel
theorem dX1_inTheWay_55 : decode cX1_inTheWay 55 = .ok (.iload 4, 2) := by decide +kernel
theorem dX1_inTheWay_57 : decode cX1_inTheWay 57 = .ok (.aload_n 0, 1) := by decide +kernel
theorem dX1_inTheWay_58 : decode cX1_inTheWay 58 = .ok (.aload_n 3, 1) := by decide +kernel
theorem dX1_inTheWay_59 : decode cX1_inTheWay 59 = .ok (.iload 5, 2) := by decide +kernel
theorem dX1_inTheWay_61 : decode cX1_inTheWay 61 = .ok (.iload_n 2, 1) := by decide +kernel
theorem dX1_inTheWay_62 : decode cX1_inTheWay 62 = .ok (.invokevirtual 88, 3) := by decide +kernel
theorem dX1_inTheWay_65 : decode cX1_inTheWay 65 = .ok (.invokestatic 163, 3) := by decide +kernel
theorem dX1_inTheWay_68 : decode cX1_inTheWay 68 = .ok (.istore 4, 2) := by decide +kernel
theorem dX1_inTheWay_70 : decode cX1_inTheWay 70 = .ok (.aload_n 0, 1) := by decide +kernel
theorem dX1_inTheWay_71 : decode cX1_inTheWay 71 = .ok (.aload_n 3, 1) := by decide +kernel
theorem dX1_inTheWay_72 : decode cX1_inTheWay 72 = .ok (.iload 5, 2) := by decide +kernel
theorem dX1_inTheWay_74 : decode cX1_inTheWay 74 = .ok (.invokevirtual 168, 3) := by decide +kernel
theorem dX1_inTheWay_77 : decode cX1_inTheWay 77 = .ok (.astore 7, 2) := by decide +kernel
theorem dX1_inTheWay_79 : decode cX1_inTheWay 79 = .ok (.aload 7, 2) := by decide +kernel
theorem dX1_inTheWay_81 : decode cX1_inTheWay 81 = .ok (.ifnull 20, 3) := by decide +kernel
theorem dX1_inTheWay_84 : decode cX1_inTheWay 84 = .ok (.aload 7, 2) := by decide +kernel
theorem dX1_inTheWay_86 : decode cX1_inTheWay 86 = .ok (.getfield 114, 3) := by decide +kernel
theorem dX1_inTheWay_89 : decode cX1_inTheWay 89 = .ok (.iload_n 2, 1) := by decide +kernel
theorem dX1_inTheWay_90 : decode cX1_inTheWay 90 = .ok (.if_icmp .le 11, 3) := by decide +kernel
theorem dX1_inTheWay_93 : decode cX1_inTheWay 93 = .ok (.aload 7, 2) := by decide +kernel
theorem dX1_inTheWay_95 : decode cX1_inTheWay 95 = .ok (.invokevirtual 104, 3) := by decide +kernel
theorem dX1_inTheWay_98 : decode cX1_inTheWay 98 = .ok (.goto 7, 3) := by decide +kernel
theorem dX1_inTheWay_101 : decode cX1_inTheWay 101 = .ok (.iload 5, 2) := by decide +kernel
theorem dX1_inTheWay_103 : decode cX1_inTheWay 103 = .ok (.iload_n 2, 1) := by decide +kernel
theorem dX1_inTheWay_104 : decode cX1_inTheWay 104 = .ok (.iadd, 1) := by decide +kernel
theorem dX1_inTheWay_105 : decode cX1_inTheWay 105 = .ok (.istore 5, 2) := by decide +kernel
theorem dX1_inTheWay_107 : decode cX1_inTheWay 107 = .ok (.iinc 6 1, 3) := by decide +kernel
theorem dX1_inTheWay_110 : decode cX1_inTheWay 110 = .ok (.goto (-77), 3) := by decide +kernel
theorem dX1_inTheWay_113 : decode cX1_inTheWay 113 = .ok (.iload 4, 2) := by decide +kernel
theorem dX1_inTheWay_115 : decode cX1_inTheWay 115 = .ok (.ireturn, 1) := by decide +kernel
theorem dX1_lent_0 : decode cX1_lent 0 = .ok (.aload_n 0, 1) := by decide +kernel
theorem dX1_lent_1 : decode cX1_lent 1 = .ok (.getfield 30, 3) := by decide +kernel
theorem dX1_lent_4 : decode cX1_lent 4 = .ok (.ireturn, 1) := by decide +kernel
theorem dX1_nearest_0 : decode cX1_nearest 0 = .ok (.iload_n 1, 1) := by decide +kernel
theorem dX1_nearest_1 : decode cX1_nearest 1 = .ok (.invokestatic 141, 3) := by decide +kernel
theorem dX1_nearest_4 : decode cX1_nearest 4 = .ok (.aload_n 0, 1) := by decide +kernel
theorem dX1_nearest_5 : decode cX1_nearest 5 = .ok (.getfield 14, 3) := by decide +kernel
theorem dX1_nearest_8 : decode cX1_nearest 8 = .ok (.astore_n 2, 1) := by decide +kernel
theorem dX1_nearest_9 : decode cX1_nearest 9 = .ok (.iconst 0, 1) := by decide +kernel
theorem dX1_nearest_10 : decode cX1_nearest 10 = .ok (.istore_n 3, 1) := by decide +kernel
theorem dX1_nearest_11 : decode cX1_nearest 11 = .ok (.iload_n 3, 1) := by decide +kernel
theorem dX1_nearest_12 : decode cX1_nearest 12 = .ok (.bipush 60, 2) := by decide +kernel
theorem dX1_nearest_14 : decode cX1_nearest 14 = .ok (.if_icmp .ge 30, 3) := by decide +kernel
theorem dX1_nearest_17 : decode cX1_nearest 17 = .ok (.aload_n 0, 1) := by decide +kernel
theorem dX1_nearest_18 : decode cX1_nearest 18 = .ok (.aload_n 2, 1) := by decide +kernel
theorem dX1_nearest_19 : decode cX1_nearest 19 = .ok (.iload_n 1, 1) := by decide +kernel
theorem dX1_nearest_20 : decode cX1_nearest 20 = .ok (.invokevirtual 168, 3) := by decide +kernel
theorem dX1_nearest_23 : decode cX1_nearest 23 = .ok (.astore 4, 2) := by decide +kernel
theorem dX1_nearest_25 : decode cX1_nearest 25 = .ok (.aload 4, 2) := by decide +kernel
theorem dX1_nearest_27 : decode cX1_nearest 27 = .ok (.ifnonnull 8, 3) := by decide +kernel
theorem dX1_nearest_30 : decode cX1_nearest 30 = .ok (.aload_n 2, 1) := by decide +kernel
theorem dX1_nearest_31 : decode cX1_nearest 31 = .ok (.getfield 154, 3) := by decide +kernel
theorem dX1_nearest_34 : decode cX1_nearest 34 = .ok (.ireturn, 1) := by decide +kernel
theorem dX1_nearest_35 : decode cX1_nearest 35 = .ok (.aload 4, 2) := by decide +kernel
theorem dX1_nearest_37 : decode cX1_nearest 37 = .ok (.astore_n 2, 1) := by decide +kernel
theorem dX1_nearest_38 : decode cX1_nearest 38 = .ok (.iinc 3 1, 3) := by decide +kernel
theorem dX1_nearest_41 : decode cX1_nearest 41 = .ok (.goto (-30), 3) := by decide +kernel
theorem dX1_nearest_44 : decode cX1_nearest 44 = .ok (.aload_n 2, 1) := by decide +kernel
theorem dX1_nearest_45 : decode cX1_nearest 45 = .ok (.getfield 154, 3) := by decide +kernel
theorem dX1_nearest_48 : decode cX1_nearest 48 = .ok (.ireturn, 1) := by decide +kernel
theorem dX1_nearestByRow_0 : decode cX1_nearestByRow 0 = .ok (.iload_n 1, 1) := by decide +kernel
theorem dX1_nearestByRow_1 : decode cX1_nearestByRow 1 = .ok (.invokestatic 141, 3) := by decide +kernel
theorem dX1_nearestByRow_4 : decode cX1_nearestByRow 4 = .ok (.aload_n 0, 1) := by decide +kernel
theorem dX1_nearestByRow_5 : decode cX1_nearestByRow 5 = .ok (.invokevirtual 172, 3) := by decide +kernel
theorem dX1_nearestByRow_8 : decode cX1_nearestByRow 8 = .ok (.aload_n 0, 1) := by decide +kernel
theorem dX1_nearestByRow_9 : decode cX1_nearestByRow 9 = .ok (.getfield 36, 3) := by decide +kernel
theorem dX1_nearestByRow_12 : decode cX1_nearestByRow 12 = .ok (.iload_n 1, 1) := by decide +kernel
theorem dX1_nearestByRow_13 : decode cX1_nearestByRow 13 = .ok (.iaload, 1) := by decide +kernel
theorem dX1_nearestByRow_14 : decode cX1_nearestByRow 14 = .ok (.ireturn, 1) := by decide +kernel
theorem dX1_owned_0 : decode cX1_owned 0 = .ok (.iload_n 1, 1) := by decide +kernel
theorem dX1_owned_1 : decode cX1_owned 1 = .ok (.invokestatic 51, 3) := by decide +kernel
theorem dX1_owned_4 : decode cX1_owned 4 = .ok (.iconst 0, 1) := by decide +kernel
theorem dX1_owned_5 : decode cX1_owned 5 = .ok (.istore_n 2, 1) := by decide +kernel
theorem dX1_owned_6 : decode cX1_owned 6 = .ok (.aload_n 0, 1) := by decide +kernel
theorem dX1_owned_7 : decode cX1_owned 7 = .ok (.getfield 18, 3) := by decide +kernel
theorem dX1_owned_10 : decode cX1_owned 10 = .ok (.astore_n 3, 1) := by decide +kernel
theorem dX1_owned_11 : decode cX1_owned 11 = .ok (.aload_n 3, 1) := by decide +kernel
theorem dX1_owned_12 : decode cX1_owned 12 = .ok (.arraylength, 1) := by decide +kernel
theorem dX1_owned_13 : decode cX1_owned 13 = .ok (.istore 4, 2) := by decide +kernel
theorem dX1_owned_15 : decode cX1_owned 15 = .ok (.iconst 0, 1) := by decide +kernel
theorem dX1_owned_16 : decode cX1_owned 16 = .ok (.istore 5, 2) := by decide +kernel
theorem dX1_owned_18 : decode cX1_owned 18 = .ok (.iload 5, 2) := by decide +kernel
theorem dX1_owned_20 : decode cX1_owned 20 = .ok (.iload 4, 2) := by decide +kernel
theorem dX1_owned_22 : decode cX1_owned 22 = .ok (.if_icmp .ge 38, 3) := by decide +kernel
theorem dX1_owned_25 : decode cX1_owned 25 = .ok (.aload_n 3, 1) := by decide +kernel
theorem dX1_owned_26 : decode cX1_owned 26 = .ok (.iload 5, 2) := by decide +kernel
theorem dX1_owned_28 : decode cX1_owned 28 = .ok (.aaload, 1) := by decide +kernel
theorem dX1_owned_29 : decode cX1_owned 29 = .ok (.astore 6, 2) := by decide +kernel
theorem dX1_owned_31 : decode cX1_owned 31 = .ok (.aload 6, 2) := by decide +kernel
theorem dX1_owned_33 : decode cX1_owned 33 = .ok (.ifnull 21, 3) := by decide +kernel
theorem dX1_owned_36 : decode cX1_owned 36 = .ok (.aload 6, 2) := by decide +kernel
theorem dX1_owned_38 : decode cX1_owned 38 = .ok (.getfield 125, 3) := by decide +kernel
theorem dX1_owned_41 : decode cX1_owned 41 = .ok (.iload_n 1, 1) := by decide +kernel
theorem dX1_owned_42 : decode cX1_owned 42 = .ok (.if_icmp .ne 12, 3) := by decide +kernel
theorem dX1_owned_45 : decode cX1_owned 45 = .ok (.iload_n 2, 1) := by decide +kernel
theorem dX1_owned_46 : decode cX1_owned 46 = .ok (.aload_n 0, 1) := by decide +kernel
theorem dX1_owned_47 : decode cX1_owned 47 = .ok (.aload 6, 2) := by decide +kernel
theorem dX1_owned_49 : decode cX1_owned 49 = .ok (.invokevirtual 157, 3) := by decide +kernel
theorem dX1_owned_52 : decode cX1_owned 52 = .ok (.iadd, 1) := by decide +kernel
theorem dX1_owned_53 : decode cX1_owned 53 = .ok (.istore_n 2, 1) := by decide +kernel
theorem dX1_owned_54 : decode cX1_owned 54 = .ok (.iinc 5 1, 3) := by decide +kernel
theorem dX1_owned_57 : decode cX1_owned 57 = .ok (.goto (-39), 3) := by decide +kernel
theorem dX1_owned_60 : decode cX1_owned 60 = .ok (.iload_n 2, 1) := by decide +kernel
theorem dX1_owned_61 : decode cX1_owned 61 = .ok (.ireturn, 1) := by decide +kernel
theorem dX1_blocks_0 : decode cX1_blocks 0 = .ok (.iload_n 1, 1) := by decide +kernel
theorem dX1_blocks_1 : decode cX1_blocks 1 = .ok (.invokestatic 51, 3) := by decide +kernel
theorem dX1_blocks_4 : decode cX1_blocks 4 = .ok (.aload_n 0, 1) := by decide +kernel
theorem dX1_blocks_5 : decode cX1_blocks 5 = .ok (.invokevirtual 172, 3) := by decide +kernel
theorem dX1_blocks_8 : decode cX1_blocks 8 = .ok (.iconst 0, 1) := by decide +kernel
theorem dX1_blocks_9 : decode cX1_blocks 9 = .ok (.istore_n 2, 1) := by decide +kernel
theorem dX1_blocks_10 : decode cX1_blocks 10 = .ok (.iconst 0, 1) := by decide +kernel
theorem dX1_blocks_11 : decode cX1_blocks 11 = .ok (.istore_n 3, 1) := by decide +kernel
theorem dX1_blocks_12 : decode cX1_blocks 12 = .ok (.iconst 0, 1) := by decide +kernel
theorem dX1_blocks_13 : decode cX1_blocks 13 = .ok (.istore 4, 2) := by decide +kernel
theorem dX1_blocks_15 : decode cX1_blocks 15 = .ok (.iload 4, 2) := by decide +kernel
theorem dX1_blocks_17 : decode cX1_blocks 17 = .ok (.aload_n 0, 1) := by decide +kernel
theorem dX1_blocks_18 : decode cX1_blocks 18 = .ok (.getfield 36, 3) := by decide +kernel
theorem dX1_blocks_21 : decode cX1_blocks 21 = .ok (.arraylength, 1) := by decide +kernel
theorem dX1_blocks_22 : decode cX1_blocks 22 = .ok (.if_icmp .ge 50, 3) := by decide +kernel
theorem dX1_blocks_25 : decode cX1_blocks 25 = .ok (.aload_n 0, 1) := by decide +kernel
theorem dX1_blocks_26 : decode cX1_blocks 26 = .ok (.aload_n 0, 1) := by decide +kernel
theorem dX1_blocks_27 : decode cX1_blocks 27 = .ok (.getfield 36, 3) := by decide +kernel
theorem dX1_blocks_30 : decode cX1_blocks 30 = .ok (.iload 4, 2) := by decide +kernel
theorem dX1_blocks_32 : decode cX1_blocks 32 = .ok (.iaload, 1) := by decide +kernel
theorem dX1_blocks_33 : decode cX1_blocks 33 = .ok (.invokevirtual 151, 3) := by decide +kernel
theorem dX1_blocks_36 : decode cX1_blocks 36 = .ok (.astore 5, 2) := by decide +kernel
theorem dX1_blocks_38 : decode cX1_blocks 38 = .ok (.aload 5, 2) := by decide +kernel
theorem dX1_blocks_40 : decode cX1_blocks 40 = .ok (.ifnull 12, 3) := by decide +kernel
theorem dX1_blocks_43 : decode cX1_blocks 43 = .ok (.aload 5, 2) := by decide +kernel
theorem dX1_blocks_45 : decode cX1_blocks 45 = .ok (.getfield 125, 3) := by decide +kernel
theorem dX1_blocks_48 : decode cX1_blocks 48 = .ok (.iload_n 1, 1) := by decide +kernel
theorem dX1_blocks_49 : decode cX1_blocks 49 = .ok (.if_icmp .eq 17, 3) := by decide +kernel
theorem dX1_blocks_52 : decode cX1_blocks 52 = .ok (.iload_n 2, 1) := by decide +kernel
theorem dX1_blocks_53 : decode cX1_blocks 53 = .ok (.iload_n 3, 1) := by decide +kernel
theorem dX1_blocks_54 : decode cX1_blocks 54 = .ok (.iload 4, 2) := by decide +kernel
theorem dX1_blocks_56 : decode cX1_blocks 56 = .ok (.invokestatic 175, 3) := by decide +kernel
theorem dX1_blocks_59 : decode cX1_blocks 59 = .ok (.iadd, 1) := by decide +kernel
theorem dX1_blocks_60 : decode cX1_blocks 60 = .ok (.istore_n 2, 1) := by decide +kernel
theorem dX1_blocks_61 : decode cX1_blocks 61 = .ok (.iload 4, 2) := by decide +kernel
theorem dX1_blocks_63 : decode cX1_blocks 63 = .ok (.iconst 1, 1) := by decide +kernel
theorem dX1_blocks_64 : decode cX1_blocks 64 = .ok (.iadd, 1) := by decide +kernel
theorem dX1_blocks_65 : decode cX1_blocks 65 = .ok (.istore_n 3, 1) := by decide +kernel
theorem dX1_blocks_66 : decode cX1_blocks 66 = .ok (.iinc 4 1, 3) := by decide +kernel
theorem dX1_blocks_69 : decode cX1_blocks 69 = .ok (.goto (-54), 3) := by decide +kernel
theorem dX1_blocks_72 : decode cX1_blocks 72 = .ok (.iload_n 2, 1) := by decide +kernel
theorem dX1_blocks_73 : decode cX1_blocks 73 = .ok (.iload_n 3, 1) := by decide +kernel
theorem dX1_blocks_74 : decode cX1_blocks 74 = .ok (.aload_n 0, 1) := by decide +kernel
theorem dX1_blocks_75 : decode cX1_blocks 75 = .ok (.getfield 36, 3) := by decide +kernel
theorem dX1_blocks_78 : decode cX1_blocks 78 = .ok (.arraylength, 1) := by decide +kernel
theorem dX1_blocks_79 : decode cX1_blocks 79 = .ok (.invokestatic 175, 3) := by decide +kernel
theorem dX1_blocks_82 : decode cX1_blocks 82 = .ok (.iadd, 1) := by decide +kernel
theorem dX1_blocks_83 : decode cX1_blocks 83 = .ok (.ireturn, 1) := by decide +kernel
theorem dX1_findSpan_0 : decode cX1_findSpan 0 = .ok (.iload_n 1, 1) := by decide +kernel
theorem dX1_findSpan_1 : decode cX1_findSpan 1 = .ok (.ifCond .lt 12, 3) := by decide +kernel
theorem dX1_findSpan_4 : decode cX1_findSpan 4 = .ok (.iload_n 1, 1) := by decide +kernel
theorem dX1_findSpan_5 : decode cX1_findSpan 5 = .ok (.aload_n 0, 1) := by decide +kernel
theorem dX1_findSpan_6 : decode cX1_findSpan 6 = .ok (.getfield 18, 3) := by decide +kernel
theorem dX1_findSpan_9 : decode cX1_findSpan 9 = .ok (.arraylength, 1) := by decide +kernel
theorem dX1_findSpan_10 : decode cX1_findSpan 10 = .ok (.if_icmp .lt 7, 3) := by decide +kernel
theorem dX1_findSpan_13 : decode cX1_findSpan 13 = .ok (.aconst_null, 1) := by decide +kernel
theorem dX1_findSpan_14 : decode cX1_findSpan 14 = .ok (.goto 9, 3) := by decide +kernel
theorem dX1_findSpan_17 : decode cX1_findSpan 17 = .ok (.aload_n 0, 1) := by decide +kernel
theorem dX1_findSpan_18 : decode cX1_findSpan 18 = .ok (.getfield 18, 3) := by decide +kernel
theorem dX1_findSpan_21 : decode cX1_findSpan 21 = .ok (.iload_n 1, 1) := by decide +kernel
theorem dX1_findSpan_22 : decode cX1_findSpan 22 = .ok (.aaload, 1) := by decide +kernel
theorem dX1_findSpan_23 : decode cX1_findSpan 23 = .ok (.areturn, 1) := by decide +kernel
theorem dX1_spanOf_0 : decode cX1_spanOf 0 = .ok (.aload_n 0, 1) := by decide +kernel
theorem dX1_spanOf_1 : decode cX1_spanOf 1 = .ok (.iload_n 1, 1) := by decide +kernel
theorem dX1_spanOf_2 : decode cX1_spanOf 2 = .ok (.invokevirtual 151, 3) := by decide +kernel
theorem dX1_spanOf_5 : decode cX1_spanOf 5 = .ok (.astore_n 2, 1) := by decide +kernel
theorem dX1_spanOf_6 : decode cX1_spanOf 6 = .ok (.aload_n 2, 1) := by decide +kernel
theorem dX1_spanOf_7 : decode cX1_spanOf 7 = .ok (.ifnonnull 13, 3) := by decide +kernel
theorem dX1_spanOf_10 : decode cX1_spanOf 10 = .ok (.new 178, 3) := by decide +kernel
theorem dX1_spanOf_13 : decode cX1_spanOf 13 = .ok (.dup, 1) := by decide +kernel
theorem dX1_spanOf_14 : decode cX1_spanOf 14 = .ok (.ldc 180, 2) := by decide +kernel
theorem dX1_spanOf_16 : decode cX1_spanOf 16 = .ok (.invokespecial 182, 3) := by decide +kernel
theorem dX1_spanOf_19 : decode cX1_spanOf 19 = .ok (.athrow, 1) := by decide +kernel
theorem dX1_spanOf_20 : decode cX1_spanOf 20 = .ok (.aload_n 2, 1) := by decide +kernel
theorem dX1_spanOf_21 : decode cX1_spanOf 21 = .ok (.areturn, 1) := by decide +kernel
theorem dX1_isAddress_0 : decode cX1_isAddress 0 = .ok (.iload_n 0, 1) := by decide +kernel
theorem dX1_isAddress_1 : decode cX1_isAddress 1 = .ok (.ifCond .lt 14, 3) := by decide +kernel
theorem dX1_isAddress_4 : decode cX1_isAddress 4 = .ok (.iload_n 0, 1) := by decide +kernel
theorem dX1_isAddress_5 : decode cX1_isAddress 5 = .ok (.sipush 4096, 3) := by decide +kernel
theorem dX1_isAddress_8 : decode cX1_isAddress 8 = .ok (.if_icmp .ge 7, 3) := by decide +kernel
theorem dX1_isAddress_11 : decode cX1_isAddress 11 = .ok (.iconst 1, 1) := by decide +kernel
theorem dX1_isAddress_12 : decode cX1_isAddress 12 = .ok (.goto 4, 3) := by decide +kernel
theorem dX1_isAddress_15 : decode cX1_isAddress 15 = .ok (.iconst 0, 1) := by decide +kernel
theorem dX1_isAddress_16 : decode cX1_isAddress 16 = .ok (.ireturn, 1) := by decide +kernel
theorem dX1_checkAddress_0 : decode cX1_checkAddress 0 = .ok (.iload_n 0, 1) := by decide +kernel
theorem dX1_checkAddress_1 : decode cX1_checkAddress 1 = .ok (.invokestatic 136, 3) := by decide +kernel
theorem dX1_checkAddress_4 : decode cX1_checkAddress 4 = .ok (.ifCond .ne 13, 3) := by decide +kernel
theorem dX1_checkAddress_7 : decode cX1_checkAddress 7 = .ok (.new 178, 3) := by decide +kernel
theorem dX1_checkAddress_10 : decode cX1_checkAddress 10 = .ok (.dup, 1) := by decide +kernel
theorem dX1_checkAddress_11 : decode cX1_checkAddress 11 = .ok (.ldc 183, 2) := by decide +kernel
theorem dX1_checkAddress_13 : decode cX1_checkAddress 13 = .ok (.invokespecial 182, 3) := by decide +kernel
theorem dX1_checkAddress_16 : decode cX1_checkAddress 16 = .ok (.athrow, 1) := by decide +kernel
theorem dX1_checkAddress_17 : decode cX1_checkAddress 17 = .ok (.return_, 1) := by decide +kernel
theorem dX1_checkSize_0 : decode cX1_checkSize 0 = .ok (.iload_n 0, 1) := by decide +kernel
theorem dX1_checkSize_1 : decode cX1_checkSize 1 = .ok (.iconst 1, 1) := by decide +kernel
theorem dX1_checkSize_2 : decode cX1_checkSize 2 = .ok (.if_icmp .lt 18, 3) := by decide +kernel
theorem dX1_checkSize_5 : decode cX1_checkSize 5 = .ok (.iload_n 0, 1) := by decide +kernel
theorem dX1_checkSize_6 : decode cX1_checkSize 6 = .ok (.sipush 2048, 3) := by decide +kernel
theorem dX1_checkSize_9 : decode cX1_checkSize 9 = .ok (.if_icmp .gt 11, 3) := by decide +kernel
theorem dX1_checkSize_12 : decode cX1_checkSize 12 = .ok (.iload_n 0, 1) := by decide +kernel
theorem dX1_checkSize_13 : decode cX1_checkSize 13 = .ok (.iload_n 0, 1) := by decide +kernel
theorem dX1_checkSize_14 : decode cX1_checkSize 14 = .ok (.iconst 1, 1) := by decide +kernel
theorem dX1_checkSize_15 : decode cX1_checkSize 15 = .ok (.isub, 1) := by decide +kernel
theorem dX1_checkSize_16 : decode cX1_checkSize 16 = .ok (.iand, 1) := by decide +kernel
theorem dX1_checkSize_17 : decode cX1_checkSize 17 = .ok (.ifCond .eq 13, 3) := by decide +kernel
theorem dX1_checkSize_20 : decode cX1_checkSize 20 = .ok (.new 54, 3) := by decide +kernel
theorem dX1_checkSize_23 : decode cX1_checkSize 23 = .ok (.dup, 1) := by decide +kernel
theorem dX1_checkSize_24 : decode cX1_checkSize 24 = .ok (.ldc 185, 2) := by decide +kernel
theorem dX1_checkSize_26 : decode cX1_checkSize 26 = .ok (.invokespecial 58, 3) := by decide +kernel
theorem dX1_checkSize_29 : decode cX1_checkSize 29 = .ok (.athrow, 1) := by decide +kernel
theorem dX1_checkSize_30 : decode cX1_checkSize 30 = .ok (.return_, 1) := by decide +kernel
theorem dX1_checkOwner_0 : decode cX1_checkOwner 0 = .ok (.iload_n 0, 1) := by decide +kernel
theorem dX1_checkOwner_1 : decode cX1_checkOwner 1 = .ok (.ifCond .lt 9, 3) := by decide +kernel
theorem dX1_checkOwner_4 : decode cX1_checkOwner 4 = .ok (.iload_n 0, 1) := by decide +kernel
theorem dX1_checkOwner_5 : decode cX1_checkOwner 5 = .ok (.bipush 8, 2) := by decide +kernel
theorem dX1_checkOwner_7 : decode cX1_checkOwner 7 = .ok (.if_icmp .lt 13, 3) := by decide +kernel
theorem dX1_checkOwner_10 : decode cX1_checkOwner 10 = .ok (.new 54, 3) := by decide +kernel
theorem dX1_checkOwner_13 : decode cX1_checkOwner 13 = .ok (.dup, 1) := by decide +kernel
theorem dX1_checkOwner_14 : decode cX1_checkOwner 14 = .ok (.ldc 187, 2) := by decide +kernel
theorem dX1_checkOwner_16 : decode cX1_checkOwner 16 = .ok (.invokespecial 58, 3) := by decide +kernel
theorem dX1_checkOwner_19 : decode cX1_checkOwner 19 = .ok (.athrow, 1) := by decide +kernel
theorem dX1_checkOwner_20 : decode cX1_checkOwner 20 = .ok (.return_, 1) := by decide +kernel
theorem dX1_checkCarving_0 : decode cX1_checkCarving 0 = .ok (.aload_n 0, 1) := by decide +kernel
theorem dX1_checkCarving_1 : decode cX1_checkCarving 1 = .ok (.getfield 22, 3) := by decide +kernel
theorem dX1_checkCarving_4 : decode cX1_checkCarving 4 = .ok (.bipush 60, 2) := by decide +kernel
theorem dX1_checkCarving_6 : decode cX1_checkCarving 6 = .ok (.if_icmp .ge 19, 3) := by decide +kernel
theorem dX1_checkCarving_9 : decode cX1_checkCarving 9 = .ok (.iload_n 2, 1) := by decide +kernel
theorem dX1_checkCarving_10 : decode cX1_checkCarving 10 = .ok (.aload_n 1, 1) := by decide +kernel
theorem dX1_checkCarving_11 : decode cX1_checkCarving 11 = .ok (.getfield 114, 3) := by decide +kernel
theorem dX1_checkCarving_14 : decode cX1_checkCarving 14 = .ok (.if_icmp .ge 11, 3) := by decide +kernel
theorem dX1_checkCarving_17 : decode cX1_checkCarving 17 = .ok (.aload_n 0, 1) := by decide +kernel
theorem dX1_checkCarving_18 : decode cX1_checkCarving 18 = .ok (.aload_n 1, 1) := by decide +kernel
theorem dX1_checkCarving_19 : decode cX1_checkCarving 19 = .ok (.invokevirtual 160, 3) := by decide +kernel
theorem dX1_checkCarving_22 : decode cX1_checkCarving 22 = .ok (.ifCond .le 13, 3) := by decide +kernel
theorem dX1_checkCarving_25 : decode cX1_checkCarving 25 = .ok (.new 69, 3) := by decide +kernel
theorem dX1_checkCarving_28 : decode cX1_checkCarving 28 = .ok (.dup, 1) := by decide +kernel
theorem dX1_checkCarving_29 : decode cX1_checkCarving 29 = .ok (.ldc 189, 2) := by decide +kernel
theorem dX1_checkCarving_31 : decode cX1_checkCarving 31 = .ok (.invokespecial 73, 3) := by decide +kernel
theorem dX1_checkCarving_34 : decode cX1_checkCarving 34 = .ok (.athrow, 1) := by decide +kernel
theorem dX1_checkCarving_35 : decode cX1_checkCarving 35 = .ok (.return_, 1) := by decide +kernel
theorem dX1_makeSpan_0 : decode cX1_makeSpan 0 = .ok (.aload_n 0, 1) := by decide +kernel
theorem dX1_makeSpan_1 : decode cX1_makeSpan 1 = .ok (.getfield 22, 3) := by decide +kernel
theorem dX1_makeSpan_4 : decode cX1_makeSpan 4 = .ok (.istore 5, 2) := by decide +kernel
theorem dX1_makeSpan_6 : decode cX1_makeSpan 6 = .ok (.iload 5, 2) := by decide +kernel
theorem dX1_makeSpan_8 : decode cX1_makeSpan 8 = .ok (.aload_n 0, 1) := by decide +kernel
theorem dX1_makeSpan_9 : decode cX1_makeSpan 9 = .ok (.getfield 18, 3) := by decide +kernel
theorem dX1_makeSpan_12 : decode cX1_makeSpan 12 = .ok (.arraylength, 1) := by decide +kernel
theorem dX1_makeSpan_13 : decode cX1_makeSpan 13 = .ok (.if_icmp .lt 13, 3) := by decide +kernel
theorem dX1_makeSpan_16 : decode cX1_makeSpan 16 = .ok (.new 69, 3) := by decide +kernel
theorem dX1_makeSpan_19 : decode cX1_makeSpan 19 = .ok (.dup, 1) := by decide +kernel
theorem dX1_makeSpan_20 : decode cX1_makeSpan 20 = .ok (.ldc 191, 2) := by decide +kernel
theorem dX1_makeSpan_22 : decode cX1_makeSpan 22 = .ok (.invokespecial 73, 3) := by decide +kernel
theorem dX1_makeSpan_25 : decode cX1_makeSpan 25 = .ok (.athrow, 1) := by decide +kernel
theorem dX1_makeSpan_26 : decode cX1_makeSpan 26 = .ok (.aload_n 0, 1) := by decide +kernel
theorem dX1_makeSpan_27 : decode cX1_makeSpan 27 = .ok (.getfield 18, 3) := by decide +kernel
theorem dX1_makeSpan_30 : decode cX1_makeSpan 30 = .ok (.iload 5, 2) := by decide +kernel
theorem dX1_makeSpan_32 : decode cX1_makeSpan 32 = .ok (.new 7, 3) := by decide +kernel
theorem dX1_makeSpan_35 : decode cX1_makeSpan 35 = .ok (.dup, 1) := by decide +kernel
theorem dX1_makeSpan_36 : decode cX1_makeSpan 36 = .ok (.iload 5, 2) := by decide +kernel
theorem dX1_makeSpan_38 : decode cX1_makeSpan 38 = .ok (.aload_n 1, 1) := by decide +kernel
theorem dX1_makeSpan_39 : decode cX1_makeSpan 39 = .ok (.iload_n 2, 1) := by decide +kernel
theorem dX1_makeSpan_40 : decode cX1_makeSpan 40 = .ok (.iload_n 3, 1) := by decide +kernel
theorem dX1_makeSpan_41 : decode cX1_makeSpan 41 = .ok (.iload 4, 2) := by decide +kernel
theorem dX1_makeSpan_43 : decode cX1_makeSpan 43 = .ok (.invokespecial 11, 3) := by decide +kernel
theorem dX1_makeSpan_46 : decode cX1_makeSpan 46 = .ok (.aastore, 1) := by decide +kernel
theorem dX1_makeSpan_47 : decode cX1_makeSpan 47 = .ok (.aload_n 0, 1) := by decide +kernel
theorem dX1_makeSpan_48 : decode cX1_makeSpan 48 = .ok (.dup, 1) := by decide +kernel
theorem dX1_makeSpan_49 : decode cX1_makeSpan 49 = .ok (.getfield 22, 3) := by decide +kernel
theorem dX1_makeSpan_52 : decode cX1_makeSpan 52 = .ok (.iconst 1, 1) := by decide +kernel
theorem dX1_makeSpan_53 : decode cX1_makeSpan 53 = .ok (.iadd, 1) := by decide +kernel
theorem dX1_makeSpan_54 : decode cX1_makeSpan 54 = .ok (.putfield 22, 3) := by decide +kernel
theorem dX1_makeSpan_57 : decode cX1_makeSpan 57 = .ok (.aload_n 0, 1) := by decide +kernel
theorem dX1_makeSpan_58 : decode cX1_makeSpan 58 = .ok (.iconst 0, 1) := by decide +kernel
theorem dX1_makeSpan_59 : decode cX1_makeSpan 59 = .ok (.putfield 39, 3) := by decide +kernel
theorem dX1_makeSpan_62 : decode cX1_makeSpan 62 = .ok (.iload 5, 2) := by decide +kernel
theorem dX1_makeSpan_64 : decode cX1_makeSpan 64 = .ok (.ireturn, 1) := by decide +kernel
theorem dX1_childAt_0 : decode cX1_childAt 0 = .ok (.aload_n 0, 1) := by decide +kernel
theorem dX1_childAt_1 : decode cX1_childAt 1 = .ok (.getfield 18, 3) := by decide +kernel
theorem dX1_childAt_4 : decode cX1_childAt 4 = .ok (.astore_n 3, 1) := by decide +kernel
theorem dX1_childAt_5 : decode cX1_childAt 5 = .ok (.aload_n 3, 1) := by decide +kernel
theorem dX1_childAt_6 : decode cX1_childAt 6 = .ok (.arraylength, 1) := by decide +kernel
theorem dX1_childAt_7 : decode cX1_childAt 7 = .ok (.istore 4, 2) := by decide +kernel
theorem dX1_childAt_9 : decode cX1_childAt 9 = .ok (.iconst 0, 1) := by decide +kernel
theorem dX1_childAt_10 : decode cX1_childAt 10 = .ok (.istore 5, 2) := by decide +kernel
theorem dX1_childAt_12 : decode cX1_childAt 12 = .ok (.iload 5, 2) := by decide +kernel
theorem dX1_childAt_14 : decode cX1_childAt 14 = .ok (.iload 4, 2) := by decide +kernel
theorem dX1_childAt_16 : decode cX1_childAt 16 = .ok (.if_icmp .ge 41, 3) := by decide +kernel
theorem dX1_childAt_19 : decode cX1_childAt 19 = .ok (.aload_n 3, 1) := by decide +kernel
theorem dX1_childAt_20 : decode cX1_childAt 20 = .ok (.iload 5, 2) := by decide +kernel
theorem dX1_childAt_22 : decode cX1_childAt 22 = .ok (.aaload, 1) := by decide +kernel
theorem dX1_childAt_23 : decode cX1_childAt 23 = .ok (.astore 6, 2) := by decide +kernel
theorem dX1_childAt_25 : decode cX1_childAt 25 = .ok (.aload 6, 2) := by decide +kernel
theorem dX1_childAt_27 : decode cX1_childAt 27 = .ok (.ifnull 24, 3) := by decide +kernel
theorem dX1_childAt_30 : decode cX1_childAt 30 = .ok (.aload 6, 2) := by decide +kernel
theorem dX1_childAt_32 : decode cX1_childAt 32 = .ok (.getfield 94, 3) := by decide +kernel
theorem dX1_childAt_35 : decode cX1_childAt 35 = .ok (.aload_n 1, 1) := by decide +kernel
theorem dX1_childAt_36 : decode cX1_childAt 36 = .ok (.if_acmp .ne 15, 3) := by decide +kernel
theorem dX1_childAt_39 : decode cX1_childAt 39 = .ok (.aload 6, 2) := by decide +kernel
theorem dX1_childAt_41 : decode cX1_childAt 41 = .ok (.iload_n 2, 1) := by decide +kernel
theorem dX1_childAt_42 : decode cX1_childAt 42 = .ok (.invokevirtual 84, 3) := by decide +kernel
theorem dX1_childAt_45 : decode cX1_childAt 45 = .ok (.ifCond .eq 6, 3) := by decide +kernel
theorem dX1_childAt_48 : decode cX1_childAt 48 = .ok (.aload 6, 2) := by decide +kernel
theorem dX1_childAt_50 : decode cX1_childAt 50 = .ok (.areturn, 1) := by decide +kernel
theorem dX1_childAt_51 : decode cX1_childAt 51 = .ok (.iinc 5 1, 3) := by decide +kernel
theorem dX1_childAt_54 : decode cX1_childAt 54 = .ok (.goto (-42), 3) := by decide +kernel
theorem dX1_childAt_57 : decode cX1_childAt 57 = .ok (.aconst_null, 1) := by decide +kernel
theorem dX1_childAt_58 : decode cX1_childAt 58 = .ok (.areturn, 1) := by decide +kernel
theorem dX1_countChildren_0 : decode cX1_countChildren 0 = .ok (.iconst 0, 1) := by decide +kernel
theorem dX1_countChildren_1 : decode cX1_countChildren 1 = .ok (.istore 4, 2) := by decide +kernel
theorem dX1_countChildren_3 : decode cX1_countChildren 3 = .ok (.aload_n 0, 1) := by decide +kernel
theorem dX1_countChildren_4 : decode cX1_countChildren 4 = .ok (.getfield 18, 3) := by decide +kernel
theorem dX1_countChildren_7 : decode cX1_countChildren 7 = .ok (.astore 5, 2) := by decide +kernel
theorem dX1_countChildren_9 : decode cX1_countChildren 9 = .ok (.aload 5, 2) := by decide +kernel
theorem dX1_countChildren_11 : decode cX1_countChildren 11 = .ok (.arraylength, 1) := by decide +kernel
theorem dX1_countChildren_12 : decode cX1_countChildren 12 = .ok (.istore 6, 2) := by decide +kernel
theorem dX1_countChildren_14 : decode cX1_countChildren 14 = .ok (.iconst 0, 1) := by decide +kernel
theorem dX1_countChildren_15 : decode cX1_countChildren 15 = .ok (.istore 7, 2) := by decide +kernel
theorem dX1_countChildren_17 : decode cX1_countChildren 17 = .ok (.iload 7, 2) := by decide +kernel
theorem dX1_countChildren_19 : decode cX1_countChildren 19 = .ok (.iload 6, 2) := by decide +kernel
theorem dX1_countChildren_21 : decode cX1_countChildren 21 = .ok (.if_icmp .ge 43, 3) := by decide +kernel
theorem dX1_countChildren_24 : decode cX1_countChildren 24 = .ok (.aload 5, 2) := by decide +kernel
theorem dX1_countChildren_26 : decode cX1_countChildren 26 = .ok (.iload 7, 2) := by decide +kernel
theorem dX1_countChildren_28 : decode cX1_countChildren 28 = .ok (.aaload, 1) := by decide +kernel
theorem dX1_countChildren_29 : decode cX1_countChildren 29 = .ok (.astore 8, 2) := by decide +kernel
theorem dX1_countChildren_31 : decode cX1_countChildren 31 = .ok (.aload 8, 2) := by decide +kernel
theorem dX1_countChildren_33 : decode cX1_countChildren 33 = .ok (.ifnull 25, 3) := by decide +kernel
theorem dX1_countChildren_36 : decode cX1_countChildren 36 = .ok (.aload 8, 2) := by decide +kernel
theorem dX1_countChildren_38 : decode cX1_countChildren 38 = .ok (.getfield 94, 3) := by decide +kernel
theorem dX1_countChildren_41 : decode cX1_countChildren 41 = .ok (.aload_n 1, 1) := by decide +kernel
theorem dX1_countChildren_42 : decode cX1_countChildren 42 = .ok (.if_acmp .ne 16, 3) := by decide +kernel
theorem dX1_countChildren_45 : decode cX1_countChildren 45 = .ok (.aload 8, 2) := by decide +kernel
theorem dX1_countChildren_47 : decode cX1_countChildren 47 = .ok (.iload_n 2, 1) := by decide +kernel
theorem dX1_countChildren_48 : decode cX1_countChildren 48 = .ok (.iload_n 3, 1) := by decide +kernel
theorem dX1_countChildren_49 : decode cX1_countChildren 49 = .ok (.invokevirtual 193, 3) := by decide +kernel
theorem dX1_countChildren_52 : decode cX1_countChildren 52 = .ok (.ifCond .eq 6, 3) := by decide +kernel
theorem dX1_countChildren_55 : decode cX1_countChildren 55 = .ok (.iinc 4 1, 3) := by decide +kernel
theorem dX1_countChildren_58 : decode cX1_countChildren 58 = .ok (.iinc 7 1, 3) := by decide +kernel
theorem dX1_countChildren_61 : decode cX1_countChildren 61 = .ok (.goto (-44), 3) := by decide +kernel
theorem dX1_countChildren_64 : decode cX1_countChildren 64 = .ok (.iload 4, 2) := by decide +kernel
theorem dX1_countChildren_66 : decode cX1_countChildren 66 = .ok (.ireturn, 1) := by decide +kernel
theorem dX1_hasChildren_0 : decode cX1_hasChildren 0 = .ok (.aload_n 0, 1) := by decide +kernel
theorem dX1_hasChildren_1 : decode cX1_hasChildren 1 = .ok (.aload_n 1, 1) := by decide +kernel
theorem dX1_hasChildren_2 : decode cX1_hasChildren 2 = .ok (.aload_n 1, 1) := by decide +kernel
theorem dX1_hasChildren_3 : decode cX1_hasChildren 3 = .ok (.getfield 101, 3) := by decide +kernel
theorem dX1_hasChildren_6 : decode cX1_hasChildren 6 = .ok (.aload_n 1, 1) := by decide +kernel
theorem dX1_hasChildren_7 : decode cX1_hasChildren 7 = .ok (.getfield 114, 3) := by decide +kernel
theorem dX1_hasChildren_10 : decode cX1_hasChildren 10 = .ok (.invokevirtual 88, 3) := by decide +kernel
theorem dX1_hasChildren_13 : decode cX1_hasChildren 13 = .ok (.ifCond .le 7, 3) := by decide +kernel
theorem dX1_hasChildren_16 : decode cX1_hasChildren 16 = .ok (.iconst 1, 1) := by decide +kernel
theorem dX1_hasChildren_17 : decode cX1_hasChildren 17 = .ok (.goto 4, 3) := by decide +kernel
theorem dX1_hasChildren_20 : decode cX1_hasChildren 20 = .ok (.iconst 0, 1) := by decide +kernel
theorem dX1_hasChildren_21 : decode cX1_hasChildren 21 = .ok (.ireturn, 1) := by decide +kernel
theorem dX1_outsideChildren_0 : decode cX1_outsideChildren 0 = .ok (.aload_n 1, 1) := by decide +kernel
theorem dX1_outsideChildren_1 : decode cX1_outsideChildren 1 = .ok (.getfield 114, 3) := by decide +kernel
theorem dX1_outsideChildren_4 : decode cX1_outsideChildren 4 = .ok (.istore_n 2, 1) := by decide +kernel
theorem dX1_outsideChildren_5 : decode cX1_outsideChildren 5 = .ok (.aload_n 0, 1) := by decide +kernel
theorem dX1_outsideChildren_6 : decode cX1_outsideChildren 6 = .ok (.getfield 18, 3) := by decide +kernel
theorem dX1_outsideChildren_9 : decode cX1_outsideChildren 9 = .ok (.astore_n 3, 1) := by decide +kernel
theorem dX1_outsideChildren_10 : decode cX1_outsideChildren 10 = .ok (.aload_n 3, 1) := by decide +kernel
theorem dX1_outsideChildren_11 : decode cX1_outsideChildren 11 = .ok (.arraylength, 1) := by decide +kernel
theorem dX1_outsideChildren_12 : decode cX1_outsideChildren 12 = .ok (.istore 4, 2) := by decide +kernel
theorem dX1_outsideChildren_14 : decode cX1_outsideChildren 14 = .ok (.iconst 0, 1) := by decide +kernel
theorem dX1_outsideChildren_15 : decode cX1_outsideChildren 15 = .ok (.istore 5, 2) := by decide +kernel
theorem dX1_outsideChildren_17 : decode cX1_outsideChildren 17 = .ok (.iload 5, 2) := by decide +kernel
theorem dX1_outsideChildren_19 : decode cX1_outsideChildren 19 = .ok (.iload 4, 2) := by decide +kernel
theorem dX1_outsideChildren_21 : decode cX1_outsideChildren 21 = .ok (.if_icmp .ge 37, 3) := by decide +kernel
theorem dX1_outsideChildren_24 : decode cX1_outsideChildren 24 = .ok (.aload_n 3, 1) := by decide +kernel
theorem dX1_outsideChildren_25 : decode cX1_outsideChildren 25 = .ok (.iload 5, 2) := by decide +kernel
theorem dX1_outsideChildren_27 : decode cX1_outsideChildren 27 = .ok (.aaload, 1) := by decide +kernel
theorem dX1_outsideChildren_28 : decode cX1_outsideChildren 28 = .ok (.astore 6, 2) := by decide +kernel
theorem dX1_outsideChildren_30 : decode cX1_outsideChildren 30 = .ok (.aload 6, 2) := by decide +kernel
theorem dX1_outsideChildren_32 : decode cX1_outsideChildren 32 = .ok (.ifnull 20, 3) := by decide +kernel
theorem dX1_outsideChildren_35 : decode cX1_outsideChildren 35 = .ok (.aload 6, 2) := by decide +kernel
theorem dX1_outsideChildren_37 : decode cX1_outsideChildren 37 = .ok (.getfield 94, 3) := by decide +kernel
theorem dX1_outsideChildren_40 : decode cX1_outsideChildren 40 = .ok (.aload_n 1, 1) := by decide +kernel
theorem dX1_outsideChildren_41 : decode cX1_outsideChildren 41 = .ok (.if_acmp .ne 11, 3) := by decide +kernel
theorem dX1_outsideChildren_44 : decode cX1_outsideChildren 44 = .ok (.iload_n 2, 1) := by decide +kernel
theorem dX1_outsideChildren_45 : decode cX1_outsideChildren 45 = .ok (.aload 6, 2) := by decide +kernel
theorem dX1_outsideChildren_47 : decode cX1_outsideChildren 47 = .ok (.getfield 114, 3) := by decide +kernel
theorem dX1_outsideChildren_50 : decode cX1_outsideChildren 50 = .ok (.isub, 1) := by decide +kernel
theorem dX1_outsideChildren_51 : decode cX1_outsideChildren 51 = .ok (.istore_n 2, 1) := by decide +kernel
theorem dX1_outsideChildren_52 : decode cX1_outsideChildren 52 = .ok (.iinc 5 1, 3) := by decide +kernel
theorem dX1_outsideChildren_55 : decode cX1_outsideChildren 55 = .ok (.goto (-38), 3) := by decide +kernel
theorem dX1_outsideChildren_58 : decode cX1_outsideChildren 58 = .ok (.iload_n 2, 1) := by decide +kernel
theorem dX1_outsideChildren_59 : decode cX1_outsideChildren 59 = .ok (.ireturn, 1) := by decide +kernel
theorem dX1_chosenBlock_0 : decode cX1_chosenBlock 0 = .ok (.iconst (-1), 1) := by decide +kernel
theorem dX1_chosenBlock_1 : decode cX1_chosenBlock 1 = .ok (.istore 4, 2) := by decide +kernel
theorem dX1_chosenBlock_3 : decode cX1_chosenBlock 3 = .ok (.iconst 0, 1) := by decide +kernel
theorem dX1_chosenBlock_4 : decode cX1_chosenBlock 4 = .ok (.istore 5, 2) := by decide +kernel
theorem dX1_chosenBlock_6 : decode cX1_chosenBlock 6 = .ok (.aload_n 1, 1) := by decide +kernel
theorem dX1_chosenBlock_7 : decode cX1_chosenBlock 7 = .ok (.getfield 101, 3) := by decide +kernel
theorem dX1_chosenBlock_10 : decode cX1_chosenBlock 10 = .ok (.istore 6, 2) := by decide +kernel
theorem dX1_chosenBlock_12 : decode cX1_chosenBlock 12 = .ok (.iconst 0, 1) := by decide +kernel
theorem dX1_chosenBlock_13 : decode cX1_chosenBlock 13 = .ok (.istore 7, 2) := by decide +kernel
theorem dX1_chosenBlock_15 : decode cX1_chosenBlock 15 = .ok (.iload 7, 2) := by decide +kernel
theorem dX1_chosenBlock_17 : decode cX1_chosenBlock 17 = .ok (.sipush 4096, 3) := by decide +kernel
theorem dX1_chosenBlock_20 : decode cX1_chosenBlock 20 = .ok (.if_icmp .ge 111, 3) := by decide +kernel
theorem dX1_chosenBlock_23 : decode cX1_chosenBlock 23 = .ok (.iload 6, 2) := by decide +kernel
theorem dX1_chosenBlock_25 : decode cX1_chosenBlock 25 = .ok (.aload_n 1, 1) := by decide +kernel
theorem dX1_chosenBlock_26 : decode cX1_chosenBlock 26 = .ok (.invokevirtual 104, 3) := by decide +kernel
theorem dX1_chosenBlock_29 : decode cX1_chosenBlock 29 = .ok (.if_icmp .ge 102, 3) := by decide +kernel
theorem dX1_chosenBlock_32 : decode cX1_chosenBlock 32 = .ok (.aload_n 0, 1) := by decide +kernel
theorem dX1_chosenBlock_33 : decode cX1_chosenBlock 33 = .ok (.aload_n 1, 1) := by decide +kernel
theorem dX1_chosenBlock_34 : decode cX1_chosenBlock 34 = .ok (.iload 6, 2) := by decide +kernel
theorem dX1_chosenBlock_36 : decode cX1_chosenBlock 36 = .ok (.invokevirtual 168, 3) := by decide +kernel
theorem dX1_chosenBlock_39 : decode cX1_chosenBlock 39 = .ok (.astore 8, 2) := by decide +kernel
theorem dX1_chosenBlock_41 : decode cX1_chosenBlock 41 = .ok (.aload 8, 2) := by decide +kernel
theorem dX1_chosenBlock_43 : decode cX1_chosenBlock 43 = .ok (.ifnull 13, 3) := by decide +kernel
theorem dX1_chosenBlock_46 : decode cX1_chosenBlock 46 = .ok (.aload 8, 2) := by decide +kernel
theorem dX1_chosenBlock_48 : decode cX1_chosenBlock 48 = .ok (.invokevirtual 104, 3) := by decide +kernel
theorem dX1_chosenBlock_51 : decode cX1_chosenBlock 51 = .ok (.istore 6, 2) := by decide +kernel
theorem dX1_chosenBlock_53 : decode cX1_chosenBlock 53 = .ok (.goto 72, 3) := by decide +kernel
theorem dX1_chosenBlock_56 : decode cX1_chosenBlock 56 = .ok (.aload_n 0, 1) := by decide +kernel
theorem dX1_chosenBlock_57 : decode cX1_chosenBlock 57 = .ok (.aload_n 1, 1) := by decide +kernel
theorem dX1_chosenBlock_58 : decode cX1_chosenBlock 58 = .ok (.iload 6, 2) := by decide +kernel
theorem dX1_chosenBlock_60 : decode cX1_chosenBlock 60 = .ok (.invokevirtual 74, 3) := by decide +kernel
theorem dX1_chosenBlock_63 : decode cX1_chosenBlock 63 = .ok (.istore 9, 2) := by decide +kernel
theorem dX1_chosenBlock_65 : decode cX1_chosenBlock 65 = .ok (.iload 4, 2) := by decide +kernel
theorem dX1_chosenBlock_67 : decode cX1_chosenBlock 67 = .ok (.iconst (-1), 1) := by decide +kernel
theorem dX1_chosenBlock_68 : decode cX1_chosenBlock 68 = .ok (.if_icmp .eq 24, 3) := by decide +kernel
theorem dX1_chosenBlock_71 : decode cX1_chosenBlock 71 = .ok (.iload_n 3, 1) := by decide +kernel
theorem dX1_chosenBlock_72 : decode cX1_chosenBlock 72 = .ok (.ifCond .eq 13, 3) := by decide +kernel
theorem dX1_chosenBlock_75 : decode cX1_chosenBlock 75 = .ok (.iload 9, 2) := by decide +kernel
theorem dX1_chosenBlock_77 : decode cX1_chosenBlock 77 = .ok (.iload 5, 2) := by decide +kernel
theorem dX1_chosenBlock_79 : decode cX1_chosenBlock 79 = .ok (.if_icmp .ge 17, 3) := by decide +kernel
theorem dX1_chosenBlock_82 : decode cX1_chosenBlock 82 = .ok (.goto 10, 3) := by decide +kernel
theorem dX1_chosenBlock_85 : decode cX1_chosenBlock 85 = .ok (.iload 9, 2) := by decide +kernel
theorem dX1_chosenBlock_87 : decode cX1_chosenBlock 87 = .ok (.iload 5, 2) := by decide +kernel
theorem dX1_chosenBlock_89 : decode cX1_chosenBlock 89 = .ok (.if_icmp .le 7, 3) := by decide +kernel
theorem dX1_chosenBlock_92 : decode cX1_chosenBlock 92 = .ok (.iconst 1, 1) := by decide +kernel
theorem dX1_chosenBlock_93 : decode cX1_chosenBlock 93 = .ok (.goto 4, 3) := by decide +kernel
theorem dX1_chosenBlock_96 : decode cX1_chosenBlock 96 = .ok (.iconst 0, 1) := by decide +kernel
theorem dX1_chosenBlock_97 : decode cX1_chosenBlock 97 = .ok (.istore 10, 2) := by decide +kernel
theorem dX1_chosenBlock_99 : decode cX1_chosenBlock 99 = .ok (.iload 9, 2) := by decide +kernel
theorem dX1_chosenBlock_101 : decode cX1_chosenBlock 101 = .ok (.iload_n 2, 1) := by decide +kernel
theorem dX1_chosenBlock_102 : decode cX1_chosenBlock 102 = .ok (.if_icmp .lt 16, 3) := by decide +kernel
theorem dX1_chosenBlock_105 : decode cX1_chosenBlock 105 = .ok (.iload 10, 2) := by decide +kernel
theorem dX1_chosenBlock_107 : decode cX1_chosenBlock 107 = .ok (.ifCond .eq 11, 3) := by decide +kernel
theorem dX1_chosenBlock_110 : decode cX1_chosenBlock 110 = .ok (.iload 6, 2) := by decide +kernel
theorem dX1_chosenBlock_112 : decode cX1_chosenBlock 112 = .ok (.istore 4, 2) := by decide +kernel
theorem dX1_chosenBlock_114 : decode cX1_chosenBlock 114 = .ok (.iload 9, 2) := by decide +kernel
theorem dX1_chosenBlock_116 : decode cX1_chosenBlock 116 = .ok (.istore 5, 2) := by decide +kernel
theorem dX1_chosenBlock_118 : decode cX1_chosenBlock 118 = .ok (.iload 6, 2) := by decide +kernel
theorem dX1_chosenBlock_120 : decode cX1_chosenBlock 120 = .ok (.iload 9, 2) := by decide +kernel
theorem dX1_chosenBlock_122 : decode cX1_chosenBlock 122 = .ok (.iadd, 1) := by decide +kernel
theorem dX1_chosenBlock_123 : decode cX1_chosenBlock 123 = .ok (.istore 6, 2) := by decide +kernel
theorem dX1_chosenBlock_125 : decode cX1_chosenBlock 125 = .ok (.iinc 7 1, 3) := by decide +kernel
theorem dX1_chosenBlock_128 : decode cX1_chosenBlock 128 = .ok (.goto (-113), 3) := by decide +kernel
theorem dX1_chosenBlock_131 : decode cX1_chosenBlock 131 = .ok (.iload 4, 2) := by decide +kernel
theorem dX1_chosenBlock_133 : decode cX1_chosenBlock 133 = .ok (.ireturn, 1) := by decide +kernel
theorem dX1_roomAt_0 : decode cX1_roomAt 0 = .ok (.aload_n 1, 1) := by decide +kernel
theorem dX1_roomAt_1 : decode cX1_roomAt 1 = .ok (.invokevirtual 104, 3) := by decide +kernel
theorem dX1_roomAt_4 : decode cX1_roomAt 4 = .ok (.istore_n 3, 1) := by decide +kernel
theorem dX1_roomAt_5 : decode cX1_roomAt 5 = .ok (.aload_n 0, 1) := by decide +kernel
theorem dX1_roomAt_6 : decode cX1_roomAt 6 = .ok (.getfield 18, 3) := by decide +kernel
theorem dX1_roomAt_9 : decode cX1_roomAt 9 = .ok (.astore 4, 2) := by decide +kernel
theorem dX1_roomAt_11 : decode cX1_roomAt 11 = .ok (.aload 4, 2) := by decide +kernel
theorem dX1_roomAt_13 : decode cX1_roomAt 13 = .ok (.arraylength, 1) := by decide +kernel
theorem dX1_roomAt_14 : decode cX1_roomAt 14 = .ok (.istore 5, 2) := by decide +kernel
theorem dX1_roomAt_16 : decode cX1_roomAt 16 = .ok (.iconst 0, 1) := by decide +kernel
theorem dX1_roomAt_17 : decode cX1_roomAt 17 = .ok (.istore 6, 2) := by decide +kernel
theorem dX1_roomAt_19 : decode cX1_roomAt 19 = .ok (.iload 6, 2) := by decide +kernel
theorem dX1_roomAt_21 : decode cX1_roomAt 21 = .ok (.iload 5, 2) := by decide +kernel
theorem dX1_roomAt_23 : decode cX1_roomAt 23 = .ok (.if_icmp .ge 49, 3) := by decide +kernel
theorem dX1_roomAt_26 : decode cX1_roomAt 26 = .ok (.aload 4, 2) := by decide +kernel
theorem dX1_roomAt_28 : decode cX1_roomAt 28 = .ok (.iload 6, 2) := by decide +kernel
theorem dX1_roomAt_30 : decode cX1_roomAt 30 = .ok (.aaload, 1) := by decide +kernel
theorem dX1_roomAt_31 : decode cX1_roomAt 31 = .ok (.astore 7, 2) := by decide +kernel
theorem dX1_roomAt_33 : decode cX1_roomAt 33 = .ok (.aload 7, 2) := by decide +kernel
theorem dX1_roomAt_35 : decode cX1_roomAt 35 = .ok (.ifnull 31, 3) := by decide +kernel
theorem dX1_roomAt_38 : decode cX1_roomAt 38 = .ok (.aload 7, 2) := by decide +kernel
theorem dX1_roomAt_40 : decode cX1_roomAt 40 = .ok (.getfield 94, 3) := by decide +kernel
theorem dX1_roomAt_43 : decode cX1_roomAt 43 = .ok (.aload_n 1, 1) := by decide +kernel
theorem dX1_roomAt_44 : decode cX1_roomAt 44 = .ok (.if_acmp .ne 22, 3) := by decide +kernel
theorem dX1_roomAt_47 : decode cX1_roomAt 47 = .ok (.aload 7, 2) := by decide +kernel
theorem dX1_roomAt_49 : decode cX1_roomAt 49 = .ok (.getfield 101, 3) := by decide +kernel
theorem dX1_roomAt_52 : decode cX1_roomAt 52 = .ok (.iload_n 2, 1) := by decide +kernel
theorem dX1_roomAt_53 : decode cX1_roomAt 53 = .ok (.if_icmp .le 13, 3) := by decide +kernel
theorem dX1_roomAt_56 : decode cX1_roomAt 56 = .ok (.iload_n 3, 1) := by decide +kernel
theorem dX1_roomAt_57 : decode cX1_roomAt 57 = .ok (.aload 7, 2) := by decide +kernel
theorem dX1_roomAt_59 : decode cX1_roomAt 59 = .ok (.getfield 101, 3) := by decide +kernel
theorem dX1_roomAt_62 : decode cX1_roomAt 62 = .ok (.invokestatic 163, 3) := by decide +kernel
theorem dX1_roomAt_65 : decode cX1_roomAt 65 = .ok (.istore_n 3, 1) := by decide +kernel
theorem dX1_roomAt_66 : decode cX1_roomAt 66 = .ok (.iinc 6 1, 3) := by decide +kernel
theorem dX1_roomAt_69 : decode cX1_roomAt 69 = .ok (.goto (-50), 3) := by decide +kernel
theorem dX1_roomAt_72 : decode cX1_roomAt 72 = .ok (.iload_n 2, 1) := by decide +kernel
theorem dX1_roomAt_73 : decode cX1_roomAt 73 = .ok (.iload_n 3, 1) := by decide +kernel
theorem dX1_roomAt_74 : decode cX1_roomAt 74 = .ok (.invokestatic 197, 3) := by decide +kernel
theorem dX1_roomAt_77 : decode cX1_roomAt 77 = .ok (.ireturn, 1) := by decide +kernel
theorem dX1_greatestBlock_0 : decode cX1_greatestBlock 0 = .ok (.iconst 1, 1) := by decide +kernel
theorem dX1_greatestBlock_1 : decode cX1_greatestBlock 1 = .ok (.istore_n 2, 1) := by decide +kernel
theorem dX1_greatestBlock_2 : decode cX1_greatestBlock 2 = .ok (.iconst 2, 1) := by decide +kernel
theorem dX1_greatestBlock_3 : decode cX1_greatestBlock 3 = .ok (.istore_n 3, 1) := by decide +kernel
theorem dX1_greatestBlock_4 : decode cX1_greatestBlock 4 = .ok (.iload_n 3, 1) := by decide +kernel
theorem dX1_greatestBlock_5 : decode cX1_greatestBlock 5 = .ok (.iload_n 1, 1) := by decide +kernel
theorem dX1_greatestBlock_6 : decode cX1_greatestBlock 6 = .ok (.iload_n 0, 1) := by decide +kernel
theorem dX1_greatestBlock_7 : decode cX1_greatestBlock 7 = .ok (.isub, 1) := by decide +kernel
theorem dX1_greatestBlock_8 : decode cX1_greatestBlock 8 = .ok (.if_icmp .gt 27, 3) := by decide +kernel
theorem dX1_greatestBlock_11 : decode cX1_greatestBlock 11 = .ok (.iload_n 3, 1) := by decide +kernel
theorem dX1_greatestBlock_12 : decode cX1_greatestBlock 12 = .ok (.sipush 4096, 3) := by decide +kernel
theorem dX1_greatestBlock_15 : decode cX1_greatestBlock 15 = .ok (.if_icmp .gt 20, 3) := by decide +kernel
theorem dX1_greatestBlock_18 : decode cX1_greatestBlock 18 = .ok (.iload_n 0, 1) := by decide +kernel
theorem dX1_greatestBlock_19 : decode cX1_greatestBlock 19 = .ok (.iload_n 3, 1) := by decide +kernel
theorem dX1_greatestBlock_20 : decode cX1_greatestBlock 20 = .ok (.iconst 1, 1) := by decide +kernel
theorem dX1_greatestBlock_21 : decode cX1_greatestBlock 21 = .ok (.isub, 1) := by decide +kernel
theorem dX1_greatestBlock_22 : decode cX1_greatestBlock 22 = .ok (.iand, 1) := by decide +kernel
theorem dX1_greatestBlock_23 : decode cX1_greatestBlock 23 = .ok (.ifCond .ne 12, 3) := by decide +kernel
theorem dX1_greatestBlock_26 : decode cX1_greatestBlock 26 = .ok (.iload_n 3, 1) := by decide +kernel
theorem dX1_greatestBlock_27 : decode cX1_greatestBlock 27 = .ok (.istore_n 2, 1) := by decide +kernel
theorem dX1_greatestBlock_28 : decode cX1_greatestBlock 28 = .ok (.iload_n 3, 1) := by decide +kernel
theorem dX1_greatestBlock_29 : decode cX1_greatestBlock 29 = .ok (.iconst 2, 1) := by decide +kernel
theorem dX1_greatestBlock_30 : decode cX1_greatestBlock 30 = .ok (.imul, 1) := by decide +kernel
theorem dX1_greatestBlock_31 : decode cX1_greatestBlock 31 = .ok (.istore_n 3, 1) := by decide +kernel
theorem dX1_greatestBlock_32 : decode cX1_greatestBlock 32 = .ok (.goto (-28), 3) := by decide +kernel
theorem dX1_greatestBlock_35 : decode cX1_greatestBlock 35 = .ok (.iload_n 2, 1) := by decide +kernel
theorem dX1_greatestBlock_36 : decode cX1_greatestBlock 36 = .ok (.ireturn, 1) := by decide +kernel
theorem dX1_countBlocks_0 : decode cX1_countBlocks 0 = .ok (.iconst 0, 1) := by decide +kernel
theorem dX1_countBlocks_1 : decode cX1_countBlocks 1 = .ok (.istore_n 2, 1) := by decide +kernel
theorem dX1_countBlocks_2 : decode cX1_countBlocks 2 = .ok (.iload_n 0, 1) := by decide +kernel
theorem dX1_countBlocks_3 : decode cX1_countBlocks 3 = .ok (.istore_n 3, 1) := by decide +kernel
theorem dX1_countBlocks_4 : decode cX1_countBlocks 4 = .ok (.iload_n 3, 1) := by decide +kernel
theorem dX1_countBlocks_5 : decode cX1_countBlocks 5 = .ok (.iload_n 1, 1) := by decide +kernel
theorem dX1_countBlocks_6 : decode cX1_countBlocks 6 = .ok (.if_icmp .ge 24, 3) := by decide +kernel
theorem dX1_countBlocks_9 : decode cX1_countBlocks 9 = .ok (.iload_n 2, 1) := by decide +kernel
theorem dX1_countBlocks_10 : decode cX1_countBlocks 10 = .ok (.sipush 4096, 3) := by decide +kernel
theorem dX1_countBlocks_13 : decode cX1_countBlocks 13 = .ok (.if_icmp .ge 17, 3) := by decide +kernel
theorem dX1_countBlocks_16 : decode cX1_countBlocks 16 = .ok (.iload_n 3, 1) := by decide +kernel
theorem dX1_countBlocks_17 : decode cX1_countBlocks 17 = .ok (.iload_n 3, 1) := by decide +kernel
theorem dX1_countBlocks_18 : decode cX1_countBlocks 18 = .ok (.iload_n 1, 1) := by decide +kernel
theorem dX1_countBlocks_19 : decode cX1_countBlocks 19 = .ok (.invokestatic 197, 3) := by decide +kernel
theorem dX1_countBlocks_22 : decode cX1_countBlocks 22 = .ok (.iadd, 1) := by decide +kernel
theorem dX1_countBlocks_23 : decode cX1_countBlocks 23 = .ok (.istore_n 3, 1) := by decide +kernel
theorem dX1_countBlocks_24 : decode cX1_countBlocks 24 = .ok (.iinc 2 1, 3) := by decide +kernel
theorem dX1_countBlocks_27 : decode cX1_countBlocks 27 = .ok (.goto (-23), 3) := by decide +kernel
theorem dX1_countBlocks_30 : decode cX1_countBlocks 30 = .ok (.iload_n 2, 1) := by decide +kernel
theorem dX1_countBlocks_31 : decode cX1_countBlocks 31 = .ok (.ireturn, 1) := by decide +kernel
theorem dX1_countLent_0 : decode cX1_countLent 0 = .ok (.iconst 0, 1) := by decide +kernel
theorem dX1_countLent_1 : decode cX1_countLent 1 = .ok (.istore_n 3, 1) := by decide +kernel
theorem dX1_countLent_2 : decode cX1_countLent 2 = .ok (.iload_n 1, 1) := by decide +kernel
theorem dX1_countLent_3 : decode cX1_countLent 3 = .ok (.istore 4, 2) := by decide +kernel
theorem dX1_countLent_5 : decode cX1_countLent 5 = .ok (.iload 4, 2) := by decide +kernel
theorem dX1_countLent_7 : decode cX1_countLent 7 = .ok (.iload_n 2, 1) := by decide +kernel
theorem dX1_countLent_8 : decode cX1_countLent 8 = .ok (.if_icmp .ge 30, 3) := by decide +kernel
theorem dX1_countLent_11 : decode cX1_countLent 11 = .ok (.iload 4, 2) := by decide +kernel
theorem dX1_countLent_13 : decode cX1_countLent 13 = .ok (.invokestatic 136, 3) := by decide +kernel
theorem dX1_countLent_16 : decode cX1_countLent 16 = .ok (.ifCond .eq 22, 3) := by decide +kernel
theorem dX1_countLent_19 : decode cX1_countLent 19 = .ok (.aload_n 0, 1) := by decide +kernel
theorem dX1_countLent_20 : decode cX1_countLent 20 = .ok (.getfield 26, 3) := by decide +kernel
theorem dX1_countLent_23 : decode cX1_countLent 23 = .ok (.iload 4, 2) := by decide +kernel
theorem dX1_countLent_25 : decode cX1_countLent 25 = .ok (.iaload, 1) := by decide +kernel
theorem dX1_countLent_26 : decode cX1_countLent 26 = .ok (.ifCond .eq 6, 3) := by decide +kernel
theorem dX1_countLent_29 : decode cX1_countLent 29 = .ok (.iinc 3 1, 3) := by decide +kernel
theorem dX1_countLent_32 : decode cX1_countLent 32 = .ok (.iinc 4 1, 3) := by decide +kernel
theorem dX1_countLent_35 : decode cX1_countLent 35 = .ok (.goto (-30), 3) := by decide +kernel
theorem dX1_countLent_38 : decode cX1_countLent 38 = .ok (.iload_n 3, 1) := by decide +kernel
theorem dX1_countLent_39 : decode cX1_countLent 39 = .ok (.ireturn, 1) := by decide +kernel
theorem dX1_lentInItself_0 : decode cX1_lentInItself 0 = .ok (.aload_n 0, 1) := by decide +kernel
theorem dX1_lentInItself_1 : decode cX1_lentInItself 1 = .ok (.getfield 30, 3) := by decide +kernel
theorem dX1_lentInItself_4 : decode cX1_lentInItself 4 = .ok (.ifCond .eq 11, 3) := by decide +kernel
theorem dX1_lentInItself_7 : decode cX1_lentInItself 7 = .ok (.aload_n 0, 1) := by decide +kernel
theorem dX1_lentInItself_8 : decode cX1_lentInItself 8 = .ok (.aload_n 1, 1) := by decide +kernel
theorem dX1_lentInItself_9 : decode cX1_lentInItself 9 = .ok (.invokevirtual 97, 3) := by decide +kernel
theorem dX1_lentInItself_12 : decode cX1_lentInItself 12 = .ok (.ifCond .eq 7, 3) := by decide +kernel
theorem dX1_lentInItself_15 : decode cX1_lentInItself 15 = .ok (.iconst 0, 1) := by decide +kernel
theorem dX1_lentInItself_16 : decode cX1_lentInItself 16 = .ok (.goto 15, 3) := by decide +kernel
theorem dX1_lentInItself_19 : decode cX1_lentInItself 19 = .ok (.aload_n 0, 1) := by decide +kernel
theorem dX1_lentInItself_20 : decode cX1_lentInItself 20 = .ok (.aload_n 1, 1) := by decide +kernel
theorem dX1_lentInItself_21 : decode cX1_lentInItself 21 = .ok (.getfield 101, 3) := by decide +kernel
theorem dX1_lentInItself_24 : decode cX1_lentInItself 24 = .ok (.aload_n 1, 1) := by decide +kernel
theorem dX1_lentInItself_25 : decode cX1_lentInItself 25 = .ok (.invokevirtual 104, 3) := by decide +kernel
theorem dX1_lentInItself_28 : decode cX1_lentInItself 28 = .ok (.invokevirtual 108, 3) := by decide +kernel
theorem dX1_lentInItself_31 : decode cX1_lentInItself 31 = .ok (.ireturn, 1) := by decide +kernel
theorem dX1_lowestFree_0 : decode cX1_lowestFree 0 = .ok (.aload_n 1, 1) := by decide +kernel
theorem dX1_lowestFree_1 : decode cX1_lowestFree 1 = .ok (.getfield 101, 3) := by decide +kernel
theorem dX1_lowestFree_4 : decode cX1_lowestFree 4 = .ok (.istore_n 2, 1) := by decide +kernel
theorem dX1_lowestFree_5 : decode cX1_lowestFree 5 = .ok (.iload_n 2, 1) := by decide +kernel
theorem dX1_lowestFree_6 : decode cX1_lowestFree 6 = .ok (.aload_n 1, 1) := by decide +kernel
theorem dX1_lowestFree_7 : decode cX1_lowestFree 7 = .ok (.invokevirtual 104, 3) := by decide +kernel
theorem dX1_lowestFree_10 : decode cX1_lowestFree 10 = .ok (.if_icmp .ge 27, 3) := by decide +kernel
theorem dX1_lowestFree_13 : decode cX1_lowestFree 13 = .ok (.iload_n 2, 1) := by decide +kernel
theorem dX1_lowestFree_14 : decode cX1_lowestFree 14 = .ok (.invokestatic 136, 3) := by decide +kernel
theorem dX1_lowestFree_17 : decode cX1_lowestFree 17 = .ok (.ifCond .eq 20, 3) := by decide +kernel
theorem dX1_lowestFree_20 : decode cX1_lowestFree 20 = .ok (.aload_n 0, 1) := by decide +kernel
theorem dX1_lowestFree_21 : decode cX1_lowestFree 21 = .ok (.getfield 26, 3) := by decide +kernel
theorem dX1_lowestFree_24 : decode cX1_lowestFree 24 = .ok (.iload_n 2, 1) := by decide +kernel
theorem dX1_lowestFree_25 : decode cX1_lowestFree 25 = .ok (.iaload, 1) := by decide +kernel
theorem dX1_lowestFree_26 : decode cX1_lowestFree 26 = .ok (.ifCond .ne 5, 3) := by decide +kernel
theorem dX1_lowestFree_29 : decode cX1_lowestFree 29 = .ok (.iload_n 2, 1) := by decide +kernel
theorem dX1_lowestFree_30 : decode cX1_lowestFree 30 = .ok (.ireturn, 1) := by decide +kernel
theorem dX1_lowestFree_31 : decode cX1_lowestFree 31 = .ok (.iinc 2 1, 3) := by decide +kernel
theorem dX1_lowestFree_34 : decode cX1_lowestFree 34 = .ok (.goto (-29), 3) := by decide +kernel
theorem dX1_lowestFree_37 : decode cX1_lowestFree 37 = .ok (.iconst (-1), 1) := by decide +kernel
theorem dX1_lowestFree_38 : decode cX1_lowestFree 38 = .ok (.ireturn, 1) := by decide +kernel
theorem dX1_layRow_0 : decode cX1_layRow 0 = .ok (.aload_n 0, 1) := by decide +kernel
theorem dX1_layRow_1 : decode cX1_layRow 1 = .ok (.getfield 39, 3) := by decide +kernel
theorem dX1_layRow_4 : decode cX1_layRow 4 = .ok (.ifCond .eq 4, 3) := by decide +kernel
theorem dX1_layRow_7 : decode cX1_layRow 7 = .ok (.return_, 1) := by decide +kernel
theorem dX1_layRow_8 : decode cX1_layRow 8 = .ok (.sipush 4096, 3) := by decide +kernel
theorem dX1_layRow_11 : decode cX1_layRow 11 = .ok (.istore_n 1, 1) := by decide +kernel
theorem dX1_layRow_12 : decode cX1_layRow 12 = .ok (.iload_n 1, 1) := by decide +kernel
theorem dX1_layRow_13 : decode cX1_layRow 13 = .ok (.iconst 1, 1) := by decide +kernel
theorem dX1_layRow_14 : decode cX1_layRow 14 = .ok (.if_icmp .lt 59, 3) := by decide +kernel
theorem dX1_layRow_17 : decode cX1_layRow 17 = .ok (.aload_n 0, 1) := by decide +kernel
theorem dX1_layRow_18 : decode cX1_layRow 18 = .ok (.getfield 18, 3) := by decide +kernel
theorem dX1_layRow_21 : decode cX1_layRow 21 = .ok (.astore_n 2, 1) := by decide +kernel
theorem dX1_layRow_22 : decode cX1_layRow 22 = .ok (.aload_n 2, 1) := by decide +kernel
theorem dX1_layRow_23 : decode cX1_layRow 23 = .ok (.arraylength, 1) := by decide +kernel
theorem dX1_layRow_24 : decode cX1_layRow 24 = .ok (.istore_n 3, 1) := by decide +kernel
theorem dX1_layRow_25 : decode cX1_layRow 25 = .ok (.iconst 0, 1) := by decide +kernel
theorem dX1_layRow_26 : decode cX1_layRow 26 = .ok (.istore 4, 2) := by decide +kernel
theorem dX1_layRow_28 : decode cX1_layRow 28 = .ok (.iload 4, 2) := by decide +kernel
theorem dX1_layRow_30 : decode cX1_layRow 30 = .ok (.iload_n 3, 1) := by decide +kernel
theorem dX1_layRow_31 : decode cX1_layRow 31 = .ok (.if_icmp .ge 35, 3) := by decide +kernel
theorem dX1_layRow_34 : decode cX1_layRow 34 = .ok (.aload_n 2, 1) := by decide +kernel
theorem dX1_layRow_35 : decode cX1_layRow 35 = .ok (.iload 4, 2) := by decide +kernel
theorem dX1_layRow_37 : decode cX1_layRow 37 = .ok (.aaload, 1) := by decide +kernel
theorem dX1_layRow_38 : decode cX1_layRow 38 = .ok (.astore 5, 2) := by decide +kernel
theorem dX1_layRow_40 : decode cX1_layRow 40 = .ok (.aload 5, 2) := by decide +kernel
theorem dX1_layRow_42 : decode cX1_layRow 42 = .ok (.ifnull 18, 3) := by decide +kernel
theorem dX1_layRow_45 : decode cX1_layRow 45 = .ok (.aload 5, 2) := by decide +kernel
theorem dX1_layRow_47 : decode cX1_layRow 47 = .ok (.getfield 114, 3) := by decide +kernel
theorem dX1_layRow_50 : decode cX1_layRow 50 = .ok (.iload_n 1, 1) := by decide +kernel
theorem dX1_layRow_51 : decode cX1_layRow 51 = .ok (.if_icmp .ne 9, 3) := by decide +kernel
theorem dX1_layRow_54 : decode cX1_layRow 54 = .ok (.aload_n 0, 1) := by decide +kernel
theorem dX1_layRow_55 : decode cX1_layRow 55 = .ok (.aload 5, 2) := by decide +kernel
theorem dX1_layRow_57 : decode cX1_layRow 57 = .ok (.invokevirtual 200, 3) := by decide +kernel
theorem dX1_layRow_60 : decode cX1_layRow 60 = .ok (.iinc 4 1, 3) := by decide +kernel
theorem dX1_layRow_63 : decode cX1_layRow 63 = .ok (.goto (-35), 3) := by decide +kernel
theorem dX1_layRow_66 : decode cX1_layRow 66 = .ok (.iload_n 1, 1) := by decide +kernel
theorem dX1_layRow_67 : decode cX1_layRow 67 = .ok (.iconst 2, 1) := by decide +kernel
theorem dX1_layRow_68 : decode cX1_layRow 68 = .ok (.idiv, 1) := by decide +kernel
theorem dX1_layRow_69 : decode cX1_layRow 69 = .ok (.istore_n 1, 1) := by decide +kernel
theorem dX1_layRow_70 : decode cX1_layRow 70 = .ok (.goto (-58), 3) := by decide +kernel
theorem dX1_layRow_73 : decode cX1_layRow 73 = .ok (.aload_n 0, 1) := by decide +kernel
theorem dX1_layRow_74 : decode cX1_layRow 74 = .ok (.iconst 1, 1) := by decide +kernel
theorem dX1_layRow_75 : decode cX1_layRow 75 = .ok (.putfield 39, 3) := by decide +kernel
theorem dX1_layRow_78 : decode cX1_layRow 78 = .ok (.return_, 1) := by decide +kernel
theorem dX1_laySpan_0 : decode cX1_laySpan 0 = .ok (.aload_n 1, 1) := by decide +kernel
theorem dX1_laySpan_1 : decode cX1_laySpan 1 = .ok (.getfield 101, 3) := by decide +kernel
theorem dX1_laySpan_4 : decode cX1_laySpan 4 = .ok (.istore_n 2, 1) := by decide +kernel
theorem dX1_laySpan_5 : decode cX1_laySpan 5 = .ok (.iload_n 2, 1) := by decide +kernel
theorem dX1_laySpan_6 : decode cX1_laySpan 6 = .ok (.aload_n 1, 1) := by decide +kernel
theorem dX1_laySpan_7 : decode cX1_laySpan 7 = .ok (.invokevirtual 104, 3) := by decide +kernel
theorem dX1_laySpan_10 : decode cX1_laySpan 10 = .ok (.if_icmp .ge 26, 3) := by decide +kernel
theorem dX1_laySpan_13 : decode cX1_laySpan 13 = .ok (.iload_n 2, 1) := by decide +kernel
theorem dX1_laySpan_14 : decode cX1_laySpan 14 = .ok (.invokestatic 136, 3) := by decide +kernel
theorem dX1_laySpan_17 : decode cX1_laySpan 17 = .ok (.ifCond .eq 19, 3) := by decide +kernel
theorem dX1_laySpan_20 : decode cX1_laySpan 20 = .ok (.aload_n 0, 1) := by decide +kernel
theorem dX1_laySpan_21 : decode cX1_laySpan 21 = .ok (.getfield 36, 3) := by decide +kernel
theorem dX1_laySpan_24 : decode cX1_laySpan 24 = .ok (.iload_n 2, 1) := by decide +kernel
theorem dX1_laySpan_25 : decode cX1_laySpan 25 = .ok (.aload_n 1, 1) := by decide +kernel
theorem dX1_laySpan_26 : decode cX1_laySpan 26 = .ok (.getfield 154, 3) := by decide +kernel
theorem dX1_laySpan_29 : decode cX1_laySpan 29 = .ok (.iastore, 1) := by decide +kernel
theorem dX1_laySpan_30 : decode cX1_laySpan 30 = .ok (.iinc 2 1, 3) := by decide +kernel
theorem dX1_laySpan_33 : decode cX1_laySpan 33 = .ok (.goto (-28), 3) := by decide +kernel
theorem dX1_laySpan_36 : decode cX1_laySpan 36 = .ok (.return_, 1) := by decide +kernel
end
section
theorem dJ9_min_7cf53_0 : decode cJ9_min_7cf53 0 = .ok (.iload_n 0, 1) := by decide +kernel
theorem dJ9_min_7cf53_1 : decode cJ9_min_7cf53 1 = .ok (.iload_n 1, 1) := by decide +kernel
theorem dJ9_min_7cf53_2 : decode cJ9_min_7cf53 2 = .ok (.if_icmp .gt 7, 3) := by decide +kernel
theorem dJ9_min_7cf53_5 : decode cJ9_min_7cf53 5 = .ok (.iload_n 0, 1) := by decide +kernel
theorem dJ9_min_7cf53_6 : decode cJ9_min_7cf53 6 = .ok (.goto 4, 3) := by decide +kernel
theorem dJ9_min_7cf53_9 : decode cJ9_min_7cf53 9 = .ok (.iload_n 1, 1) := by decide +kernel
theorem dJ9_min_7cf53_10 : decode cJ9_min_7cf53 10 = .ok (.ireturn, 1) := by decide +kernel
theorem dL_cell_0 : decode cL_cell 0 = .ok (.iload_n 1, 1) := by decide +kernel
theorem dL_cell_1 : decode cL_cell 1 = .ok (.aload_n 0, 1) := by decide +kernel
theorem dL_cell_2 : decode cL_cell 2 = .ok (.arraylength, 1) := by decide +kernel
theorem dL_cell_3 : decode cL_cell 3 = .ok (.if_icmp .ge 9, 3) := by decide +kernel
theorem dL_cell_6 : decode cL_cell 6 = .ok (.aload_n 0, 1) := by decide +kernel
theorem dL_cell_7 : decode cL_cell 7 = .ok (.iload_n 1, 1) := by decide +kernel
theorem dL_cell_8 : decode cL_cell 8 = .ok (.iaload, 1) := by decide +kernel
theorem dL_cell_9 : decode cL_cell 9 = .ok (.goto 18, 3) := by decide +kernel
theorem dL_cell_12 : decode cL_cell 12 = .ok (.sipush 7919, 3) := by decide +kernel
theorem dL_cell_15 : decode cL_cell 15 = .ok (.iload_n 1, 1) := by decide +kernel
theorem dL_cell_16 : decode cL_cell 16 = .ok (.sipush 653, 3) := by decide +kernel
theorem dL_cell_19 : decode cL_cell 19 = .ok (.iadd, 1) := by decide +kernel
theorem dL_cell_20 : decode cL_cell 20 = .ok (.imul, 1) := by decide +kernel
theorem dL_cell_21 : decode cL_cell 21 = .ok (.iload_n 1, 1) := by decide +kernel
theorem dL_cell_22 : decode cL_cell 22 = .ok (.sipush 1187, 3) := by decide +kernel
theorem dL_cell_25 : decode cL_cell 25 = .ok (.iadd, 1) := by decide +kernel
theorem dL_cell_26 : decode cL_cell 26 = .ok (.imul, 1) := by decide +kernel
theorem dL_cell_27 : decode cL_cell 27 = .ok (.ireturn, 1) := by decide +kernel
theorem dL_low_0 : decode cL_low 0 = .ok (.iload_n 0, 1) := by decide +kernel
theorem dL_low_1 : decode cL_low 1 = .ok (.ldc 7, 2) := by decide +kernel
theorem dL_low_3 : decode cL_low 3 = .ok (.iand, 1) := by decide +kernel
theorem dL_low_4 : decode cL_low 4 = .ok (.iload_n 1, 1) := by decide +kernel
theorem dL_low_5 : decode cL_low 5 = .ok (.irem, 1) := by decide +kernel
theorem dL_low_6 : decode cL_low 6 = .ok (.ireturn, 1) := by decide +kernel
theorem dL_carve_0 : decode cL_carve 0 = .ok (.aload_n 0, 1) := by decide +kernel
theorem dL_carve_1 : decode cL_carve 1 = .ok (.iload_n 1, 1) := by decide +kernel
theorem dL_carve_2 : decode cL_carve 2 = .ok (.iload_n 2, 1) := by decide +kernel
theorem dL_carve_3 : decode cL_carve 3 = .ok (.iload_n 3, 1) := by decide +kernel
theorem dL_carve_4 : decode cL_carve 4 = .ok (.iload 4, 2) := by decide +kernel
theorem dL_carve_6 : decode cL_carve 6 = .ok (.invokevirtual 8, 3) := by decide +kernel
theorem dL_carve_9 : decode cL_carve 9 = .ok (.ireturn, 1) := by decide +kernel
theorem dL_carve_10 : decode cL_carve 10 = .ok (.astore 5, 2) := by decide +kernel
theorem dL_carve_12 : decode cL_carve 12 = .ok (.ldc 16, 2) := by decide +kernel
theorem dL_carve_14 : decode cL_carve 14 = .ok (.ireturn, 1) := by decide +kernel
theorem dL_carve_15 : decode cL_carve 15 = .ok (.astore 5, 2) := by decide +kernel
theorem dL_carve_17 : decode cL_carve 17 = .ok (.ldc 16, 2) := by decide +kernel
theorem dL_carve_19 : decode cL_carve 19 = .ok (.ireturn, 1) := by decide +kernel
theorem dL_carve_20 : decode cL_carve 20 = .ok (.astore 5, 2) := by decide +kernel
theorem dL_carve_22 : decode cL_carve 22 = .ok (.ldc 16, 2) := by decide +kernel
theorem dL_carve_24 : decode cL_carve 24 = .ok (.ireturn, 1) := by decide +kernel
theorem dL_carveAt_0 : decode cL_carveAt 0 = .ok (.aload_n 0, 1) := by decide +kernel
theorem dL_carveAt_1 : decode cL_carveAt 1 = .ok (.iload_n 1, 1) := by decide +kernel
theorem dL_carveAt_2 : decode cL_carveAt 2 = .ok (.iload_n 2, 1) := by decide +kernel
theorem dL_carveAt_3 : decode cL_carveAt 3 = .ok (.iload_n 3, 1) := by decide +kernel
theorem dL_carveAt_4 : decode cL_carveAt 4 = .ok (.iload 4, 2) := by decide +kernel
theorem dL_carveAt_6 : decode cL_carveAt 6 = .ok (.invokevirtual 21, 3) := by decide +kernel
theorem dL_carveAt_9 : decode cL_carveAt 9 = .ok (.ireturn, 1) := by decide +kernel
theorem dL_carveAt_10 : decode cL_carveAt 10 = .ok (.astore 5, 2) := by decide +kernel
theorem dL_carveAt_12 : decode cL_carveAt 12 = .ok (.ldc 16, 2) := by decide +kernel
theorem dL_carveAt_14 : decode cL_carveAt 14 = .ok (.ireturn, 1) := by decide +kernel
theorem dL_carveAt_15 : decode cL_carveAt 15 = .ok (.astore 5, 2) := by decide +kernel
theorem dL_carveAt_17 : decode cL_carveAt 17 = .ok (.ldc 16, 2) := by decide +kernel
theorem dL_carveAt_19 : decode cL_carveAt 19 = .ok (.ireturn, 1) := by decide +kernel
theorem dL_carveAt_20 : decode cL_carveAt 20 = .ok (.astore 5, 2) := by decide +kernel
theorem dL_carveAt_22 : decode cL_carveAt 22 = .ok (.ldc 16, 2) := by decide +kernel
theorem dL_carveAt_24 : decode cL_carveAt 24 = .ok (.ireturn, 1) := by decide +kernel
theorem dL_remove_0 : decode cL_remove 0 = .ok (.aload_n 0, 1) := by decide +kernel
theorem dL_remove_1 : decode cL_remove 1 = .ok (.iload_n 1, 1) := by decide +kernel
theorem dL_remove_2 : decode cL_remove 2 = .ok (.invokevirtual 24, 3) := by decide +kernel
theorem dL_remove_5 : decode cL_remove 5 = .ok (.ireturn, 1) := by decide +kernel
theorem dL_remove_6 : decode cL_remove 6 = .ok (.astore_n 2, 1) := by decide +kernel
theorem dL_remove_7 : decode cL_remove 7 = .ok (.ldc 16, 2) := by decide +kernel
theorem dL_remove_9 : decode cL_remove 9 = .ok (.ireturn, 1) := by decide +kernel
theorem dL_remove_10 : decode cL_remove 10 = .ok (.astore_n 2, 1) := by decide +kernel
theorem dL_remove_11 : decode cL_remove 11 = .ok (.ldc 16, 2) := by decide +kernel
theorem dL_remove_13 : decode cL_remove 13 = .ok (.ireturn, 1) := by decide +kernel
theorem dL_grow_0 : decode cL_grow 0 = .ok (.aload_n 0, 1) := by decide +kernel
theorem dL_grow_1 : decode cL_grow 1 = .ok (.iload_n 1, 1) := by decide +kernel
theorem dL_grow_2 : decode cL_grow 2 = .ok (.invokevirtual 28, 3) := by decide +kernel
theorem dL_grow_5 : decode cL_grow 5 = .ok (.ireturn, 1) := by decide +kernel
theorem dL_grow_6 : decode cL_grow 6 = .ok (.astore_n 2, 1) := by decide +kernel
theorem dL_grow_7 : decode cL_grow 7 = .ok (.ldc 16, 2) := by decide +kernel
theorem dL_grow_9 : decode cL_grow 9 = .ok (.ireturn, 1) := by decide +kernel
theorem dL_grow_10 : decode cL_grow 10 = .ok (.astore_n 2, 1) := by decide +kernel
theorem dL_grow_11 : decode cL_grow 11 = .ok (.ldc 16, 2) := by decide +kernel
theorem dL_grow_13 : decode cL_grow 13 = .ok (.ireturn, 1) := by decide +kernel
theorem dL_halve_0 : decode cL_halve 0 = .ok (.aload_n 0, 1) := by decide +kernel
theorem dL_halve_1 : decode cL_halve 1 = .ok (.iload_n 1, 1) := by decide +kernel
theorem dL_halve_2 : decode cL_halve 2 = .ok (.invokevirtual 31, 3) := by decide +kernel
theorem dL_halve_5 : decode cL_halve 5 = .ok (.ireturn, 1) := by decide +kernel
theorem dL_halve_6 : decode cL_halve 6 = .ok (.astore_n 2, 1) := by decide +kernel
theorem dL_halve_7 : decode cL_halve 7 = .ok (.ldc 16, 2) := by decide +kernel
theorem dL_halve_9 : decode cL_halve 9 = .ok (.ireturn, 1) := by decide +kernel
theorem dL_halve_10 : decode cL_halve 10 = .ok (.astore_n 2, 1) := by decide +kernel
theorem dL_halve_11 : decode cL_halve 11 = .ok (.ldc 16, 2) := by decide +kernel
theorem dL_halve_13 : decode cL_halve 13 = .ok (.ireturn, 1) := by decide +kernel
theorem dL_setOwner_0 : decode cL_setOwner 0 = .ok (.aload_n 0, 1) := by decide +kernel
theorem dL_setOwner_1 : decode cL_setOwner 1 = .ok (.iload_n 1, 1) := by decide +kernel
theorem dL_setOwner_2 : decode cL_setOwner 2 = .ok (.iload_n 2, 1) := by decide +kernel
theorem dL_setOwner_3 : decode cL_setOwner 3 = .ok (.invokevirtual 34, 3) := by decide +kernel
theorem dL_setOwner_6 : decode cL_setOwner 6 = .ok (.ireturn, 1) := by decide +kernel
theorem dL_setOwner_7 : decode cL_setOwner 7 = .ok (.astore_n 3, 1) := by decide +kernel
theorem dL_setOwner_8 : decode cL_setOwner 8 = .ok (.ldc 16, 2) := by decide +kernel
theorem dL_setOwner_10 : decode cL_setOwner 10 = .ok (.ireturn, 1) := by decide +kernel
theorem dL_setOwner_11 : decode cL_setOwner 11 = .ok (.astore_n 3, 1) := by decide +kernel
theorem dL_setOwner_12 : decode cL_setOwner 12 = .ok (.ldc 16, 2) := by decide +kernel
theorem dL_setOwner_14 : decode cL_setOwner 14 = .ok (.ireturn, 1) := by decide +kernel
theorem dL_lend_0 : decode cL_lend 0 = .ok (.aload_n 0, 1) := by decide +kernel
theorem dL_lend_1 : decode cL_lend 1 = .ok (.iload_n 1, 1) := by decide +kernel
theorem dL_lend_2 : decode cL_lend 2 = .ok (.iload_n 2, 1) := by decide +kernel
theorem dL_lend_3 : decode cL_lend 3 = .ok (.invokevirtual 38, 3) := by decide +kernel
theorem dL_lend_6 : decode cL_lend 6 = .ok (.ireturn, 1) := by decide +kernel
theorem dL_lend_7 : decode cL_lend 7 = .ok (.astore_n 3, 1) := by decide +kernel
theorem dL_lend_8 : decode cL_lend 8 = .ok (.ldc 16, 2) := by decide +kernel
theorem dL_lend_10 : decode cL_lend 10 = .ok (.ireturn, 1) := by decide +kernel
theorem dL_lend_11 : decode cL_lend 11 = .ok (.astore_n 3, 1) := by decide +kernel
theorem dL_lend_12 : decode cL_lend 12 = .ok (.ldc 16, 2) := by decide +kernel
theorem dL_lend_14 : decode cL_lend 14 = .ok (.ireturn, 1) := by decide +kernel
theorem dL_lend_15 : decode cL_lend 15 = .ok (.astore_n 3, 1) := by decide +kernel
theorem dL_lend_16 : decode cL_lend 16 = .ok (.ldc 16, 2) := by decide +kernel
theorem dL_lend_18 : decode cL_lend 18 = .ok (.ireturn, 1) := by decide +kernel
theorem dL_takeBack_0 : decode cL_takeBack 0 = .ok (.aload_n 0, 1) := by decide +kernel
theorem dL_takeBack_1 : decode cL_takeBack 1 = .ok (.iload_n 1, 1) := by decide +kernel
theorem dL_takeBack_2 : decode cL_takeBack 2 = .ok (.invokevirtual 41, 3) := by decide +kernel
theorem dL_takeBack_5 : decode cL_takeBack 5 = .ok (.ireturn, 1) := by decide +kernel
theorem dL_takeBack_6 : decode cL_takeBack 6 = .ok (.astore_n 2, 1) := by decide +kernel
theorem dL_takeBack_7 : decode cL_takeBack 7 = .ok (.ldc 16, 2) := by decide +kernel
theorem dL_takeBack_9 : decode cL_takeBack 9 = .ok (.ireturn, 1) := by decide +kernel
theorem dL_takeBack_10 : decode cL_takeBack 10 = .ok (.astore_n 2, 1) := by decide +kernel
theorem dL_takeBack_11 : decode cL_takeBack 11 = .ok (.ldc 16, 2) := by decide +kernel
theorem dL_takeBack_13 : decode cL_takeBack 13 = .ok (.ireturn, 1) := by decide +kernel
theorem dL_pass_0 : decode cL_pass 0 = .ok (.aload_n 0, 1) := by decide +kernel
theorem dL_pass_1 : decode cL_pass 1 = .ok (.iload_n 1, 1) := by decide +kernel
theorem dL_pass_2 : decode cL_pass 2 = .ok (.invokevirtual 44, 3) := by decide +kernel
theorem dL_pass_5 : decode cL_pass 5 = .ok (.ireturn, 1) := by decide +kernel
theorem dL_pass_6 : decode cL_pass 6 = .ok (.astore_n 2, 1) := by decide +kernel
theorem dL_pass_7 : decode cL_pass 7 = .ok (.ldc 16, 2) := by decide +kernel
theorem dL_pass_9 : decode cL_pass 9 = .ok (.ireturn, 1) := by decide +kernel
theorem dL_pass_10 : decode cL_pass 10 = .ok (.astore_n 2, 1) := by decide +kernel
theorem dL_pass_11 : decode cL_pass 11 = .ok (.ldc 16, 2) := by decide +kernel
theorem dL_pass_13 : decode cL_pass 13 = .ok (.ireturn, 1) := by decide +kernel
theorem dL_act_0 : decode cL_act 0 = .ok (.iload_n 1, 1) := by decide +kernel
theorem dL_act_1 : decode cL_act 1 = .ok (.bipush 24, 2) := by decide +kernel
theorem dL_act_3 : decode cL_act 3 = .ok (.ishr, 1) := by decide +kernel
theorem dL_act_4 : decode cL_act 4 = .ok (.bipush 9, 2) := by decide +kernel
theorem dL_act_6 : decode cL_act 6 = .ok (.invokestatic 47, 3) := by decide +kernel
theorem dL_act_9 : decode cL_act 9 = .ok (.ifCond .ne 7, 3) := by decide +kernel
theorem dL_act_12 : decode cL_act 12 = .ok (.iconst 1, 1) := by decide +kernel
theorem dL_act_13 : decode cL_act 13 = .ok (.goto 4, 3) := by decide +kernel
theorem dL_act_16 : decode cL_act 16 = .ok (.iconst 0, 1) := by decide +kernel
theorem dL_act_17 : decode cL_act 17 = .ok (.istore_n 2, 1) := by decide +kernel
theorem dL_act_18 : decode cL_act 18 = .ok (.iload_n 1, 1) := by decide +kernel
theorem dL_act_19 : decode cL_act 19 = .ok (.iconst 4, 1) := by decide +kernel
theorem dL_act_20 : decode cL_act 20 = .ok (.ishr, 1) := by decide +kernel
theorem dL_act_21 : decode cL_act 21 = .ok (.iload_n 2, 1) := by decide +kernel
theorem dL_act_22 : decode cL_act 22 = .ok (.ifCond .eq 8, 3) := by decide +kernel
theorem dL_act_25 : decode cL_act 25 = .ok (.bipush 63, 2) := by decide +kernel
theorem dL_act_27 : decode cL_act 27 = .ok (.goto 5, 3) := by decide +kernel
theorem dL_act_30 : decode cL_act 30 = .ok (.bipush 14, 2) := by decide +kernel
theorem dL_act_32 : decode cL_act 32 = .ok (.invokestatic 47, 3) := by decide +kernel
theorem dL_act_35 : decode cL_act 35 = .ok (.iload_n 2, 1) := by decide +kernel
theorem dL_act_36 : decode cL_act 36 = .ok (.ifCond .eq 7, 3) := by decide +kernel
theorem dL_act_39 : decode cL_act 39 = .ok (.iconst 1, 1) := by decide +kernel
theorem dL_act_40 : decode cL_act 40 = .ok (.goto 4, 3) := by decide +kernel
theorem dL_act_43 : decode cL_act 43 = .ok (.iconst 0, 1) := by decide +kernel
theorem dL_act_44 : decode cL_act 44 = .ok (.isub, 1) := by decide +kernel
theorem dL_act_45 : decode cL_act 45 = .ok (.istore_n 3, 1) := by decide +kernel
theorem dL_act_46 : decode cL_act 46 = .ok (.iload_n 2, 1) := by decide +kernel
theorem dL_act_47 : decode cL_act 47 = .ok (.ifCond .eq 16, 3) := by decide +kernel
theorem dL_act_50 : decode cL_act 50 = .ok (.iload_n 1, 1) := by decide +kernel
theorem dL_act_51 : decode cL_act 51 = .ok (.bipush 10, 2) := by decide +kernel
theorem dL_act_53 : decode cL_act 53 = .ok (.ishr, 1) := by decide +kernel
theorem dL_act_54 : decode cL_act 54 = .ok (.sipush 4200, 3) := by decide +kernel
theorem dL_act_57 : decode cL_act 57 = .ok (.invokestatic 47, 3) := by decide +kernel
theorem dL_act_60 : decode cL_act 60 = .ok (.goto 14, 3) := by decide +kernel
theorem dL_act_63 : decode cL_act 63 = .ok (.iconst 1, 1) := by decide +kernel
theorem dL_act_64 : decode cL_act 64 = .ok (.iload_n 1, 1) := by decide +kernel
theorem dL_act_65 : decode cL_act 65 = .ok (.bipush 10, 2) := by decide +kernel
theorem dL_act_67 : decode cL_act 67 = .ok (.ishr, 1) := by decide +kernel
theorem dL_act_68 : decode cL_act 68 = .ok (.bipush 12, 2) := by decide +kernel
theorem dL_act_70 : decode cL_act 70 = .ok (.invokestatic 47, 3) := by decide +kernel
theorem dL_act_73 : decode cL_act 73 = .ok (.ishl, 1) := by decide +kernel
theorem dL_act_74 : decode cL_act 74 = .ok (.istore 4, 2) := by decide +kernel
theorem dL_act_76 : decode cL_act 76 = .ok (.iload_n 1, 1) := by decide +kernel
theorem dL_act_77 : decode cL_act 77 = .ok (.bipush 16, 2) := by decide +kernel
theorem dL_act_79 : decode cL_act 79 = .ok (.invokestatic 47, 3) := by decide +kernel
theorem dL_act_82 : decode cL_act 82 = .ok (.tableswitch 297 0 14 #[74, 74, 74, 74, 74, 125, 177, 183, 183, 189, 195, 228, 228, 228, 261], 74) := by decide +kernel
theorem dL_act_156 : decode cL_act 156 = .ok (.aload_n 0, 1) := by decide +kernel
theorem dL_act_157 : decode cL_act 157 = .ok (.iload_n 3, 1) := by decide +kernel
theorem dL_act_158 : decode cL_act 158 = .ok (.iload 4, 2) := by decide +kernel
theorem dL_act_160 : decode cL_act 160 = .ok (.iload_n 2, 1) := by decide +kernel
theorem dL_act_161 : decode cL_act 161 = .ok (.ifCond .eq 17, 3) := by decide +kernel
theorem dL_act_164 : decode cL_act 164 = .ok (.iload_n 1, 1) := by decide +kernel
theorem dL_act_165 : decode cL_act 165 = .ok (.bipush 14, 2) := by decide +kernel
theorem dL_act_167 : decode cL_act 167 = .ok (.ishr, 1) := by decide +kernel
theorem dL_act_168 : decode cL_act 168 = .ok (.bipush 10, 2) := by decide +kernel
theorem dL_act_170 : decode cL_act 170 = .ok (.invokestatic 47, 3) := by decide +kernel
theorem dL_act_173 : decode cL_act 173 = .ok (.iconst 1, 1) := by decide +kernel
theorem dL_act_174 : decode cL_act 174 = .ok (.isub, 1) := by decide +kernel
theorem dL_act_175 : decode cL_act 175 = .ok (.goto 12, 3) := by decide +kernel
theorem dL_act_178 : decode cL_act 178 = .ok (.iload_n 1, 1) := by decide +kernel
theorem dL_act_179 : decode cL_act 179 = .ok (.bipush 14, 2) := by decide +kernel
theorem dL_act_181 : decode cL_act 181 = .ok (.ishr, 1) := by decide +kernel
theorem dL_act_182 : decode cL_act 182 = .ok (.bipush 8, 2) := by decide +kernel
theorem dL_act_184 : decode cL_act 184 = .ok (.invokestatic 47, 3) := by decide +kernel
theorem dL_act_187 : decode cL_act 187 = .ok (.iload_n 1, 1) := by decide +kernel
theorem dL_act_188 : decode cL_act 188 = .ok (.bipush 17, 2) := by decide +kernel
theorem dL_act_190 : decode cL_act 190 = .ok (.ishr, 1) := by decide +kernel
theorem dL_act_191 : decode cL_act 191 = .ok (.iload_n 2, 1) := by decide +kernel
theorem dL_act_192 : decode cL_act 192 = .ok (.ifCond .eq 7, 3) := by decide +kernel
theorem dL_act_195 : decode cL_act 195 = .ok (.iconst 4, 1) := by decide +kernel
theorem dL_act_196 : decode cL_act 196 = .ok (.goto 4, 3) := by decide +kernel
theorem dL_act_199 : decode cL_act 199 = .ok (.iconst 3, 1) := by decide +kernel
theorem dL_act_200 : decode cL_act 200 = .ok (.invokestatic 47, 3) := by decide +kernel
theorem dL_act_203 : decode cL_act 203 = .ok (.invokestatic 52, 3) := by decide +kernel
theorem dL_act_206 : decode cL_act 206 = .ok (.ireturn, 1) := by decide +kernel
theorem dL_act_207 : decode cL_act 207 = .ok (.aload_n 0, 1) := by decide +kernel
theorem dL_act_208 : decode cL_act 208 = .ok (.iload_n 3, 1) := by decide +kernel
theorem dL_act_209 : decode cL_act 209 = .ok (.iload_n 2, 1) := by decide +kernel
theorem dL_act_210 : decode cL_act 210 = .ok (.ifCond .eq 19, 3) := by decide +kernel
theorem dL_act_213 : decode cL_act 213 = .ok (.iload_n 1, 1) := by decide +kernel
theorem dL_act_214 : decode cL_act 214 = .ok (.bipush 14, 2) := by decide +kernel
theorem dL_act_216 : decode cL_act 216 = .ok (.ishr, 1) := by decide +kernel
theorem dL_act_217 : decode cL_act 217 = .ok (.sipush 5000, 3) := by decide +kernel
theorem dL_act_220 : decode cL_act 220 = .ok (.invokestatic 47, 3) := by decide +kernel
theorem dL_act_223 : decode cL_act 223 = .ok (.bipush 50, 2) := by decide +kernel
theorem dL_act_225 : decode cL_act 225 = .ok (.isub, 1) := by decide +kernel
theorem dL_act_226 : decode cL_act 226 = .ok (.goto 19, 3) := by decide +kernel
theorem dL_act_229 : decode cL_act 229 = .ok (.iload 4, 2) := by decide +kernel
theorem dL_act_231 : decode cL_act 231 = .ok (.iload_n 1, 1) := by decide +kernel
theorem dL_act_232 : decode cL_act 232 = .ok (.bipush 14, 2) := by decide +kernel
theorem dL_act_234 : decode cL_act 234 = .ok (.ishr, 1) := by decide +kernel
theorem dL_act_235 : decode cL_act 235 = .ok (.sipush 4096, 3) := by decide +kernel
theorem dL_act_238 : decode cL_act 238 = .ok (.iload 4, 2) := by decide +kernel
theorem dL_act_240 : decode cL_act 240 = .ok (.idiv, 1) := by decide +kernel
theorem dL_act_241 : decode cL_act 241 = .ok (.invokestatic 47, 3) := by decide +kernel
theorem dL_act_244 : decode cL_act 244 = .ok (.imul, 1) := by decide +kernel
theorem dL_act_245 : decode cL_act 245 = .ok (.iload 4, 2) := by decide +kernel
theorem dL_act_247 : decode cL_act 247 = .ok (.iload_n 1, 1) := by decide +kernel
theorem dL_act_248 : decode cL_act 248 = .ok (.iconst 4, 1) := by decide +kernel
theorem dL_act_249 : decode cL_act 249 = .ok (.ishr, 1) := by decide +kernel
theorem dL_act_250 : decode cL_act 250 = .ok (.bipush 8, 2) := by decide +kernel
theorem dL_act_252 : decode cL_act 252 = .ok (.invokestatic 47, 3) := by decide +kernel
theorem dL_act_255 : decode cL_act 255 = .ok (.invokestatic 55, 3) := by decide +kernel
theorem dL_act_258 : decode cL_act 258 = .ok (.ireturn, 1) := by decide +kernel
theorem dL_act_259 : decode cL_act 259 = .ok (.aload_n 0, 1) := by decide +kernel
theorem dL_act_260 : decode cL_act 260 = .ok (.iload_n 3, 1) := by decide +kernel
theorem dL_act_261 : decode cL_act 261 = .ok (.invokestatic 57, 3) := by decide +kernel
theorem dL_act_264 : decode cL_act 264 = .ok (.ireturn, 1) := by decide +kernel
theorem dL_act_265 : decode cL_act 265 = .ok (.aload_n 0, 1) := by decide +kernel
theorem dL_act_266 : decode cL_act 266 = .ok (.iload_n 3, 1) := by decide +kernel
theorem dL_act_267 : decode cL_act 267 = .ok (.invokestatic 60, 3) := by decide +kernel
theorem dL_act_270 : decode cL_act 270 = .ok (.ireturn, 1) := by decide +kernel
theorem dL_act_271 : decode cL_act 271 = .ok (.aload_n 0, 1) := by decide +kernel
theorem dL_act_272 : decode cL_act 272 = .ok (.iload_n 3, 1) := by decide +kernel
theorem dL_act_273 : decode cL_act 273 = .ok (.invokestatic 62, 3) := by decide +kernel
theorem dL_act_276 : decode cL_act 276 = .ok (.ireturn, 1) := by decide +kernel
theorem dL_act_277 : decode cL_act 277 = .ok (.aload_n 0, 1) := by decide +kernel
theorem dL_act_278 : decode cL_act 278 = .ok (.iload_n 3, 1) := by decide +kernel
theorem dL_act_279 : decode cL_act 279 = .ok (.iload_n 2, 1) := by decide +kernel
theorem dL_act_280 : decode cL_act 280 = .ok (.ifCond .eq 17, 3) := by decide +kernel
theorem dL_act_283 : decode cL_act 283 = .ok (.iload_n 1, 1) := by decide +kernel
theorem dL_act_284 : decode cL_act 284 = .ok (.bipush 14, 2) := by decide +kernel
theorem dL_act_286 : decode cL_act 286 = .ok (.ishr, 1) := by decide +kernel
theorem dL_act_287 : decode cL_act 287 = .ok (.bipush 10, 2) := by decide +kernel
theorem dL_act_289 : decode cL_act 289 = .ok (.invokestatic 47, 3) := by decide +kernel
theorem dL_act_292 : decode cL_act 292 = .ok (.iconst 1, 1) := by decide +kernel
theorem dL_act_293 : decode cL_act 293 = .ok (.isub, 1) := by decide +kernel
theorem dL_act_294 : decode cL_act 294 = .ok (.goto 12, 3) := by decide +kernel
theorem dL_act_297 : decode cL_act 297 = .ok (.iload_n 1, 1) := by decide +kernel
theorem dL_act_298 : decode cL_act 298 = .ok (.bipush 14, 2) := by decide +kernel
theorem dL_act_300 : decode cL_act 300 = .ok (.ishr, 1) := by decide +kernel
theorem dL_act_301 : decode cL_act 301 = .ok (.bipush 8, 2) := by decide +kernel
theorem dL_act_303 : decode cL_act 303 = .ok (.invokestatic 47, 3) := by decide +kernel
theorem dL_act_306 : decode cL_act 306 = .ok (.invokestatic 64, 3) := by decide +kernel
theorem dL_act_309 : decode cL_act 309 = .ok (.ireturn, 1) := by decide +kernel
theorem dL_act_310 : decode cL_act 310 = .ok (.aload_n 0, 1) := by decide +kernel
theorem dL_act_311 : decode cL_act 311 = .ok (.iload_n 3, 1) := by decide +kernel
theorem dL_act_312 : decode cL_act 312 = .ok (.iload_n 2, 1) := by decide +kernel
theorem dL_act_313 : decode cL_act 313 = .ok (.ifCond .eq 17, 3) := by decide +kernel
theorem dL_act_316 : decode cL_act 316 = .ok (.iload_n 1, 1) := by decide +kernel
theorem dL_act_317 : decode cL_act 317 = .ok (.bipush 14, 2) := by decide +kernel
theorem dL_act_319 : decode cL_act 319 = .ok (.ishr, 1) := by decide +kernel
theorem dL_act_320 : decode cL_act 320 = .ok (.bipush 105, 2) := by decide +kernel
theorem dL_act_322 : decode cL_act 322 = .ok (.invokestatic 47, 3) := by decide +kernel
theorem dL_act_325 : decode cL_act 325 = .ok (.iconst 2, 1) := by decide +kernel
theorem dL_act_326 : decode cL_act 326 = .ok (.isub, 1) := by decide +kernel
theorem dL_act_327 : decode cL_act 327 = .ok (.goto 12, 3) := by decide +kernel
theorem dL_act_330 : decode cL_act 330 = .ok (.iload_n 1, 1) := by decide +kernel
theorem dL_act_331 : decode cL_act 331 = .ok (.bipush 14, 2) := by decide +kernel
theorem dL_act_333 : decode cL_act 333 = .ok (.ishr, 1) := by decide +kernel
theorem dL_act_334 : decode cL_act 334 = .ok (.bipush 6, 2) := by decide +kernel
theorem dL_act_336 : decode cL_act 336 = .ok (.invokestatic 47, 3) := by decide +kernel
theorem dL_act_339 : decode cL_act 339 = .ok (.invokestatic 67, 3) := by decide +kernel
theorem dL_act_342 : decode cL_act 342 = .ok (.ireturn, 1) := by decide +kernel
theorem dL_act_343 : decode cL_act 343 = .ok (.aload_n 0, 1) := by decide +kernel
theorem dL_act_344 : decode cL_act 344 = .ok (.iload_n 2, 1) := by decide +kernel
theorem dL_act_345 : decode cL_act 345 = .ok (.ifCond .eq 18, 3) := by decide +kernel
theorem dL_act_348 : decode cL_act 348 = .ok (.iload_n 1, 1) := by decide +kernel
theorem dL_act_349 : decode cL_act 349 = .ok (.bipush 10, 2) := by decide +kernel
theorem dL_act_351 : decode cL_act 351 = .ok (.ishr, 1) := by decide +kernel
theorem dL_act_352 : decode cL_act 352 = .ok (.sipush 4100, 3) := by decide +kernel
theorem dL_act_355 : decode cL_act 355 = .ok (.invokestatic 47, 3) := by decide +kernel
theorem dL_act_358 : decode cL_act 358 = .ok (.iconst 2, 1) := by decide +kernel
theorem dL_act_359 : decode cL_act 359 = .ok (.isub, 1) := by decide +kernel
theorem dL_act_360 : decode cL_act 360 = .ok (.goto 15, 3) := by decide +kernel
theorem dL_act_363 : decode cL_act 363 = .ok (.iload_n 1, 1) := by decide +kernel
theorem dL_act_364 : decode cL_act 364 = .ok (.bipush 10, 2) := by decide +kernel
theorem dL_act_366 : decode cL_act 366 = .ok (.ishr, 1) := by decide +kernel
theorem dL_act_367 : decode cL_act 367 = .ok (.bipush 64, 2) := by decide +kernel
theorem dL_act_369 : decode cL_act 369 = .ok (.invokestatic 47, 3) := by decide +kernel
theorem dL_act_372 : decode cL_act 372 = .ok (.bipush 64, 2) := by decide +kernel
theorem dL_act_374 : decode cL_act 374 = .ok (.imul, 1) := by decide +kernel
theorem dL_act_375 : decode cL_act 375 = .ok (.invokestatic 69, 3) := by decide +kernel
theorem dL_act_378 : decode cL_act 378 = .ok (.ireturn, 1) := by decide +kernel
theorem dL_act_379 : decode cL_act 379 = .ok (.aload_n 0, 1) := by decide +kernel
theorem dL_act_380 : decode cL_act 380 = .ok (.iload_n 2, 1) := by decide +kernel
theorem dL_act_381 : decode cL_act 381 = .ok (.ifCond .eq 16, 3) := by decide +kernel
theorem dL_act_384 : decode cL_act 384 = .ok (.iload_n 1, 1) := by decide +kernel
theorem dL_act_385 : decode cL_act 385 = .ok (.bipush 10, 2) := by decide +kernel
theorem dL_act_387 : decode cL_act 387 = .ok (.ishr, 1) := by decide +kernel
theorem dL_act_388 : decode cL_act 388 = .ok (.sipush 1005, 3) := by decide +kernel
theorem dL_act_391 : decode cL_act 391 = .ok (.invokestatic 47, 3) := by decide +kernel
theorem dL_act_394 : decode cL_act 394 = .ok (.goto 13, 3) := by decide +kernel
theorem dL_act_397 : decode cL_act 397 = .ok (.iconst 1, 1) := by decide +kernel
theorem dL_act_398 : decode cL_act 398 = .ok (.iload_n 1, 1) := by decide +kernel
theorem dL_act_399 : decode cL_act 399 = .ok (.bipush 10, 2) := by decide +kernel
theorem dL_act_401 : decode cL_act 401 = .ok (.ishr, 1) := by decide +kernel
theorem dL_act_402 : decode cL_act 402 = .ok (.iconst 3, 1) := by decide +kernel
theorem dL_act_403 : decode cL_act 403 = .ok (.invokestatic 47, 3) := by decide +kernel
theorem dL_act_406 : decode cL_act 406 = .ok (.iadd, 1) := by decide +kernel
theorem dL_act_407 : decode cL_act 407 = .ok (.invokestatic 71, 3) := by decide +kernel
theorem dL_act_410 : decode cL_act 410 = .ok (.ireturn, 1) := by decide +kernel
theorem dL_areAlike_0 : decode cL_areAlike 0 = .ok (.aload_n 0, 1) := by decide +kernel
theorem dL_areAlike_1 : decode cL_areAlike 1 = .ok (.invokevirtual 73, 3) := by decide +kernel
theorem dL_areAlike_4 : decode cL_areAlike 4 = .ok (.aload_n 1, 1) := by decide +kernel
theorem dL_areAlike_5 : decode cL_areAlike 5 = .ok (.invokevirtual 73, 3) := by decide +kernel
theorem dL_areAlike_8 : decode cL_areAlike 8 = .ok (.if_icmp .ne 29, 3) := by decide +kernel
theorem dL_areAlike_11 : decode cL_areAlike 11 = .ok (.aload_n 0, 1) := by decide +kernel
theorem dL_areAlike_12 : decode cL_areAlike 12 = .ok (.invokevirtual 77, 3) := by decide +kernel
theorem dL_areAlike_15 : decode cL_areAlike 15 = .ok (.aload_n 1, 1) := by decide +kernel
theorem dL_areAlike_16 : decode cL_areAlike 16 = .ok (.invokevirtual 77, 3) := by decide +kernel
theorem dL_areAlike_19 : decode cL_areAlike 19 = .ok (.if_icmp .ne 18, 3) := by decide +kernel
theorem dL_areAlike_22 : decode cL_areAlike 22 = .ok (.aload_n 0, 1) := by decide +kernel
theorem dL_areAlike_23 : decode cL_areAlike 23 = .ok (.invokevirtual 80, 3) := by decide +kernel
theorem dL_areAlike_26 : decode cL_areAlike 26 = .ok (.aload_n 1, 1) := by decide +kernel
theorem dL_areAlike_27 : decode cL_areAlike 27 = .ok (.invokevirtual 80, 3) := by decide +kernel
theorem dL_areAlike_30 : decode cL_areAlike 30 = .ok (.if_icmp .ne 7, 3) := by decide +kernel
theorem dL_areAlike_33 : decode cL_areAlike 33 = .ok (.iconst 1, 1) := by decide +kernel
theorem dL_areAlike_34 : decode cL_areAlike 34 = .ok (.goto 4, 3) := by decide +kernel
theorem dL_areAlike_37 : decode cL_areAlike 37 = .ok (.iconst 0, 1) := by decide +kernel
theorem dL_areAlike_38 : decode cL_areAlike 38 = .ok (.istore_n 2, 1) := by decide +kernel
theorem dL_areAlike_39 : decode cL_areAlike 39 = .ok (.iconst 0, 1) := by decide +kernel
theorem dL_areAlike_40 : decode cL_areAlike 40 = .ok (.istore_n 3, 1) := by decide +kernel
theorem dL_areAlike_41 : decode cL_areAlike 41 = .ok (.iload_n 3, 1) := by decide +kernel
theorem dL_areAlike_42 : decode cL_areAlike 42 = .ok (.bipush 60, 2) := by decide +kernel
theorem dL_areAlike_44 : decode cL_areAlike 44 = .ok (.if_icmp .ge 79, 3) := by decide +kernel
theorem dL_areAlike_47 : decode cL_areAlike 47 = .ok (.iload_n 2, 1) := by decide +kernel
theorem dL_areAlike_48 : decode cL_areAlike 48 = .ok (.ifCond .eq 75, 3) := by decide +kernel
theorem dL_areAlike_51 : decode cL_areAlike 51 = .ok (.aload_n 0, 1) := by decide +kernel
theorem dL_areAlike_52 : decode cL_areAlike 52 = .ok (.iload_n 3, 1) := by decide +kernel
theorem dL_areAlike_53 : decode cL_areAlike 53 = .ok (.invokevirtual 83, 3) := by decide +kernel
theorem dL_areAlike_56 : decode cL_areAlike 56 = .ok (.aload_n 1, 1) := by decide +kernel
theorem dL_areAlike_57 : decode cL_areAlike 57 = .ok (.iload_n 3, 1) := by decide +kernel
theorem dL_areAlike_58 : decode cL_areAlike 58 = .ok (.invokevirtual 83, 3) := by decide +kernel
theorem dL_areAlike_61 : decode cL_areAlike 61 = .ok (.if_icmp .ne 54, 3) := by decide +kernel
theorem dL_areAlike_64 : decode cL_areAlike 64 = .ok (.aload_n 0, 1) := by decide +kernel
theorem dL_areAlike_65 : decode cL_areAlike 65 = .ok (.iload_n 3, 1) := by decide +kernel
theorem dL_areAlike_66 : decode cL_areAlike 66 = .ok (.invokevirtual 83, 3) := by decide +kernel
theorem dL_areAlike_69 : decode cL_areAlike 69 = .ok (.ifCond .eq 42, 3) := by decide +kernel
theorem dL_areAlike_72 : decode cL_areAlike 72 = .ok (.aload_n 0, 1) := by decide +kernel
theorem dL_areAlike_73 : decode cL_areAlike 73 = .ok (.iload_n 3, 1) := by decide +kernel
theorem dL_areAlike_74 : decode cL_areAlike 74 = .ok (.invokevirtual 87, 3) := by decide +kernel
theorem dL_areAlike_77 : decode cL_areAlike 77 = .ok (.aload_n 1, 1) := by decide +kernel
theorem dL_areAlike_78 : decode cL_areAlike 78 = .ok (.iload_n 3, 1) := by decide +kernel
theorem dL_areAlike_79 : decode cL_areAlike 79 = .ok (.invokevirtual 87, 3) := by decide +kernel
theorem dL_areAlike_82 : decode cL_areAlike 82 = .ok (.if_icmp .ne 33, 3) := by decide +kernel
theorem dL_areAlike_85 : decode cL_areAlike 85 = .ok (.aload_n 0, 1) := by decide +kernel
theorem dL_areAlike_86 : decode cL_areAlike 86 = .ok (.iload_n 3, 1) := by decide +kernel
theorem dL_areAlike_87 : decode cL_areAlike 87 = .ok (.invokevirtual 90, 3) := by decide +kernel
theorem dL_areAlike_90 : decode cL_areAlike 90 = .ok (.aload_n 1, 1) := by decide +kernel
theorem dL_areAlike_91 : decode cL_areAlike 91 = .ok (.iload_n 3, 1) := by decide +kernel
theorem dL_areAlike_92 : decode cL_areAlike 92 = .ok (.invokevirtual 90, 3) := by decide +kernel
theorem dL_areAlike_95 : decode cL_areAlike 95 = .ok (.if_icmp .ne 20, 3) := by decide +kernel
theorem dL_areAlike_98 : decode cL_areAlike 98 = .ok (.aload_n 0, 1) := by decide +kernel
theorem dL_areAlike_99 : decode cL_areAlike 99 = .ok (.iload_n 3, 1) := by decide +kernel
theorem dL_areAlike_100 : decode cL_areAlike 100 = .ok (.invokevirtual 93, 3) := by decide +kernel
theorem dL_areAlike_103 : decode cL_areAlike 103 = .ok (.aload_n 1, 1) := by decide +kernel
theorem dL_areAlike_104 : decode cL_areAlike 104 = .ok (.iload_n 3, 1) := by decide +kernel
theorem dL_areAlike_105 : decode cL_areAlike 105 = .ok (.invokevirtual 93, 3) := by decide +kernel
theorem dL_areAlike_108 : decode cL_areAlike 108 = .ok (.if_icmp .ne 7, 3) := by decide +kernel
theorem dL_areAlike_111 : decode cL_areAlike 111 = .ok (.iconst 1, 1) := by decide +kernel
theorem dL_areAlike_112 : decode cL_areAlike 112 = .ok (.goto 4, 3) := by decide +kernel
theorem dL_areAlike_115 : decode cL_areAlike 115 = .ok (.iconst 0, 1) := by decide +kernel
theorem dL_areAlike_116 : decode cL_areAlike 116 = .ok (.istore_n 2, 1) := by decide +kernel
theorem dL_areAlike_117 : decode cL_areAlike 117 = .ok (.iinc 3 1, 3) := by decide +kernel
theorem dL_areAlike_120 : decode cL_areAlike 120 = .ok (.goto (-79), 3) := by decide +kernel
theorem dL_areAlike_123 : decode cL_areAlike 123 = .ok (.iload_n 2, 1) := by decide +kernel
theorem dL_areAlike_124 : decode cL_areAlike 124 = .ok (.ireturn, 1) := by decide +kernel
theorem dL_areSpansSo_0 : decode cL_areSpansSo 0 = .ok (.iconst 0, 1) := by decide +kernel
theorem dL_areSpansSo_1 : decode cL_areSpansSo 1 = .ok (.istore_n 1, 1) := by decide +kernel
theorem dL_areSpansSo_2 : decode cL_areSpansSo 2 = .ok (.iconst 0, 1) := by decide +kernel
theorem dL_areSpansSo_3 : decode cL_areSpansSo 3 = .ok (.istore_n 2, 1) := by decide +kernel
theorem dL_areSpansSo_4 : decode cL_areSpansSo 4 = .ok (.iconst 0, 1) := by decide +kernel
theorem dL_areSpansSo_5 : decode cL_areSpansSo 5 = .ok (.istore_n 3, 1) := by decide +kernel
theorem dL_areSpansSo_6 : decode cL_areSpansSo 6 = .ok (.iload_n 3, 1) := by decide +kernel
theorem dL_areSpansSo_7 : decode cL_areSpansSo 7 = .ok (.bipush 60, 2) := by decide +kernel
theorem dL_areSpansSo_9 : decode cL_areSpansSo 9 = .ok (.if_icmp .ge 159, 3) := by decide +kernel
theorem dL_areSpansSo_12 : decode cL_areSpansSo 12 = .ok (.aload_n 0, 1) := by decide +kernel
theorem dL_areSpansSo_13 : decode cL_areSpansSo 13 = .ok (.iload_n 3, 1) := by decide +kernel
theorem dL_areSpansSo_14 : decode cL_areSpansSo 14 = .ok (.invokevirtual 83, 3) := by decide +kernel
theorem dL_areSpansSo_17 : decode cL_areSpansSo 17 = .ok (.ifCond .eq 145, 3) := by decide +kernel
theorem dL_areSpansSo_20 : decode cL_areSpansSo 20 = .ok (.aload_n 0, 1) := by decide +kernel
theorem dL_areSpansSo_21 : decode cL_areSpansSo 21 = .ok (.iload_n 3, 1) := by decide +kernel
theorem dL_areSpansSo_22 : decode cL_areSpansSo 22 = .ok (.invokevirtual 87, 3) := by decide +kernel
theorem dL_areSpansSo_25 : decode cL_areSpansSo 25 = .ok (.istore 4, 2) := by decide +kernel
theorem dL_areSpansSo_27 : decode cL_areSpansSo 27 = .ok (.aload_n 0, 1) := by decide +kernel
theorem dL_areSpansSo_28 : decode cL_areSpansSo 28 = .ok (.iload_n 3, 1) := by decide +kernel
theorem dL_areSpansSo_29 : decode cL_areSpansSo 29 = .ok (.invokevirtual 90, 3) := by decide +kernel
theorem dL_areSpansSo_32 : decode cL_areSpansSo 32 = .ok (.istore 5, 2) := by decide +kernel
theorem dL_areSpansSo_34 : decode cL_areSpansSo 34 = .ok (.aload_n 0, 1) := by decide +kernel
theorem dL_areSpansSo_35 : decode cL_areSpansSo 35 = .ok (.iload_n 3, 1) := by decide +kernel
theorem dL_areSpansSo_36 : decode cL_areSpansSo 36 = .ok (.invokevirtual 96, 3) := by decide +kernel
theorem dL_areSpansSo_39 : decode cL_areSpansSo 39 = .ok (.istore 6, 2) := by decide +kernel
theorem dL_areSpansSo_41 : decode cL_areSpansSo 41 = .ok (.iload 6, 2) := by decide +kernel
theorem dL_areSpansSo_43 : decode cL_areSpansSo 43 = .ok (.ifCond .lt 59, 3) := by decide +kernel
theorem dL_areSpansSo_46 : decode cL_areSpansSo 46 = .ok (.aload_n 0, 1) := by decide +kernel
theorem dL_areSpansSo_47 : decode cL_areSpansSo 47 = .ok (.iload 6, 2) := by decide +kernel
theorem dL_areSpansSo_49 : decode cL_areSpansSo 49 = .ok (.invokevirtual 83, 3) := by decide +kernel
theorem dL_areSpansSo_52 : decode cL_areSpansSo 52 = .ok (.ifCond .eq 50, 3) := by decide +kernel
theorem dL_areSpansSo_55 : decode cL_areSpansSo 55 = .ok (.iload 5, 2) := by decide +kernel
theorem dL_areSpansSo_57 : decode cL_areSpansSo 57 = .ok (.aload_n 0, 1) := by decide +kernel
theorem dL_areSpansSo_58 : decode cL_areSpansSo 58 = .ok (.iload 6, 2) := by decide +kernel
theorem dL_areSpansSo_60 : decode cL_areSpansSo 60 = .ok (.invokevirtual 90, 3) := by decide +kernel
theorem dL_areSpansSo_63 : decode cL_areSpansSo 63 = .ok (.if_icmp .gt 39, 3) := by decide +kernel
theorem dL_areSpansSo_66 : decode cL_areSpansSo 66 = .ok (.iload 4, 2) := by decide +kernel
theorem dL_areSpansSo_68 : decode cL_areSpansSo 68 = .ok (.aload_n 0, 1) := by decide +kernel
theorem dL_areSpansSo_69 : decode cL_areSpansSo 69 = .ok (.iload 6, 2) := by decide +kernel
theorem dL_areSpansSo_71 : decode cL_areSpansSo 71 = .ok (.invokevirtual 87, 3) := by decide +kernel
theorem dL_areSpansSo_74 : decode cL_areSpansSo 74 = .ok (.if_icmp .lt 28, 3) := by decide +kernel
theorem dL_areSpansSo_77 : decode cL_areSpansSo 77 = .ok (.iload 4, 2) := by decide +kernel
theorem dL_areSpansSo_79 : decode cL_areSpansSo 79 = .ok (.iload 5, 2) := by decide +kernel
theorem dL_areSpansSo_81 : decode cL_areSpansSo 81 = .ok (.iadd, 1) := by decide +kernel
theorem dL_areSpansSo_82 : decode cL_areSpansSo 82 = .ok (.aload_n 0, 1) := by decide +kernel
theorem dL_areSpansSo_83 : decode cL_areSpansSo 83 = .ok (.iload 6, 2) := by decide +kernel
theorem dL_areSpansSo_85 : decode cL_areSpansSo 85 = .ok (.invokevirtual 87, 3) := by decide +kernel
theorem dL_areSpansSo_88 : decode cL_areSpansSo 88 = .ok (.aload_n 0, 1) := by decide +kernel
theorem dL_areSpansSo_89 : decode cL_areSpansSo 89 = .ok (.iload 6, 2) := by decide +kernel
theorem dL_areSpansSo_91 : decode cL_areSpansSo 91 = .ok (.invokevirtual 90, 3) := by decide +kernel
theorem dL_areSpansSo_94 : decode cL_areSpansSo 94 = .ok (.iadd, 1) := by decide +kernel
theorem dL_areSpansSo_95 : decode cL_areSpansSo 95 = .ok (.if_icmp .gt 7, 3) := by decide +kernel
theorem dL_areSpansSo_98 : decode cL_areSpansSo 98 = .ok (.iconst 1, 1) := by decide +kernel
theorem dL_areSpansSo_99 : decode cL_areSpansSo 99 = .ok (.goto 4, 3) := by decide +kernel
theorem dL_areSpansSo_102 : decode cL_areSpansSo 102 = .ok (.iconst 0, 1) := by decide +kernel
theorem dL_areSpansSo_103 : decode cL_areSpansSo 103 = .ok (.istore 7, 2) := by decide +kernel
theorem dL_areSpansSo_105 : decode cL_areSpansSo 105 = .ok (.iinc 1 1, 3) := by decide +kernel
theorem dL_areSpansSo_108 : decode cL_areSpansSo 108 = .ok (.iload_n 2, 1) := by decide +kernel
theorem dL_areSpansSo_109 : decode cL_areSpansSo 109 = .ok (.aload_n 0, 1) := by decide +kernel
theorem dL_areSpansSo_110 : decode cL_areSpansSo 110 = .ok (.iload_n 3, 1) := by decide +kernel
theorem dL_areSpansSo_111 : decode cL_areSpansSo 111 = .ok (.invokevirtual 93, 3) := by decide +kernel
theorem dL_areSpansSo_114 : decode cL_areSpansSo 114 = .ok (.iadd, 1) := by decide +kernel
theorem dL_areSpansSo_115 : decode cL_areSpansSo 115 = .ok (.istore_n 2, 1) := by decide +kernel
theorem dL_areSpansSo_116 : decode cL_areSpansSo 116 = .ok (.iload 4, 2) := by decide +kernel
theorem dL_areSpansSo_118 : decode cL_areSpansSo 118 = .ok (.iload 5, 2) := by decide +kernel
theorem dL_areSpansSo_120 : decode cL_areSpansSo 120 = .ok (.irem, 1) := by decide +kernel
theorem dL_areSpansSo_121 : decode cL_areSpansSo 121 = .ok (.ifCond .ne 39, 3) := by decide +kernel
theorem dL_areSpansSo_124 : decode cL_areSpansSo 124 = .ok (.iload 5, 2) := by decide +kernel
theorem dL_areSpansSo_126 : decode cL_areSpansSo 126 = .ok (.iload 5, 2) := by decide +kernel
theorem dL_areSpansSo_128 : decode cL_areSpansSo 128 = .ok (.iconst 1, 1) := by decide +kernel
theorem dL_areSpansSo_129 : decode cL_areSpansSo 129 = .ok (.isub, 1) := by decide +kernel
theorem dL_areSpansSo_130 : decode cL_areSpansSo 130 = .ok (.iand, 1) := by decide +kernel
theorem dL_areSpansSo_131 : decode cL_areSpansSo 131 = .ok (.ifCond .ne 29, 3) := by decide +kernel
theorem dL_areSpansSo_134 : decode cL_areSpansSo 134 = .ok (.iload_n 3, 1) := by decide +kernel
theorem dL_areSpansSo_135 : decode cL_areSpansSo 135 = .ok (.ifCond .ne 20, 3) := by decide +kernel
theorem dL_areSpansSo_138 : decode cL_areSpansSo 138 = .ok (.iload 6, 2) := by decide +kernel
theorem dL_areSpansSo_140 : decode cL_areSpansSo 140 = .ok (.iconst (-1), 1) := by decide +kernel
theorem dL_areSpansSo_141 : decode cL_areSpansSo 141 = .ok (.if_icmp .ne 19, 3) := by decide +kernel
theorem dL_areSpansSo_144 : decode cL_areSpansSo 144 = .ok (.iload 5, 2) := by decide +kernel
theorem dL_areSpansSo_146 : decode cL_areSpansSo 146 = .ok (.sipush 4096, 3) := by decide +kernel
theorem dL_areSpansSo_149 : decode cL_areSpansSo 149 = .ok (.if_icmp .eq 13, 3) := by decide +kernel
theorem dL_areSpansSo_152 : decode cL_areSpansSo 152 = .ok (.goto 8, 3) := by decide +kernel
theorem dL_areSpansSo_155 : decode cL_areSpansSo 155 = .ok (.iload 7, 2) := by decide +kernel
theorem dL_areSpansSo_157 : decode cL_areSpansSo 157 = .ok (.ifCond .ne 5, 3) := by decide +kernel
theorem dL_areSpansSo_160 : decode cL_areSpansSo 160 = .ok (.iconst 0, 1) := by decide +kernel
theorem dL_areSpansSo_161 : decode cL_areSpansSo 161 = .ok (.ireturn, 1) := by decide +kernel
theorem dL_areSpansSo_162 : decode cL_areSpansSo 162 = .ok (.iinc 3 1, 3) := by decide +kernel
theorem dL_areSpansSo_165 : decode cL_areSpansSo 165 = .ok (.goto (-159), 3) := by decide +kernel
theorem dL_areSpansSo_168 : decode cL_areSpansSo 168 = .ok (.aload_n 0, 1) := by decide +kernel
theorem dL_areSpansSo_169 : decode cL_areSpansSo 169 = .ok (.invokevirtual 77, 3) := by decide +kernel
theorem dL_areSpansSo_172 : decode cL_areSpansSo 172 = .ok (.iload_n 1, 1) := by decide +kernel
theorem dL_areSpansSo_173 : decode cL_areSpansSo 173 = .ok (.if_icmp .ne 44, 3) := by decide +kernel
theorem dL_areSpansSo_176 : decode cL_areSpansSo 176 = .ok (.iload_n 2, 1) := by decide +kernel
theorem dL_areSpansSo_177 : decode cL_areSpansSo 177 = .ok (.aload_n 0, 1) := by decide +kernel
theorem dL_areSpansSo_178 : decode cL_areSpansSo 178 = .ok (.invokevirtual 80, 3) := by decide +kernel
theorem dL_areSpansSo_181 : decode cL_areSpansSo 181 = .ok (.iadd, 1) := by decide +kernel
theorem dL_areSpansSo_182 : decode cL_areSpansSo 182 = .ok (.sipush 4096, 3) := by decide +kernel
theorem dL_areSpansSo_185 : decode cL_areSpansSo 185 = .ok (.if_icmp .ne 32, 3) := by decide +kernel
theorem dL_areSpansSo_188 : decode cL_areSpansSo 188 = .ok (.aload_n 0, 1) := by decide +kernel
theorem dL_areSpansSo_189 : decode cL_areSpansSo 189 = .ok (.iconst 0, 1) := by decide +kernel
theorem dL_areSpansSo_190 : decode cL_areSpansSo 190 = .ok (.invokevirtual 83, 3) := by decide +kernel
theorem dL_areSpansSo_193 : decode cL_areSpansSo 193 = .ok (.ifCond .eq 24, 3) := by decide +kernel
theorem dL_areSpansSo_196 : decode cL_areSpansSo 196 = .ok (.aload_n 0, 1) := by decide +kernel
theorem dL_areSpansSo_197 : decode cL_areSpansSo 197 = .ok (.iconst (-1), 1) := by decide +kernel
theorem dL_areSpansSo_198 : decode cL_areSpansSo 198 = .ok (.invokevirtual 83, 3) := by decide +kernel
theorem dL_areSpansSo_201 : decode cL_areSpansSo 201 = .ok (.ifCond .ne 16, 3) := by decide +kernel
theorem dL_areSpansSo_204 : decode cL_areSpansSo 204 = .ok (.aload_n 0, 1) := by decide +kernel
theorem dL_areSpansSo_205 : decode cL_areSpansSo 205 = .ok (.bipush 60, 2) := by decide +kernel
theorem dL_areSpansSo_207 : decode cL_areSpansSo 207 = .ok (.invokevirtual 83, 3) := by decide +kernel
theorem dL_areSpansSo_210 : decode cL_areSpansSo 210 = .ok (.ifCond .ne 7, 3) := by decide +kernel
theorem dL_areSpansSo_213 : decode cL_areSpansSo 213 = .ok (.iconst 1, 1) := by decide +kernel
theorem dL_areSpansSo_214 : decode cL_areSpansSo 214 = .ok (.goto 4, 3) := by decide +kernel
theorem dL_areSpansSo_217 : decode cL_areSpansSo 217 = .ok (.iconst 0, 1) := by decide +kernel
theorem dL_areSpansSo_218 : decode cL_areSpansSo 218 = .ok (.ireturn, 1) := by decide +kernel
theorem dL_areBlocksSo_0 : decode cL_areBlocksSo 0 = .ok (.aload_n 0, 1) := by decide +kernel
theorem dL_areBlocksSo_1 : decode cL_areBlocksSo 1 = .ok (.iload_n 1, 1) := by decide +kernel
theorem dL_areBlocksSo_2 : decode cL_areBlocksSo 2 = .ok (.invokevirtual 99, 3) := by decide +kernel
theorem dL_areBlocksSo_5 : decode cL_areBlocksSo 5 = .ok (.istore_n 2, 1) := by decide +kernel
theorem dL_areBlocksSo_6 : decode cL_areBlocksSo 6 = .ok (.iconst 0, 1) := by decide +kernel
theorem dL_areBlocksSo_7 : decode cL_areBlocksSo 7 = .ok (.istore_n 3, 1) := by decide +kernel
theorem dL_areBlocksSo_8 : decode cL_areBlocksSo 8 = .ok (.iconst 1, 1) := by decide +kernel
theorem dL_areBlocksSo_9 : decode cL_areBlocksSo 9 = .ok (.istore 4, 2) := by decide +kernel
theorem dL_areBlocksSo_11 : decode cL_areBlocksSo 11 = .ok (.iload 4, 2) := by decide +kernel
theorem dL_areBlocksSo_13 : decode cL_areBlocksSo 13 = .ok (.aload_n 0, 1) := by decide +kernel
theorem dL_areBlocksSo_14 : decode cL_areBlocksSo 14 = .ok (.iload_n 1, 1) := by decide +kernel
theorem dL_areBlocksSo_15 : decode cL_areBlocksSo 15 = .ok (.invokevirtual 90, 3) := by decide +kernel
theorem dL_areBlocksSo_18 : decode cL_areBlocksSo 18 = .ok (.if_icmp .ge 56, 3) := by decide +kernel
theorem dL_areBlocksSo_21 : decode cL_areBlocksSo 21 = .ok (.aload_n 0, 1) := by decide +kernel
theorem dL_areBlocksSo_22 : decode cL_areBlocksSo 22 = .ok (.iload_n 1, 1) := by decide +kernel
theorem dL_areBlocksSo_23 : decode cL_areBlocksSo 23 = .ok (.iload 4, 2) := by decide +kernel
theorem dL_areBlocksSo_25 : decode cL_areBlocksSo 25 = .ok (.invokevirtual 102, 3) := by decide +kernel
theorem dL_areBlocksSo_28 : decode cL_areBlocksSo 28 = .ok (.istore 5, 2) := by decide +kernel
theorem dL_areBlocksSo_30 : decode cL_areBlocksSo 30 = .ok (.iload 5, 2) := by decide +kernel
theorem dL_areBlocksSo_32 : decode cL_areBlocksSo 32 = .ok (.ifCond .ne 7, 3) := by decide +kernel
theorem dL_areBlocksSo_35 : decode cL_areBlocksSo 35 = .ok (.iconst 1, 1) := by decide +kernel
theorem dL_areBlocksSo_36 : decode cL_areBlocksSo 36 = .ok (.goto 4, 3) := by decide +kernel
theorem dL_areBlocksSo_39 : decode cL_areBlocksSo 39 = .ok (.iconst 0, 1) := by decide +kernel
theorem dL_areBlocksSo_40 : decode cL_areBlocksSo 40 = .ok (.iload 4, 2) := by decide +kernel
theorem dL_areBlocksSo_42 : decode cL_areBlocksSo 42 = .ok (.iload_n 2, 1) := by decide +kernel
theorem dL_areBlocksSo_43 : decode cL_areBlocksSo 43 = .ok (.if_icmp .gt 7, 3) := by decide +kernel
theorem dL_areBlocksSo_46 : decode cL_areBlocksSo 46 = .ok (.iconst 1, 1) := by decide +kernel
theorem dL_areBlocksSo_47 : decode cL_areBlocksSo 47 = .ok (.goto 4, 3) := by decide +kernel
theorem dL_areBlocksSo_50 : decode cL_areBlocksSo 50 = .ok (.iconst 0, 1) := by decide +kernel
theorem dL_areBlocksSo_51 : decode cL_areBlocksSo 51 = .ok (.if_icmp .ne 9, 3) := by decide +kernel
theorem dL_areBlocksSo_54 : decode cL_areBlocksSo 54 = .ok (.iload 5, 2) := by decide +kernel
theorem dL_areBlocksSo_56 : decode cL_areBlocksSo 56 = .ok (.iload_n 3, 1) := by decide +kernel
theorem dL_areBlocksSo_57 : decode cL_areBlocksSo 57 = .ok (.if_icmp .ge 5, 3) := by decide +kernel
theorem dL_areBlocksSo_60 : decode cL_areBlocksSo 60 = .ok (.iconst 0, 1) := by decide +kernel
theorem dL_areBlocksSo_61 : decode cL_areBlocksSo 61 = .ok (.ireturn, 1) := by decide +kernel
theorem dL_areBlocksSo_62 : decode cL_areBlocksSo 62 = .ok (.iload 5, 2) := by decide +kernel
theorem dL_areBlocksSo_64 : decode cL_areBlocksSo 64 = .ok (.istore_n 3, 1) := by decide +kernel
theorem dL_areBlocksSo_65 : decode cL_areBlocksSo 65 = .ok (.iload 4, 2) := by decide +kernel
theorem dL_areBlocksSo_67 : decode cL_areBlocksSo 67 = .ok (.iconst 2, 1) := by decide +kernel
theorem dL_areBlocksSo_68 : decode cL_areBlocksSo 68 = .ok (.imul, 1) := by decide +kernel
theorem dL_areBlocksSo_69 : decode cL_areBlocksSo 69 = .ok (.istore 4, 2) := by decide +kernel
theorem dL_areBlocksSo_71 : decode cL_areBlocksSo 71 = .ok (.goto (-60), 3) := by decide +kernel
theorem dL_areBlocksSo_74 : decode cL_areBlocksSo 74 = .ok (.iload_n 2, 1) := by decide +kernel
theorem dL_areBlocksSo_75 : decode cL_areBlocksSo 75 = .ok (.ifCond .lt 41, 3) := by decide +kernel
theorem dL_areBlocksSo_78 : decode cL_areBlocksSo 78 = .ok (.iload_n 2, 1) := by decide +kernel
theorem dL_areBlocksSo_79 : decode cL_areBlocksSo 79 = .ok (.aload_n 0, 1) := by decide +kernel
theorem dL_areBlocksSo_80 : decode cL_areBlocksSo 80 = .ok (.iload_n 1, 1) := by decide +kernel
theorem dL_areBlocksSo_81 : decode cL_areBlocksSo 81 = .ok (.invokevirtual 90, 3) := by decide +kernel
theorem dL_areBlocksSo_84 : decode cL_areBlocksSo 84 = .ok (.if_icmp .ge 32, 3) := by decide +kernel
theorem dL_areBlocksSo_87 : decode cL_areBlocksSo 87 = .ok (.aload_n 0, 1) := by decide +kernel
theorem dL_areBlocksSo_88 : decode cL_areBlocksSo 88 = .ok (.iload_n 1, 1) := by decide +kernel
theorem dL_areBlocksSo_89 : decode cL_areBlocksSo 89 = .ok (.invokevirtual 90, 3) := by decide +kernel
theorem dL_areBlocksSo_92 : decode cL_areBlocksSo 92 = .ok (.sipush 2048, 3) := by decide +kernel
theorem dL_areBlocksSo_95 : decode cL_areBlocksSo 95 = .ok (.if_icmp .gt 17, 3) := by decide +kernel
theorem dL_areBlocksSo_98 : decode cL_areBlocksSo 98 = .ok (.aload_n 0, 1) := by decide +kernel
theorem dL_areBlocksSo_99 : decode cL_areBlocksSo 99 = .ok (.iload_n 1, 1) := by decide +kernel
theorem dL_areBlocksSo_100 : decode cL_areBlocksSo 100 = .ok (.aload_n 0, 1) := by decide +kernel
theorem dL_areBlocksSo_101 : decode cL_areBlocksSo 101 = .ok (.iload_n 1, 1) := by decide +kernel
theorem dL_areBlocksSo_102 : decode cL_areBlocksSo 102 = .ok (.invokevirtual 90, 3) := by decide +kernel
theorem dL_areBlocksSo_105 : decode cL_areBlocksSo 105 = .ok (.invokevirtual 102, 3) := by decide +kernel
theorem dL_areBlocksSo_108 : decode cL_areBlocksSo 108 = .ok (.iconst (-1), 1) := by decide +kernel
theorem dL_areBlocksSo_109 : decode cL_areBlocksSo 109 = .ok (.if_icmp .ne 7, 3) := by decide +kernel
theorem dL_areBlocksSo_112 : decode cL_areBlocksSo 112 = .ok (.iconst 1, 1) := by decide +kernel
theorem dL_areBlocksSo_113 : decode cL_areBlocksSo 113 = .ok (.goto 4, 3) := by decide +kernel
theorem dL_areBlocksSo_116 : decode cL_areBlocksSo 116 = .ok (.iconst 0, 1) := by decide +kernel
theorem dL_areBlocksSo_117 : decode cL_areBlocksSo 117 = .ok (.ireturn, 1) := by decide +kernel
theorem dL_areOwnersSo_0 : decode cL_areOwnersSo 0 = .ok (.iconst 0, 1) := by decide +kernel
theorem dL_areOwnersSo_1 : decode cL_areOwnersSo 1 = .ok (.istore_n 2, 1) := by decide +kernel
theorem dL_areOwnersSo_2 : decode cL_areOwnersSo 2 = .ok (.iconst 0, 1) := by decide +kernel
theorem dL_areOwnersSo_3 : decode cL_areOwnersSo 3 = .ok (.istore_n 3, 1) := by decide +kernel
theorem dL_areOwnersSo_4 : decode cL_areOwnersSo 4 = .ok (.iload_n 3, 1) := by decide +kernel
theorem dL_areOwnersSo_5 : decode cL_areOwnersSo 5 = .ok (.bipush 8, 2) := by decide +kernel
theorem dL_areOwnersSo_7 : decode cL_areOwnersSo 7 = .ok (.if_icmp .ge 60, 3) := by decide +kernel
theorem dL_areOwnersSo_10 : decode cL_areOwnersSo 10 = .ok (.aload_n 0, 1) := by decide +kernel
theorem dL_areOwnersSo_11 : decode cL_areOwnersSo 11 = .ok (.iload_n 3, 1) := by decide +kernel
theorem dL_areOwnersSo_12 : decode cL_areOwnersSo 12 = .ok (.invokevirtual 105, 3) := by decide +kernel
theorem dL_areOwnersSo_15 : decode cL_areOwnersSo 15 = .ok (.istore 4, 2) := by decide +kernel
theorem dL_areOwnersSo_17 : decode cL_areOwnersSo 17 = .ok (.aload_n 0, 1) := by decide +kernel
theorem dL_areOwnersSo_18 : decode cL_areOwnersSo 18 = .ok (.iload_n 3, 1) := by decide +kernel
theorem dL_areOwnersSo_19 : decode cL_areOwnersSo 19 = .ok (.invokevirtual 108, 3) := by decide +kernel
theorem dL_areOwnersSo_22 : decode cL_areOwnersSo 22 = .ok (.istore 5, 2) := by decide +kernel
theorem dL_areOwnersSo_24 : decode cL_areOwnersSo 24 = .ok (.iload_n 2, 1) := by decide +kernel
theorem dL_areOwnersSo_25 : decode cL_areOwnersSo 25 = .ok (.iload 4, 2) := by decide +kernel
theorem dL_areOwnersSo_27 : decode cL_areOwnersSo 27 = .ok (.iadd, 1) := by decide +kernel
theorem dL_areOwnersSo_28 : decode cL_areOwnersSo 28 = .ok (.istore_n 2, 1) := by decide +kernel
theorem dL_areOwnersSo_29 : decode cL_areOwnersSo 29 = .ok (.iload 4, 2) := by decide +kernel
theorem dL_areOwnersSo_31 : decode cL_areOwnersSo 31 = .ok (.ifCond .ne 7, 3) := by decide +kernel
theorem dL_areOwnersSo_34 : decode cL_areOwnersSo 34 = .ok (.iconst 1, 1) := by decide +kernel
theorem dL_areOwnersSo_35 : decode cL_areOwnersSo 35 = .ok (.goto 4, 3) := by decide +kernel
theorem dL_areOwnersSo_38 : decode cL_areOwnersSo 38 = .ok (.iconst 0, 1) := by decide +kernel
theorem dL_areOwnersSo_39 : decode cL_areOwnersSo 39 = .ok (.iload 5, 2) := by decide +kernel
theorem dL_areOwnersSo_41 : decode cL_areOwnersSo 41 = .ok (.ifCond .ne 7, 3) := by decide +kernel
theorem dL_areOwnersSo_44 : decode cL_areOwnersSo 44 = .ok (.iconst 1, 1) := by decide +kernel
theorem dL_areOwnersSo_45 : decode cL_areOwnersSo 45 = .ok (.goto 4, 3) := by decide +kernel
theorem dL_areOwnersSo_48 : decode cL_areOwnersSo 48 = .ok (.iconst 0, 1) := by decide +kernel
theorem dL_areOwnersSo_49 : decode cL_areOwnersSo 49 = .ok (.if_icmp .ne 10, 3) := by decide +kernel
theorem dL_areOwnersSo_52 : decode cL_areOwnersSo 52 = .ok (.iload 5, 2) := by decide +kernel
theorem dL_areOwnersSo_54 : decode cL_areOwnersSo 54 = .ok (.iload 4, 2) := by decide +kernel
theorem dL_areOwnersSo_56 : decode cL_areOwnersSo 56 = .ok (.if_icmp .le 5, 3) := by decide +kernel
theorem dL_areOwnersSo_59 : decode cL_areOwnersSo 59 = .ok (.iconst 0, 1) := by decide +kernel
theorem dL_areOwnersSo_60 : decode cL_areOwnersSo 60 = .ok (.ireturn, 1) := by decide +kernel
theorem dL_areOwnersSo_61 : decode cL_areOwnersSo 61 = .ok (.iinc 3 1, 3) := by decide +kernel
theorem dL_areOwnersSo_64 : decode cL_areOwnersSo 64 = .ok (.goto (-60), 3) := by decide +kernel
theorem dL_areOwnersSo_67 : decode cL_areOwnersSo 67 = .ok (.iconst 0, 1) := by decide +kernel
theorem dL_areOwnersSo_68 : decode cL_areOwnersSo 68 = .ok (.istore_n 3, 1) := by decide +kernel
theorem dL_areOwnersSo_69 : decode cL_areOwnersSo 69 = .ok (.iload_n 3, 1) := by decide +kernel
theorem dL_areOwnersSo_70 : decode cL_areOwnersSo 70 = .ok (.bipush 6, 2) := by decide +kernel
theorem dL_areOwnersSo_72 : decode cL_areOwnersSo 72 = .ok (.if_icmp .ge 74, 3) := by decide +kernel
theorem dL_areOwnersSo_75 : decode cL_areOwnersSo 75 = .ok (.iload_n 1, 1) := by decide +kernel
theorem dL_areOwnersSo_76 : decode cL_areOwnersSo 76 = .ok (.iconst 2, 1) := by decide +kernel
theorem dL_areOwnersSo_77 : decode cL_areOwnersSo 77 = .ok (.iload_n 3, 1) := by decide +kernel
theorem dL_areOwnersSo_78 : decode cL_areOwnersSo 78 = .ok (.imul, 1) := by decide +kernel
theorem dL_areOwnersSo_79 : decode cL_areOwnersSo 79 = .ok (.iconst 1, 1) := by decide +kernel
theorem dL_areOwnersSo_80 : decode cL_areOwnersSo 80 = .ok (.iadd, 1) := by decide +kernel
theorem dL_areOwnersSo_81 : decode cL_areOwnersSo 81 = .ok (.imul, 1) := by decide +kernel
theorem dL_areOwnersSo_82 : decode cL_areOwnersSo 82 = .ok (.sipush 4096, 3) := by decide +kernel
theorem dL_areOwnersSo_85 : decode cL_areOwnersSo 85 = .ok (.invokestatic 47, 3) := by decide +kernel
theorem dL_areOwnersSo_88 : decode cL_areOwnersSo 88 = .ok (.istore 4, 2) := by decide +kernel
theorem dL_areOwnersSo_90 : decode cL_areOwnersSo 90 = .ok (.aload_n 0, 1) := by decide +kernel
theorem dL_areOwnersSo_91 : decode cL_areOwnersSo 91 = .ok (.iload 4, 2) := by decide +kernel
theorem dL_areOwnersSo_93 : decode cL_areOwnersSo 93 = .ok (.invokevirtual 111, 3) := by decide +kernel
theorem dL_areOwnersSo_96 : decode cL_areOwnersSo 96 = .ok (.istore 5, 2) := by decide +kernel
theorem dL_areOwnersSo_98 : decode cL_areOwnersSo 98 = .ok (.aload_n 0, 1) := by decide +kernel
theorem dL_areOwnersSo_99 : decode cL_areOwnersSo 99 = .ok (.iload 4, 2) := by decide +kernel
theorem dL_areOwnersSo_101 : decode cL_areOwnersSo 101 = .ok (.invokevirtual 114, 3) := by decide +kernel
theorem dL_areOwnersSo_104 : decode cL_areOwnersSo 104 = .ok (.iload 5, 2) := by decide +kernel
theorem dL_areOwnersSo_106 : decode cL_areOwnersSo 106 = .ok (.if_icmp .ne 32, 3) := by decide +kernel
theorem dL_areOwnersSo_109 : decode cL_areOwnersSo 109 = .ok (.iload 4, 2) := by decide +kernel
theorem dL_areOwnersSo_111 : decode cL_areOwnersSo 111 = .ok (.aload_n 0, 1) := by decide +kernel
theorem dL_areOwnersSo_112 : decode cL_areOwnersSo 112 = .ok (.iload 5, 2) := by decide +kernel
theorem dL_areOwnersSo_114 : decode cL_areOwnersSo 114 = .ok (.invokevirtual 87, 3) := by decide +kernel
theorem dL_areOwnersSo_117 : decode cL_areOwnersSo 117 = .ok (.if_icmp .lt 21, 3) := by decide +kernel
theorem dL_areOwnersSo_120 : decode cL_areOwnersSo 120 = .ok (.iload 4, 2) := by decide +kernel
theorem dL_areOwnersSo_122 : decode cL_areOwnersSo 122 = .ok (.aload_n 0, 1) := by decide +kernel
theorem dL_areOwnersSo_123 : decode cL_areOwnersSo 123 = .ok (.iload 5, 2) := by decide +kernel
theorem dL_areOwnersSo_125 : decode cL_areOwnersSo 125 = .ok (.invokevirtual 87, 3) := by decide +kernel
theorem dL_areOwnersSo_128 : decode cL_areOwnersSo 128 = .ok (.aload_n 0, 1) := by decide +kernel
theorem dL_areOwnersSo_129 : decode cL_areOwnersSo 129 = .ok (.iload 5, 2) := by decide +kernel
theorem dL_areOwnersSo_131 : decode cL_areOwnersSo 131 = .ok (.invokevirtual 90, 3) := by decide +kernel
theorem dL_areOwnersSo_134 : decode cL_areOwnersSo 134 = .ok (.iadd, 1) := by decide +kernel
theorem dL_areOwnersSo_135 : decode cL_areOwnersSo 135 = .ok (.if_icmp .lt 5, 3) := by decide +kernel
theorem dL_areOwnersSo_138 : decode cL_areOwnersSo 138 = .ok (.iconst 0, 1) := by decide +kernel
theorem dL_areOwnersSo_139 : decode cL_areOwnersSo 139 = .ok (.ireturn, 1) := by decide +kernel
theorem dL_areOwnersSo_140 : decode cL_areOwnersSo 140 = .ok (.iinc 3 1, 3) := by decide +kernel
theorem dL_areOwnersSo_143 : decode cL_areOwnersSo 143 = .ok (.goto (-74), 3) := by decide +kernel
theorem dL_areOwnersSo_146 : decode cL_areOwnersSo 146 = .ok (.iload_n 2, 1) := by decide +kernel
theorem dL_areOwnersSo_147 : decode cL_areOwnersSo 147 = .ok (.sipush 4096, 3) := by decide +kernel
theorem dL_areOwnersSo_150 : decode cL_areOwnersSo 150 = .ok (.if_icmp .ne 7, 3) := by decide +kernel
theorem dL_areOwnersSo_153 : decode cL_areOwnersSo 153 = .ok (.iconst 1, 1) := by decide +kernel
theorem dL_areOwnersSo_154 : decode cL_areOwnersSo 154 = .ok (.goto 4, 3) := by decide +kernel
theorem dL_areOwnersSo_157 : decode cL_areOwnersSo 157 = .ok (.iconst 0, 1) := by decide +kernel
theorem dL_areOwnersSo_158 : decode cL_areOwnersSo 158 = .ok (.ireturn, 1) := by decide +kernel
theorem dL_law_0 : decode cL_law 0 = .ok (.new 9, 3) := by decide +kernel
theorem dL_law_3 : decode cL_law 3 = .ok (.dup, 1) := by decide +kernel
theorem dL_law_4 : decode cL_law 4 = .ok (.invokespecial 117, 3) := by decide +kernel
theorem dL_law_7 : decode cL_law 7 = .ok (.astore_n 1, 1) := by decide +kernel
theorem dL_law_8 : decode cL_law 8 = .ok (.new 9, 3) := by decide +kernel
theorem dL_law_11 : decode cL_law 11 = .ok (.dup, 1) := by decide +kernel
theorem dL_law_12 : decode cL_law 12 = .ok (.invokespecial 117, 3) := by decide +kernel
theorem dL_law_15 : decode cL_law 15 = .ok (.astore_n 2, 1) := by decide +kernel
theorem dL_law_16 : decode cL_law 16 = .ok (.iconst 0, 1) := by decide +kernel
theorem dL_law_17 : decode cL_law 17 = .ok (.istore_n 3, 1) := by decide +kernel
theorem dL_law_18 : decode cL_law 18 = .ok (.iload_n 3, 1) := by decide +kernel
theorem dL_law_19 : decode cL_law 19 = .ok (.bipush 70, 2) := by decide +kernel
theorem dL_law_21 : decode cL_law 21 = .ok (.if_icmp .ge 117, 3) := by decide +kernel
theorem dL_law_24 : decode cL_law 24 = .ok (.aload_n 0, 1) := by decide +kernel
theorem dL_law_25 : decode cL_law 25 = .ok (.iload_n 3, 1) := by decide +kernel
theorem dL_law_26 : decode cL_law 26 = .ok (.invokestatic 118, 3) := by decide +kernel
theorem dL_law_29 : decode cL_law 29 = .ok (.istore 4, 2) := by decide +kernel
theorem dL_law_31 : decode cL_law 31 = .ok (.aload_n 1, 1) := by decide +kernel
theorem dL_law_32 : decode cL_law 32 = .ok (.iload 4, 2) := by decide +kernel
theorem dL_law_34 : decode cL_law 34 = .ok (.invokestatic 122, 3) := by decide +kernel
theorem dL_law_37 : decode cL_law 37 = .ok (.istore 5, 2) := by decide +kernel
theorem dL_law_39 : decode cL_law 39 = .ok (.iload 5, 2) := by decide +kernel
theorem dL_law_41 : decode cL_law 41 = .ok (.ldc 16, 2) := by decide +kernel
theorem dL_law_43 : decode cL_law 43 = .ok (.if_icmp .eq 14, 3) := by decide +kernel
theorem dL_law_46 : decode cL_law 46 = .ok (.aload_n 2, 1) := by decide +kernel
theorem dL_law_47 : decode cL_law 47 = .ok (.iload 4, 2) := by decide +kernel
theorem dL_law_49 : decode cL_law 49 = .ok (.invokestatic 122, 3) := by decide +kernel
theorem dL_law_52 : decode cL_law 52 = .ok (.iload 5, 2) := by decide +kernel
theorem dL_law_54 : decode cL_law 54 = .ok (.if_icmp .ne 18, 3) := by decide +kernel
theorem dL_law_57 : decode cL_law 57 = .ok (.aload_n 1, 1) := by decide +kernel
theorem dL_law_58 : decode cL_law 58 = .ok (.aload_n 2, 1) := by decide +kernel
theorem dL_law_59 : decode cL_law 59 = .ok (.invokestatic 125, 3) := by decide +kernel
theorem dL_law_62 : decode cL_law 62 = .ok (.ifCond .eq 10, 3) := by decide +kernel
theorem dL_law_65 : decode cL_law 65 = .ok (.aload_n 1, 1) := by decide +kernel
theorem dL_law_66 : decode cL_law 66 = .ok (.invokestatic 129, 3) := by decide +kernel
theorem dL_law_69 : decode cL_law 69 = .ok (.ifCond .ne 5, 3) := by decide +kernel
theorem dL_law_72 : decode cL_law 72 = .ok (.iconst 0, 1) := by decide +kernel
theorem dL_law_73 : decode cL_law 73 = .ok (.ireturn, 1) := by decide +kernel
theorem dL_law_74 : decode cL_law 74 = .ok (.iload 4, 2) := by decide +kernel
theorem dL_law_76 : decode cL_law 76 = .ok (.iconst 5, 1) := by decide +kernel
theorem dL_law_77 : decode cL_law 77 = .ok (.ishr, 1) := by decide +kernel
theorem dL_law_78 : decode cL_law 78 = .ok (.bipush 12, 2) := by decide +kernel
theorem dL_law_80 : decode cL_law 80 = .ok (.invokestatic 47, 3) := by decide +kernel
theorem dL_law_83 : decode cL_law 83 = .ok (.istore 6, 2) := by decide +kernel
theorem dL_law_85 : decode cL_law 85 = .ok (.aload_n 1, 1) := by decide +kernel
theorem dL_law_86 : decode cL_law 86 = .ok (.iload 6, 2) := by decide +kernel
theorem dL_law_88 : decode cL_law 88 = .ok (.invokevirtual 83, 3) := by decide +kernel
theorem dL_law_91 : decode cL_law 91 = .ok (.ifCond .eq 21, 3) := by decide +kernel
theorem dL_law_94 : decode cL_law 94 = .ok (.iload_n 3, 1) := by decide +kernel
theorem dL_law_95 : decode cL_law 95 = .ok (.bipush 7, 2) := by decide +kernel
theorem dL_law_97 : decode cL_law 97 = .ok (.irem, 1) := by decide +kernel
theorem dL_law_98 : decode cL_law 98 = .ok (.bipush 6, 2) := by decide +kernel
theorem dL_law_100 : decode cL_law 100 = .ok (.if_icmp .ne 12, 3) := by decide +kernel
theorem dL_law_103 : decode cL_law 103 = .ok (.aload_n 1, 1) := by decide +kernel
theorem dL_law_104 : decode cL_law 104 = .ok (.iload 6, 2) := by decide +kernel
theorem dL_law_106 : decode cL_law 106 = .ok (.invokestatic 133, 3) := by decide +kernel
theorem dL_law_109 : decode cL_law 109 = .ok (.ifCond .eq 21, 3) := by decide +kernel
theorem dL_law_112 : decode cL_law 112 = .ok (.iload_n 3, 1) := by decide +kernel
theorem dL_law_113 : decode cL_law 113 = .ok (.bipush 23, 2) := by decide +kernel
theorem dL_law_115 : decode cL_law 115 = .ok (.irem, 1) := by decide +kernel
theorem dL_law_116 : decode cL_law 116 = .ok (.bipush 22, 2) := by decide +kernel
theorem dL_law_118 : decode cL_law 118 = .ok (.if_icmp .ne 14, 3) := by decide +kernel
theorem dL_law_121 : decode cL_law 121 = .ok (.aload_n 1, 1) := by decide +kernel
theorem dL_law_122 : decode cL_law 122 = .ok (.iload 4, 2) := by decide +kernel
theorem dL_law_124 : decode cL_law 124 = .ok (.invokestatic 137, 3) := by decide +kernel
theorem dL_law_127 : decode cL_law 127 = .ok (.ifCond .ne 5, 3) := by decide +kernel
theorem dL_law_130 : decode cL_law 130 = .ok (.iconst 0, 1) := by decide +kernel
theorem dL_law_131 : decode cL_law 131 = .ok (.ireturn, 1) := by decide +kernel
theorem dL_law_132 : decode cL_law 132 = .ok (.iinc 3 1, 3) := by decide +kernel
theorem dL_law_135 : decode cL_law 135 = .ok (.goto (-117), 3) := by decide +kernel
theorem dL_law_138 : decode cL_law 138 = .ok (.iconst 1, 1) := by decide +kernel
theorem dL_law_139 : decode cL_law 139 = .ok (.ireturn, 1) := by decide +kernel
end
section
theorem in_RX0 : ∀ w ∈ u_ws RX0 TX0 5, w ∈ GW := by
  intro w hw
  simp only [u_ws, List.mem_map, List.mem_range] at hw
  obtain ⟨k, hk, rfl⟩ := hw
  have h : ∀ k, k < 5 → u_lay RX0 TX0 k ∈ GW := by decide +kernel
  exact h k hk
theorem in_RX1 : ∀ w ∈ u_ws RX1 TX1 8, w ∈ GW := by
  intro w hw
  simp only [u_ws, List.mem_map, List.mem_range] at hw
  obtain ⟨k, hk, rfl⟩ := hw
  have h : ∀ k, k < 8 → u_lay RX1 TX1 k ∈ GW := by decide +kernel
  exact h k hk
theorem ini_PrefixYardLaw : Cond.initialized RL ∈ GW := List.mem_filter.mpr ⟨List.mem_of_getElem? (i := 16) (by decide +kernel), by decide +kernel⟩
theorem ini_PrefixYard : Cond.initialized RX1 ∈ GW := List.mem_filter.mpr ⟨List.mem_of_getElem? (i := 17) (by decide +kernel), by decide +kernel⟩
theorem ini_PrefixYard_Span : Cond.initialized RX0 ∈ GW := List.mem_filter.mpr ⟨List.mem_of_getElem? (i := 18) (by decide +kernel), by decide +kernel⟩
theorem ini_java_lang_Throwable : Cond.initialized "java/lang/Throwable" ∈ GW := List.mem_filter.mpr ⟨List.mem_of_getElem? (i := 19) (by decide +kernel), by decide +kernel⟩
theorem ini_java_lang_Exception : Cond.initialized "java/lang/Exception" ∈ GW := List.mem_filter.mpr ⟨List.mem_of_getElem? (i := 20) (by decide +kernel), by decide +kernel⟩
theorem ini_java_lang_RuntimeException : Cond.initialized "java/lang/RuntimeException" ∈ GW := List.mem_filter.mpr ⟨List.mem_of_getElem? (i := 21) (by decide +kernel), by decide +kernel⟩
theorem ini_java_lang_IndexOutOfBoundsException : Cond.initialized "java/lang/IndexOutOfBoundsException" ∈ GW := List.mem_filter.mpr ⟨List.mem_of_getElem? (i := 22) (by decide +kernel), by decide +kernel⟩
theorem ini_java_lang_IllegalArgumentException : Cond.initialized "java/lang/IllegalArgumentException" ∈ GW := List.mem_filter.mpr ⟨List.mem_of_getElem? (i := 23) (by decide +kernel), by decide +kernel⟩
theorem ini_java_lang_IllegalStateException : Cond.initialized "java/lang/IllegalStateException" ∈ GW := List.mem_filter.mpr ⟨List.mem_of_getElem? (i := 24) (by decide +kernel), by decide +kernel⟩
theorem ini_java_lang_Math : Cond.initialized RJ9 ∈ GW := List.mem_filter.mpr ⟨List.mem_of_getElem? (i := 25) (by decide +kernel), by decide +kernel⟩
theorem cl_L_9 : Cond.classLink RL 9 RX1 ∈ GW := List.mem_filter.mpr ⟨List.mem_of_getElem? (i := 26) (by decide +kernel), by decide +kernel⟩
theorem ins_PrefixYard : Cond.instantiable RX1 8 ∈ GW := List.mem_filter.mpr ⟨List.mem_of_getElem? (i := 27) (by decide +kernel), by decide +kernel⟩
theorem ml_L_117 : Cond.methodLink RL 117 yX1_init ∈ GW := List.mem_filter.mpr ⟨List.mem_of_getElem? (i := 28) (by decide +kernel), by decide +kernel⟩
theorem ml_X1_1 : Cond.methodLink RX1 1 objectInit ∈ GW := List.mem_filter.mpr ⟨List.mem_of_getElem? (i := 31) (by decide +kernel), by decide +kernel⟩
theorem cl_X1_7 : Cond.classLink RX1 7 RX0 ∈ GW := List.mem_filter.mpr ⟨List.mem_of_getElem? (i := 34) (by decide +kernel), by decide +kernel⟩
theorem ins_PrefixYard_Span : Cond.instantiable RX0 5 ∈ GW := List.mem_filter.mpr ⟨List.mem_of_getElem? (i := 35) (by decide +kernel), by decide +kernel⟩
theorem ml_X1_11 : Cond.methodLink RX1 11 yX0_init ∈ GW := List.mem_filter.mpr ⟨List.mem_of_getElem? (i := 36) (by decide +kernel), by decide +kernel⟩
theorem ml_X0_1 : Cond.methodLink RX0 1 objectInit ∈ GW := List.mem_filter.mpr ⟨List.mem_of_getElem? (i := 39) (by decide +kernel), by decide +kernel⟩
theorem fl_X0_7 : Cond.fieldLink RX0 7 "PrefixYard$Span" "number" "I" ∈ GW := List.mem_filter.mpr ⟨List.mem_of_getElem? (i := 40) (by decide +kernel), by decide +kernel⟩
theorem fl_X1_154 : Cond.fieldLink RX1 154 "PrefixYard$Span" "number" "I" ∈ GW := List.mem_filter.mpr ⟨List.mem_of_getElem? (i := 41) (by decide +kernel), by decide +kernel⟩
theorem fl_X0_13 : Cond.fieldLink RX0 13 "PrefixYard$Span" "parent" "LPrefixYard$Span;" ∈ GW := List.mem_filter.mpr ⟨List.mem_of_getElem? (i := 42) (by decide +kernel), by decide +kernel⟩
theorem fl_X1_94 : Cond.fieldLink RX1 94 "PrefixYard$Span" "parent" "LPrefixYard$Span;" ∈ GW := List.mem_filter.mpr ⟨List.mem_of_getElem? (i := 43) (by decide +kernel), by decide +kernel⟩
theorem fl_X0_17 : Cond.fieldLink RX0 17 "PrefixYard$Span" "base" "I" ∈ GW := List.mem_filter.mpr ⟨List.mem_of_getElem? (i := 44) (by decide +kernel), by decide +kernel⟩
theorem fl_X1_101 : Cond.fieldLink RX1 101 "PrefixYard$Span" "base" "I" ∈ GW := List.mem_filter.mpr ⟨List.mem_of_getElem? (i := 45) (by decide +kernel), by decide +kernel⟩
theorem fl_X0_20 : Cond.fieldLink RX0 20 "PrefixYard$Span" "size" "I" ∈ GW := List.mem_filter.mpr ⟨List.mem_of_getElem? (i := 46) (by decide +kernel), by decide +kernel⟩
theorem fl_X1_114 : Cond.fieldLink RX1 114 "PrefixYard$Span" "size" "I" ∈ GW := List.mem_filter.mpr ⟨List.mem_of_getElem? (i := 47) (by decide +kernel), by decide +kernel⟩
theorem fl_X0_23 : Cond.fieldLink RX0 23 "PrefixYard$Span" "owner" "I" ∈ GW := List.mem_filter.mpr ⟨List.mem_of_getElem? (i := 48) (by decide +kernel), by decide +kernel⟩
theorem fl_X1_125 : Cond.fieldLink RX1 125 "PrefixYard$Span" "owner" "I" ∈ GW := List.mem_filter.mpr ⟨List.mem_of_getElem? (i := 49) (by decide +kernel), by decide +kernel⟩
theorem fl_X1_14 : Cond.fieldLink RX1 14 "PrefixYard" "whole" "LPrefixYard$Span;" ∈ GW := List.mem_filter.mpr ⟨List.mem_of_getElem? (i := 62) (by decide +kernel), by decide +kernel⟩
theorem fl_X1_18 : Cond.fieldLink RX1 18 "PrefixYard" "made" "[LPrefixYard$Span;" ∈ GW := List.mem_filter.mpr ⟨List.mem_of_getElem? (i := 63) (by decide +kernel), by decide +kernel⟩
theorem fl_X1_22 : Cond.fieldLink RX1 22 "PrefixYard" "madeCount" "I" ∈ GW := List.mem_filter.mpr ⟨List.mem_of_getElem? (i := 64) (by decide +kernel), by decide +kernel⟩
theorem fl_X1_26 : Cond.fieldLink RX1 26 "PrefixYard" "freeFrom" "[I" ∈ GW := List.mem_filter.mpr ⟨List.mem_of_getElem? (i := 65) (by decide +kernel), by decide +kernel⟩
theorem fl_X1_30 : Cond.fieldLink RX1 30 "PrefixYard" "lentCount" "I" ∈ GW := List.mem_filter.mpr ⟨List.mem_of_getElem? (i := 66) (by decide +kernel), by decide +kernel⟩
theorem fl_X1_33 : Cond.fieldLink RX1 33 "PrefixYard" "today" "I" ∈ GW := List.mem_filter.mpr ⟨List.mem_of_getElem? (i := 67) (by decide +kernel), by decide +kernel⟩
theorem fl_X1_36 : Cond.fieldLink RX1 36 "PrefixYard" "row" "[I" ∈ GW := List.mem_filter.mpr ⟨List.mem_of_getElem? (i := 68) (by decide +kernel), by decide +kernel⟩
theorem fl_X1_39 : Cond.fieldLink RX1 39 "PrefixYard" "rowStands" "Z" ∈ GW := List.mem_filter.mpr ⟨List.mem_of_getElem? (i := 69) (by decide +kernel), by decide +kernel⟩
theorem ml_L_83 : Cond.methodLink RL 83 yX1_isThere ∈ GW := List.mem_filter.mpr ⟨List.mem_of_getElem? (i := 88) (by decide +kernel), by decide +kernel⟩
theorem ml_X1_151 : Cond.methodLink RX1 151 yX1_findSpan ∈ GW := List.mem_filter.mpr ⟨List.mem_of_getElem? (i := 92) (by decide +kernel), by decide +kernel⟩
theorem ml_L_118 : Cond.methodLink RL 118 yL_cell ∈ GW := List.mem_filter.mpr ⟨List.mem_of_getElem? (i := 96) (by decide +kernel), by decide +kernel⟩
theorem ml_L_47 : Cond.methodLink RL 47 yL_low ∈ GW := List.mem_filter.mpr ⟨List.mem_of_getElem? (i := 99) (by decide +kernel), by decide +kernel⟩
theorem ct_L_7 : Cond.constant RL 7 (2147483647) ∈ GW := List.mem_filter.mpr ⟨List.mem_of_getElem? (i := 102) (by decide +kernel), by decide +kernel⟩
theorem ml_L_122 : Cond.methodLink RL 122 yL_act ∈ GW := List.mem_filter.mpr ⟨List.mem_of_getElem? (i := 103) (by decide +kernel), by decide +kernel⟩
theorem ml_L_52 : Cond.methodLink RL 52 yL_carve ∈ GW := List.mem_filter.mpr ⟨List.mem_of_getElem? (i := 106) (by decide +kernel), by decide +kernel⟩
theorem cl_L_14 : Cond.classLink RL 14 "java/lang/IndexOutOfBoundsException" ∈ GW := List.mem_filter.mpr ⟨List.mem_of_getElem? (i := 109) (by decide +kernel), by decide +kernel⟩
theorem cl_L_17 : Cond.classLink RL 17 "java/lang/IllegalArgumentException" ∈ GW := List.mem_filter.mpr ⟨List.mem_of_getElem? (i := 110) (by decide +kernel), by decide +kernel⟩
theorem cl_L_19 : Cond.classLink RL 19 "java/lang/IllegalStateException" ∈ GW := List.mem_filter.mpr ⟨List.mem_of_getElem? (i := 111) (by decide +kernel), by decide +kernel⟩
theorem ml_L_8 : Cond.methodLink RL 8 yX1_carve ∈ GW := List.mem_filter.mpr ⟨List.mem_of_getElem? (i := 112) (by decide +kernel), by decide +kernel⟩
theorem ml_X1_43 : Cond.methodLink RX1 43 yX1_spanOf ∈ GW := List.mem_filter.mpr ⟨List.mem_of_getElem? (i := 116) (by decide +kernel), by decide +kernel⟩
theorem cl_X1_178 : Cond.classLink RX1 178 "java/lang/IndexOutOfBoundsException" ∈ GW := List.mem_filter.mpr ⟨List.mem_of_getElem? (i := 120) (by decide +kernel), by decide +kernel⟩
theorem ins_java_lang_IndexOutOfBoundsException : Cond.instantiable "java/lang/IndexOutOfBoundsException" 6 ∈ GW := List.mem_filter.mpr ⟨List.mem_of_getElem? (i := 121) (by decide +kernel), by decide +kernel⟩
theorem ins_java_lang_Throwable : Cond.instantiable "java/lang/Throwable" 6 ∈ GW := List.mem_filter.mpr ⟨List.mem_of_getElem? (i := 159) (by decide +kernel), by decide +kernel⟩
theorem ml_X1_47 : Cond.methodLink RX1 47 yX1_checkSize ∈ GW := List.mem_filter.mpr ⟨List.mem_of_getElem? (i := 188) (by decide +kernel), by decide +kernel⟩
theorem cl_X1_54 : Cond.classLink RX1 54 "java/lang/IllegalArgumentException" ∈ GW := List.mem_filter.mpr ⟨List.mem_of_getElem? (i := 191) (by decide +kernel), by decide +kernel⟩
theorem ins_java_lang_IllegalArgumentException : Cond.instantiable "java/lang/IllegalArgumentException" 6 ∈ GW := List.mem_filter.mpr ⟨List.mem_of_getElem? (i := 192) (by decide +kernel), by decide +kernel⟩
theorem ml_X1_51 : Cond.methodLink RX1 51 yX1_checkOwner ∈ GW := List.mem_filter.mpr ⟨List.mem_of_getElem? (i := 207) (by decide +kernel), by decide +kernel⟩
theorem ml_X1_61 : Cond.methodLink RX1 61 yX1_checkCarving ∈ GW := List.mem_filter.mpr ⟨List.mem_of_getElem? (i := 212) (by decide +kernel), by decide +kernel⟩
theorem ml_X1_160 : Cond.methodLink RX1 160 yX1_lentInItself ∈ GW := List.mem_filter.mpr ⟨List.mem_of_getElem? (i := 216) (by decide +kernel), by decide +kernel⟩
theorem ml_X1_97 : Cond.methodLink RX1 97 yX1_hasChildren ∈ GW := List.mem_filter.mpr ⟨List.mem_of_getElem? (i := 220) (by decide +kernel), by decide +kernel⟩
theorem ml_X1_88 : Cond.methodLink RX1 88 yX1_countChildren ∈ GW := List.mem_filter.mpr ⟨List.mem_of_getElem? (i := 224) (by decide +kernel), by decide +kernel⟩
theorem ml_X1_193 : Cond.methodLink RX1 193 yX0_meets ∈ GW := List.mem_filter.mpr ⟨List.mem_of_getElem? (i := 228) (by decide +kernel), by decide +kernel⟩
theorem ml_X0_26 : Cond.methodLink RX0 26 yX0_end ∈ GW := List.mem_filter.mpr ⟨List.mem_of_getElem? (i := 232) (by decide +kernel), by decide +kernel⟩
theorem ml_X1_104 : Cond.methodLink RX1 104 yX0_end ∈ GW := List.mem_filter.mpr ⟨List.mem_of_getElem? (i := 236) (by decide +kernel), by decide +kernel⟩
theorem ml_X1_108 : Cond.methodLink RX1 108 yX1_countLent ∈ GW := List.mem_filter.mpr ⟨List.mem_of_getElem? (i := 237) (by decide +kernel), by decide +kernel⟩
theorem ml_X1_136 : Cond.methodLink RX1 136 yX1_isAddress ∈ GW := List.mem_filter.mpr ⟨List.mem_of_getElem? (i := 241) (by decide +kernel), by decide +kernel⟩
theorem cl_X1_69 : Cond.classLink RX1 69 "java/lang/IllegalStateException" ∈ GW := List.mem_filter.mpr ⟨List.mem_of_getElem? (i := 244) (by decide +kernel), by decide +kernel⟩
theorem ins_java_lang_IllegalStateException : Cond.instantiable "java/lang/IllegalStateException" 6 ∈ GW := List.mem_filter.mpr ⟨List.mem_of_getElem? (i := 245) (by decide +kernel), by decide +kernel⟩
theorem ml_X1_65 : Cond.methodLink RX1 65 yX1_chosenBlock ∈ GW := List.mem_filter.mpr ⟨List.mem_of_getElem? (i := 260) (by decide +kernel), by decide +kernel⟩
theorem ml_X1_168 : Cond.methodLink RX1 168 yX1_childAt ∈ GW := List.mem_filter.mpr ⟨List.mem_of_getElem? (i := 264) (by decide +kernel), by decide +kernel⟩
theorem ml_X1_84 : Cond.methodLink RX1 84 yX0_has ∈ GW := List.mem_filter.mpr ⟨List.mem_of_getElem? (i := 268) (by decide +kernel), by decide +kernel⟩
theorem ml_X1_74 : Cond.methodLink RX1 74 yX1_roomAt ∈ GW := List.mem_filter.mpr ⟨List.mem_of_getElem? (i := 272) (by decide +kernel), by decide +kernel⟩
theorem ml_X1_163 : Cond.methodLink RX1 163 yJ9_min_7cf53 ∈ GW := List.mem_filter.mpr ⟨List.mem_of_getElem? (i := 276) (by decide +kernel), by decide +kernel⟩
theorem ml_X1_197 : Cond.methodLink RX1 197 yX1_greatestBlock ∈ GW := List.mem_filter.mpr ⟨List.mem_of_getElem? (i := 279) (by decide +kernel), by decide +kernel⟩
theorem ml_X1_78 : Cond.methodLink RX1 78 yX1_makeSpan ∈ GW := List.mem_filter.mpr ⟨List.mem_of_getElem? (i := 283) (by decide +kernel), by decide +kernel⟩
theorem ct_L_16 : Cond.constant RL 16 (-99999) ∈ GW := List.mem_filter.mpr ⟨List.mem_of_getElem? (i := 288) (by decide +kernel), by decide +kernel⟩
theorem ml_L_55 : Cond.methodLink RL 55 yL_carveAt ∈ GW := List.mem_filter.mpr ⟨List.mem_of_getElem? (i := 289) (by decide +kernel), by decide +kernel⟩
theorem ml_L_21 : Cond.methodLink RL 21 yX1_carveAt ∈ GW := List.mem_filter.mpr ⟨List.mem_of_getElem? (i := 292) (by decide +kernel), by decide +kernel⟩
theorem ml_L_57 : Cond.methodLink RL 57 yL_remove ∈ GW := List.mem_filter.mpr ⟨List.mem_of_getElem? (i := 298) (by decide +kernel), by decide +kernel⟩
theorem ml_L_24 : Cond.methodLink RL 24 yX1_remove ∈ GW := List.mem_filter.mpr ⟨List.mem_of_getElem? (i := 301) (by decide +kernel), by decide +kernel⟩
theorem ml_L_60 : Cond.methodLink RL 60 yL_grow ∈ GW := List.mem_filter.mpr ⟨List.mem_of_getElem? (i := 306) (by decide +kernel), by decide +kernel⟩
theorem ml_L_28 : Cond.methodLink RL 28 yX1_grow ∈ GW := List.mem_filter.mpr ⟨List.mem_of_getElem? (i := 309) (by decide +kernel), by decide +kernel⟩
theorem ml_L_62 : Cond.methodLink RL 62 yL_halve ∈ GW := List.mem_filter.mpr ⟨List.mem_of_getElem? (i := 315) (by decide +kernel), by decide +kernel⟩
theorem ml_L_31 : Cond.methodLink RL 31 yX1_halve ∈ GW := List.mem_filter.mpr ⟨List.mem_of_getElem? (i := 318) (by decide +kernel), by decide +kernel⟩
theorem ml_L_64 : Cond.methodLink RL 64 yL_setOwner ∈ GW := List.mem_filter.mpr ⟨List.mem_of_getElem? (i := 324) (by decide +kernel), by decide +kernel⟩
theorem ml_L_34 : Cond.methodLink RL 34 yX1_setOwner ∈ GW := List.mem_filter.mpr ⟨List.mem_of_getElem? (i := 327) (by decide +kernel), by decide +kernel⟩
theorem ml_L_67 : Cond.methodLink RL 67 yL_lend ∈ GW := List.mem_filter.mpr ⟨List.mem_of_getElem? (i := 331) (by decide +kernel), by decide +kernel⟩
theorem ml_L_38 : Cond.methodLink RL 38 yX1_lend ∈ GW := List.mem_filter.mpr ⟨List.mem_of_getElem? (i := 334) (by decide +kernel), by decide +kernel⟩
theorem ml_X1_132 : Cond.methodLink RX1 132 yX1_lowestFree ∈ GW := List.mem_filter.mpr ⟨List.mem_of_getElem? (i := 340) (by decide +kernel), by decide +kernel⟩
theorem ml_L_69 : Cond.methodLink RL 69 yL_takeBack ∈ GW := List.mem_filter.mpr ⟨List.mem_of_getElem? (i := 345) (by decide +kernel), by decide +kernel⟩
theorem ml_L_41 : Cond.methodLink RL 41 yX1_takeBack ∈ GW := List.mem_filter.mpr ⟨List.mem_of_getElem? (i := 348) (by decide +kernel), by decide +kernel⟩
theorem ml_X1_141 : Cond.methodLink RX1 141 yX1_checkAddress ∈ GW := List.mem_filter.mpr ⟨List.mem_of_getElem? (i := 352) (by decide +kernel), by decide +kernel⟩
theorem ml_L_71 : Cond.methodLink RL 71 yL_pass ∈ GW := List.mem_filter.mpr ⟨List.mem_of_getElem? (i := 357) (by decide +kernel), by decide +kernel⟩
theorem ml_L_44 : Cond.methodLink RL 44 yX1_pass ∈ GW := List.mem_filter.mpr ⟨List.mem_of_getElem? (i := 360) (by decide +kernel), by decide +kernel⟩
theorem ct_X1_148 : Cond.constant RX1 148 (100000) ∈ GW := List.mem_filter.mpr ⟨List.mem_of_getElem? (i := 365) (by decide +kernel), by decide +kernel⟩
theorem ml_L_125 : Cond.methodLink RL 125 yL_areAlike ∈ GW := List.mem_filter.mpr ⟨List.mem_of_getElem? (i := 367) (by decide +kernel), by decide +kernel⟩
theorem ml_L_73 : Cond.methodLink RL 73 yX1_day ∈ GW := List.mem_filter.mpr ⟨List.mem_of_getElem? (i := 370) (by decide +kernel), by decide +kernel⟩
theorem ml_L_77 : Cond.methodLink RL 77 yX1_spans ∈ GW := List.mem_filter.mpr ⟨List.mem_of_getElem? (i := 374) (by decide +kernel), by decide +kernel⟩
theorem ml_L_80 : Cond.methodLink RL 80 yX1_lent ∈ GW := List.mem_filter.mpr ⟨List.mem_of_getElem? (i := 378) (by decide +kernel), by decide +kernel⟩
theorem ml_L_87 : Cond.methodLink RL 87 yX1_base ∈ GW := List.mem_filter.mpr ⟨List.mem_of_getElem? (i := 382) (by decide +kernel), by decide +kernel⟩
theorem ml_L_90 : Cond.methodLink RL 90 yX1_size ∈ GW := List.mem_filter.mpr ⟨List.mem_of_getElem? (i := 386) (by decide +kernel), by decide +kernel⟩
theorem ml_L_93 : Cond.methodLink RL 93 yX1_free ∈ GW := List.mem_filter.mpr ⟨List.mem_of_getElem? (i := 390) (by decide +kernel), by decide +kernel⟩
theorem ml_X1_157 : Cond.methodLink RX1 157 yX1_outsideChildren ∈ GW := List.mem_filter.mpr ⟨List.mem_of_getElem? (i := 394) (by decide +kernel), by decide +kernel⟩
theorem ml_L_129 : Cond.methodLink RL 129 yL_areSpansSo ∈ GW := List.mem_filter.mpr ⟨List.mem_of_getElem? (i := 398) (by decide +kernel), by decide +kernel⟩
theorem ml_L_96 : Cond.methodLink RL 96 yX1_parent ∈ GW := List.mem_filter.mpr ⟨List.mem_of_getElem? (i := 401) (by decide +kernel), by decide +kernel⟩
theorem ml_L_133 : Cond.methodLink RL 133 yL_areBlocksSo ∈ GW := List.mem_filter.mpr ⟨List.mem_of_getElem? (i := 405) (by decide +kernel), by decide +kernel⟩
theorem ml_L_99 : Cond.methodLink RL 99 yX1_greatestFree ∈ GW := List.mem_filter.mpr ⟨List.mem_of_getElem? (i := 408) (by decide +kernel), by decide +kernel⟩
theorem ml_L_102 : Cond.methodLink RL 102 yX1_inTheWay ∈ GW := List.mem_filter.mpr ⟨List.mem_of_getElem? (i := 412) (by decide +kernel), by decide +kernel⟩
theorem ml_L_137 : Cond.methodLink RL 137 yL_areOwnersSo ∈ GW := List.mem_filter.mpr ⟨List.mem_of_getElem? (i := 416) (by decide +kernel), by decide +kernel⟩
theorem ml_L_105 : Cond.methodLink RL 105 yX1_owned ∈ GW := List.mem_filter.mpr ⟨List.mem_of_getElem? (i := 419) (by decide +kernel), by decide +kernel⟩
theorem ml_L_108 : Cond.methodLink RL 108 yX1_blocks ∈ GW := List.mem_filter.mpr ⟨List.mem_of_getElem? (i := 423) (by decide +kernel), by decide +kernel⟩
theorem ml_X1_172 : Cond.methodLink RX1 172 yX1_layRow ∈ GW := List.mem_filter.mpr ⟨List.mem_of_getElem? (i := 427) (by decide +kernel), by decide +kernel⟩
theorem ml_X1_200 : Cond.methodLink RX1 200 yX1_laySpan ∈ GW := List.mem_filter.mpr ⟨List.mem_of_getElem? (i := 431) (by decide +kernel), by decide +kernel⟩
theorem ml_X1_175 : Cond.methodLink RX1 175 yX1_countBlocks ∈ GW := List.mem_filter.mpr ⟨List.mem_of_getElem? (i := 435) (by decide +kernel), by decide +kernel⟩
theorem ml_L_111 : Cond.methodLink RL 111 yX1_nearest ∈ GW := List.mem_filter.mpr ⟨List.mem_of_getElem? (i := 438) (by decide +kernel), by decide +kernel⟩
theorem ml_L_114 : Cond.methodLink RL 114 yX1_nearestByRow ∈ GW := List.mem_filter.mpr ⟨List.mem_of_getElem? (i := 442) (by decide +kernel), by decide +kernel⟩
theorem mc_X0_init : Cond.code yX0_init cX0_init 6 none ∈ GW := List.mem_filter.mpr ⟨List.mem_of_getElem? (i := 38) (by decide +kernel), by decide +kernel⟩
theorem mi_X0_init : Cond.instanceMethod yX0_init ∈ GW := List.mem_filter.mpr ⟨List.mem_of_getElem? (i := 37) (by decide +kernel), by decide +kernel⟩
theorem mc_X0_end : Cond.code yX0_end cX0_end 1 (some .int) ∈ GW := List.mem_filter.mpr ⟨List.mem_of_getElem? (i := 235) (by decide +kernel), by decide +kernel⟩
theorem mi_X0_end : Cond.instanceMethod yX0_end ∈ GW := List.mem_filter.mpr ⟨List.mem_of_getElem? (i := 233) (by decide +kernel), by decide +kernel⟩
theorem ms_X0_end : Cond.selects RX0 yX0_end yX0_end ∈ GW := List.mem_filter.mpr ⟨List.mem_of_getElem? (i := 234) (by decide +kernel), by decide +kernel⟩
theorem mc_X0_has : Cond.code yX0_has cX0_has 2 (some .boolean) ∈ GW := List.mem_filter.mpr ⟨List.mem_of_getElem? (i := 271) (by decide +kernel), by decide +kernel⟩
theorem mi_X0_has : Cond.instanceMethod yX0_has ∈ GW := List.mem_filter.mpr ⟨List.mem_of_getElem? (i := 269) (by decide +kernel), by decide +kernel⟩
theorem ms_X0_has : Cond.selects RX0 yX0_has yX0_has ∈ GW := List.mem_filter.mpr ⟨List.mem_of_getElem? (i := 270) (by decide +kernel), by decide +kernel⟩
theorem mc_X0_meets : Cond.code yX0_meets cX0_meets 3 (some .boolean) ∈ GW := List.mem_filter.mpr ⟨List.mem_of_getElem? (i := 231) (by decide +kernel), by decide +kernel⟩
theorem mi_X0_meets : Cond.instanceMethod yX0_meets ∈ GW := List.mem_filter.mpr ⟨List.mem_of_getElem? (i := 229) (by decide +kernel), by decide +kernel⟩
theorem ms_X0_meets : Cond.selects RX0 yX0_meets yX0_meets ∈ GW := List.mem_filter.mpr ⟨List.mem_of_getElem? (i := 230) (by decide +kernel), by decide +kernel⟩
theorem mc_X1_init : Cond.code yX1_init cX1_init 1 none ∈ GW := List.mem_filter.mpr ⟨List.mem_of_getElem? (i := 30) (by decide +kernel), by decide +kernel⟩
theorem mi_X1_init : Cond.instanceMethod yX1_init ∈ GW := List.mem_filter.mpr ⟨List.mem_of_getElem? (i := 29) (by decide +kernel), by decide +kernel⟩
theorem mc_X1_carve : Cond.code yX1_carve cX1_carve 9 (some .int) ∈ GW := List.mem_filter.mpr ⟨List.mem_of_getElem? (i := 115) (by decide +kernel), by decide +kernel⟩
theorem mi_X1_carve : Cond.instanceMethod yX1_carve ∈ GW := List.mem_filter.mpr ⟨List.mem_of_getElem? (i := 113) (by decide +kernel), by decide +kernel⟩
theorem ms_X1_carve : Cond.selects RX1 yX1_carve yX1_carve ∈ GW := List.mem_filter.mpr ⟨List.mem_of_getElem? (i := 114) (by decide +kernel), by decide +kernel⟩
theorem mc_X1_carveAt : Cond.code yX1_carveAt cX1_carveAt 6 (some .int) ∈ GW := List.mem_filter.mpr ⟨List.mem_of_getElem? (i := 295) (by decide +kernel), by decide +kernel⟩
theorem mi_X1_carveAt : Cond.instanceMethod yX1_carveAt ∈ GW := List.mem_filter.mpr ⟨List.mem_of_getElem? (i := 293) (by decide +kernel), by decide +kernel⟩
theorem ms_X1_carveAt : Cond.selects RX1 yX1_carveAt yX1_carveAt ∈ GW := List.mem_filter.mpr ⟨List.mem_of_getElem? (i := 294) (by decide +kernel), by decide +kernel⟩
theorem mc_X1_remove : Cond.code yX1_remove cX1_remove 3 (some .int) ∈ GW := List.mem_filter.mpr ⟨List.mem_of_getElem? (i := 304) (by decide +kernel), by decide +kernel⟩
theorem mi_X1_remove : Cond.instanceMethod yX1_remove ∈ GW := List.mem_filter.mpr ⟨List.mem_of_getElem? (i := 302) (by decide +kernel), by decide +kernel⟩
theorem ms_X1_remove : Cond.selects RX1 yX1_remove yX1_remove ∈ GW := List.mem_filter.mpr ⟨List.mem_of_getElem? (i := 303) (by decide +kernel), by decide +kernel⟩
theorem mc_X1_grow : Cond.code yX1_grow cX1_grow 6 (some .int) ∈ GW := List.mem_filter.mpr ⟨List.mem_of_getElem? (i := 312) (by decide +kernel), by decide +kernel⟩
theorem mi_X1_grow : Cond.instanceMethod yX1_grow ∈ GW := List.mem_filter.mpr ⟨List.mem_of_getElem? (i := 310) (by decide +kernel), by decide +kernel⟩
theorem ms_X1_grow : Cond.selects RX1 yX1_grow yX1_grow ∈ GW := List.mem_filter.mpr ⟨List.mem_of_getElem? (i := 311) (by decide +kernel), by decide +kernel⟩
theorem mc_X1_halve : Cond.code yX1_halve cX1_halve 5 (some .int) ∈ GW := List.mem_filter.mpr ⟨List.mem_of_getElem? (i := 321) (by decide +kernel), by decide +kernel⟩
theorem mi_X1_halve : Cond.instanceMethod yX1_halve ∈ GW := List.mem_filter.mpr ⟨List.mem_of_getElem? (i := 319) (by decide +kernel), by decide +kernel⟩
theorem ms_X1_halve : Cond.selects RX1 yX1_halve yX1_halve ∈ GW := List.mem_filter.mpr ⟨List.mem_of_getElem? (i := 320) (by decide +kernel), by decide +kernel⟩
theorem mc_X1_setOwner : Cond.code yX1_setOwner cX1_setOwner 5 (some .int) ∈ GW := List.mem_filter.mpr ⟨List.mem_of_getElem? (i := 330) (by decide +kernel), by decide +kernel⟩
theorem mi_X1_setOwner : Cond.instanceMethod yX1_setOwner ∈ GW := List.mem_filter.mpr ⟨List.mem_of_getElem? (i := 328) (by decide +kernel), by decide +kernel⟩
theorem ms_X1_setOwner : Cond.selects RX1 yX1_setOwner yX1_setOwner ∈ GW := List.mem_filter.mpr ⟨List.mem_of_getElem? (i := 329) (by decide +kernel), by decide +kernel⟩
theorem mc_X1_lend : Cond.code yX1_lend cX1_lend 5 (some .int) ∈ GW := List.mem_filter.mpr ⟨List.mem_of_getElem? (i := 337) (by decide +kernel), by decide +kernel⟩
theorem mi_X1_lend : Cond.instanceMethod yX1_lend ∈ GW := List.mem_filter.mpr ⟨List.mem_of_getElem? (i := 335) (by decide +kernel), by decide +kernel⟩
theorem ms_X1_lend : Cond.selects RX1 yX1_lend yX1_lend ∈ GW := List.mem_filter.mpr ⟨List.mem_of_getElem? (i := 336) (by decide +kernel), by decide +kernel⟩
theorem mc_X1_takeBack : Cond.code yX1_takeBack cX1_takeBack 3 (some .int) ∈ GW := List.mem_filter.mpr ⟨List.mem_of_getElem? (i := 351) (by decide +kernel), by decide +kernel⟩
theorem mi_X1_takeBack : Cond.instanceMethod yX1_takeBack ∈ GW := List.mem_filter.mpr ⟨List.mem_of_getElem? (i := 349) (by decide +kernel), by decide +kernel⟩
theorem ms_X1_takeBack : Cond.selects RX1 yX1_takeBack yX1_takeBack ∈ GW := List.mem_filter.mpr ⟨List.mem_of_getElem? (i := 350) (by decide +kernel), by decide +kernel⟩
theorem mc_X1_pass : Cond.code yX1_pass cX1_pass 5 (some .int) ∈ GW := List.mem_filter.mpr ⟨List.mem_of_getElem? (i := 363) (by decide +kernel), by decide +kernel⟩
theorem mi_X1_pass : Cond.instanceMethod yX1_pass ∈ GW := List.mem_filter.mpr ⟨List.mem_of_getElem? (i := 361) (by decide +kernel), by decide +kernel⟩
theorem ms_X1_pass : Cond.selects RX1 yX1_pass yX1_pass ∈ GW := List.mem_filter.mpr ⟨List.mem_of_getElem? (i := 362) (by decide +kernel), by decide +kernel⟩
theorem mc_X1_day : Cond.code yX1_day cX1_day 1 (some .int) ∈ GW := List.mem_filter.mpr ⟨List.mem_of_getElem? (i := 373) (by decide +kernel), by decide +kernel⟩
theorem mi_X1_day : Cond.instanceMethod yX1_day ∈ GW := List.mem_filter.mpr ⟨List.mem_of_getElem? (i := 371) (by decide +kernel), by decide +kernel⟩
theorem ms_X1_day : Cond.selects RX1 yX1_day yX1_day ∈ GW := List.mem_filter.mpr ⟨List.mem_of_getElem? (i := 372) (by decide +kernel), by decide +kernel⟩
theorem mc_X1_spans : Cond.code yX1_spans cX1_spans 6 (some .int) ∈ GW := List.mem_filter.mpr ⟨List.mem_of_getElem? (i := 377) (by decide +kernel), by decide +kernel⟩
theorem mi_X1_spans : Cond.instanceMethod yX1_spans ∈ GW := List.mem_filter.mpr ⟨List.mem_of_getElem? (i := 375) (by decide +kernel), by decide +kernel⟩
theorem ms_X1_spans : Cond.selects RX1 yX1_spans yX1_spans ∈ GW := List.mem_filter.mpr ⟨List.mem_of_getElem? (i := 376) (by decide +kernel), by decide +kernel⟩
theorem mc_X1_isThere : Cond.code yX1_isThere cX1_isThere 2 (some .boolean) ∈ GW := List.mem_filter.mpr ⟨List.mem_of_getElem? (i := 91) (by decide +kernel), by decide +kernel⟩
theorem mi_X1_isThere : Cond.instanceMethod yX1_isThere ∈ GW := List.mem_filter.mpr ⟨List.mem_of_getElem? (i := 89) (by decide +kernel), by decide +kernel⟩
theorem ms_X1_isThere : Cond.selects RX1 yX1_isThere yX1_isThere ∈ GW := List.mem_filter.mpr ⟨List.mem_of_getElem? (i := 90) (by decide +kernel), by decide +kernel⟩
theorem mc_X1_base : Cond.code yX1_base cX1_base 2 (some .int) ∈ GW := List.mem_filter.mpr ⟨List.mem_of_getElem? (i := 385) (by decide +kernel), by decide +kernel⟩
theorem mi_X1_base : Cond.instanceMethod yX1_base ∈ GW := List.mem_filter.mpr ⟨List.mem_of_getElem? (i := 383) (by decide +kernel), by decide +kernel⟩
theorem ms_X1_base : Cond.selects RX1 yX1_base yX1_base ∈ GW := List.mem_filter.mpr ⟨List.mem_of_getElem? (i := 384) (by decide +kernel), by decide +kernel⟩
theorem mc_X1_size : Cond.code yX1_size cX1_size 2 (some .int) ∈ GW := List.mem_filter.mpr ⟨List.mem_of_getElem? (i := 389) (by decide +kernel), by decide +kernel⟩
theorem mi_X1_size : Cond.instanceMethod yX1_size ∈ GW := List.mem_filter.mpr ⟨List.mem_of_getElem? (i := 387) (by decide +kernel), by decide +kernel⟩
theorem ms_X1_size : Cond.selects RX1 yX1_size yX1_size ∈ GW := List.mem_filter.mpr ⟨List.mem_of_getElem? (i := 388) (by decide +kernel), by decide +kernel⟩
theorem mc_X1_parent : Cond.code yX1_parent cX1_parent 3 (some .int) ∈ GW := List.mem_filter.mpr ⟨List.mem_of_getElem? (i := 404) (by decide +kernel), by decide +kernel⟩
theorem mi_X1_parent : Cond.instanceMethod yX1_parent ∈ GW := List.mem_filter.mpr ⟨List.mem_of_getElem? (i := 402) (by decide +kernel), by decide +kernel⟩
theorem ms_X1_parent : Cond.selects RX1 yX1_parent yX1_parent ∈ GW := List.mem_filter.mpr ⟨List.mem_of_getElem? (i := 403) (by decide +kernel), by decide +kernel⟩
theorem mc_X1_free : Cond.code yX1_free cX1_free 3 (some .int) ∈ GW := List.mem_filter.mpr ⟨List.mem_of_getElem? (i := 393) (by decide +kernel), by decide +kernel⟩
theorem mi_X1_free : Cond.instanceMethod yX1_free ∈ GW := List.mem_filter.mpr ⟨List.mem_of_getElem? (i := 391) (by decide +kernel), by decide +kernel⟩
theorem ms_X1_free : Cond.selects RX1 yX1_free yX1_free ∈ GW := List.mem_filter.mpr ⟨List.mem_of_getElem? (i := 392) (by decide +kernel), by decide +kernel⟩
theorem mc_X1_greatestFree : Cond.code yX1_greatestFree cX1_greatestFree 5 (some .int) ∈ GW := List.mem_filter.mpr ⟨List.mem_of_getElem? (i := 411) (by decide +kernel), by decide +kernel⟩
theorem mi_X1_greatestFree : Cond.instanceMethod yX1_greatestFree ∈ GW := List.mem_filter.mpr ⟨List.mem_of_getElem? (i := 409) (by decide +kernel), by decide +kernel⟩
theorem ms_X1_greatestFree : Cond.selects RX1 yX1_greatestFree yX1_greatestFree ∈ GW := List.mem_filter.mpr ⟨List.mem_of_getElem? (i := 410) (by decide +kernel), by decide +kernel⟩
theorem mc_X1_inTheWay : Cond.code yX1_inTheWay cX1_inTheWay 8 (some .int) ∈ GW := List.mem_filter.mpr ⟨List.mem_of_getElem? (i := 415) (by decide +kernel), by decide +kernel⟩
theorem mi_X1_inTheWay : Cond.instanceMethod yX1_inTheWay ∈ GW := List.mem_filter.mpr ⟨List.mem_of_getElem? (i := 413) (by decide +kernel), by decide +kernel⟩
theorem ms_X1_inTheWay : Cond.selects RX1 yX1_inTheWay yX1_inTheWay ∈ GW := List.mem_filter.mpr ⟨List.mem_of_getElem? (i := 414) (by decide +kernel), by decide +kernel⟩
theorem mc_X1_lent : Cond.code yX1_lent cX1_lent 1 (some .int) ∈ GW := List.mem_filter.mpr ⟨List.mem_of_getElem? (i := 381) (by decide +kernel), by decide +kernel⟩
theorem mi_X1_lent : Cond.instanceMethod yX1_lent ∈ GW := List.mem_filter.mpr ⟨List.mem_of_getElem? (i := 379) (by decide +kernel), by decide +kernel⟩
theorem ms_X1_lent : Cond.selects RX1 yX1_lent yX1_lent ∈ GW := List.mem_filter.mpr ⟨List.mem_of_getElem? (i := 380) (by decide +kernel), by decide +kernel⟩
theorem mc_X1_nearest : Cond.code yX1_nearest cX1_nearest 5 (some .int) ∈ GW := List.mem_filter.mpr ⟨List.mem_of_getElem? (i := 441) (by decide +kernel), by decide +kernel⟩
theorem mi_X1_nearest : Cond.instanceMethod yX1_nearest ∈ GW := List.mem_filter.mpr ⟨List.mem_of_getElem? (i := 439) (by decide +kernel), by decide +kernel⟩
theorem ms_X1_nearest : Cond.selects RX1 yX1_nearest yX1_nearest ∈ GW := List.mem_filter.mpr ⟨List.mem_of_getElem? (i := 440) (by decide +kernel), by decide +kernel⟩
theorem mc_X1_nearestByRow : Cond.code yX1_nearestByRow cX1_nearestByRow 2 (some .int) ∈ GW := List.mem_filter.mpr ⟨List.mem_of_getElem? (i := 445) (by decide +kernel), by decide +kernel⟩
theorem mi_X1_nearestByRow : Cond.instanceMethod yX1_nearestByRow ∈ GW := List.mem_filter.mpr ⟨List.mem_of_getElem? (i := 443) (by decide +kernel), by decide +kernel⟩
theorem ms_X1_nearestByRow : Cond.selects RX1 yX1_nearestByRow yX1_nearestByRow ∈ GW := List.mem_filter.mpr ⟨List.mem_of_getElem? (i := 444) (by decide +kernel), by decide +kernel⟩
theorem mc_X1_owned : Cond.code yX1_owned cX1_owned 7 (some .int) ∈ GW := List.mem_filter.mpr ⟨List.mem_of_getElem? (i := 422) (by decide +kernel), by decide +kernel⟩
theorem mi_X1_owned : Cond.instanceMethod yX1_owned ∈ GW := List.mem_filter.mpr ⟨List.mem_of_getElem? (i := 420) (by decide +kernel), by decide +kernel⟩
theorem ms_X1_owned : Cond.selects RX1 yX1_owned yX1_owned ∈ GW := List.mem_filter.mpr ⟨List.mem_of_getElem? (i := 421) (by decide +kernel), by decide +kernel⟩
theorem mc_X1_blocks : Cond.code yX1_blocks cX1_blocks 6 (some .int) ∈ GW := List.mem_filter.mpr ⟨List.mem_of_getElem? (i := 426) (by decide +kernel), by decide +kernel⟩
theorem mi_X1_blocks : Cond.instanceMethod yX1_blocks ∈ GW := List.mem_filter.mpr ⟨List.mem_of_getElem? (i := 424) (by decide +kernel), by decide +kernel⟩
theorem ms_X1_blocks : Cond.selects RX1 yX1_blocks yX1_blocks ∈ GW := List.mem_filter.mpr ⟨List.mem_of_getElem? (i := 425) (by decide +kernel), by decide +kernel⟩
theorem mc_X1_findSpan : Cond.code yX1_findSpan cX1_findSpan 2 (some (.object "PrefixYard$Span")) ∈ GW := List.mem_filter.mpr ⟨List.mem_of_getElem? (i := 95) (by decide +kernel), by decide +kernel⟩
theorem mi_X1_findSpan : Cond.instanceMethod yX1_findSpan ∈ GW := List.mem_filter.mpr ⟨List.mem_of_getElem? (i := 94) (by decide +kernel), by decide +kernel⟩
theorem ms_X1_findSpan : Cond.selects RX1 yX1_findSpan yX1_findSpan ∈ GW := List.mem_filter.mpr ⟨List.mem_of_getElem? (i := 0) (by decide +kernel), by decide +kernel⟩
theorem mc_X1_spanOf : Cond.code yX1_spanOf cX1_spanOf 3 (some (.object "PrefixYard$Span")) ∈ GW := List.mem_filter.mpr ⟨List.mem_of_getElem? (i := 119) (by decide +kernel), by decide +kernel⟩
theorem mi_X1_spanOf : Cond.instanceMethod yX1_spanOf ∈ GW := List.mem_filter.mpr ⟨List.mem_of_getElem? (i := 118) (by decide +kernel), by decide +kernel⟩
theorem ms_X1_spanOf : Cond.selects RX1 yX1_spanOf yX1_spanOf ∈ GW := List.mem_filter.mpr ⟨List.mem_of_getElem? (i := 1) (by decide +kernel), by decide +kernel⟩
theorem mc_X1_isAddress : Cond.code yX1_isAddress cX1_isAddress 1 (some .boolean) ∈ GW := List.mem_filter.mpr ⟨List.mem_of_getElem? (i := 243) (by decide +kernel), by decide +kernel⟩
theorem mt_X1_isAddress : Cond.static yX1_isAddress ∈ GW := List.mem_filter.mpr ⟨List.mem_of_getElem? (i := 242) (by decide +kernel), by decide +kernel⟩
theorem mc_X1_checkAddress : Cond.code yX1_checkAddress cX1_checkAddress 1 none ∈ GW := List.mem_filter.mpr ⟨List.mem_of_getElem? (i := 354) (by decide +kernel), by decide +kernel⟩
theorem mt_X1_checkAddress : Cond.static yX1_checkAddress ∈ GW := List.mem_filter.mpr ⟨List.mem_of_getElem? (i := 353) (by decide +kernel), by decide +kernel⟩
theorem mc_X1_checkSize : Cond.code yX1_checkSize cX1_checkSize 1 none ∈ GW := List.mem_filter.mpr ⟨List.mem_of_getElem? (i := 190) (by decide +kernel), by decide +kernel⟩
theorem mt_X1_checkSize : Cond.static yX1_checkSize ∈ GW := List.mem_filter.mpr ⟨List.mem_of_getElem? (i := 189) (by decide +kernel), by decide +kernel⟩
theorem mc_X1_checkOwner : Cond.code yX1_checkOwner cX1_checkOwner 1 none ∈ GW := List.mem_filter.mpr ⟨List.mem_of_getElem? (i := 209) (by decide +kernel), by decide +kernel⟩
theorem mt_X1_checkOwner : Cond.static yX1_checkOwner ∈ GW := List.mem_filter.mpr ⟨List.mem_of_getElem? (i := 208) (by decide +kernel), by decide +kernel⟩
theorem mc_X1_checkCarving : Cond.code yX1_checkCarving cX1_checkCarving 3 none ∈ GW := List.mem_filter.mpr ⟨List.mem_of_getElem? (i := 215) (by decide +kernel), by decide +kernel⟩
theorem mi_X1_checkCarving : Cond.instanceMethod yX1_checkCarving ∈ GW := List.mem_filter.mpr ⟨List.mem_of_getElem? (i := 214) (by decide +kernel), by decide +kernel⟩
theorem ms_X1_checkCarving : Cond.selects RX1 yX1_checkCarving yX1_checkCarving ∈ GW := List.mem_filter.mpr ⟨List.mem_of_getElem? (i := 3) (by decide +kernel), by decide +kernel⟩
theorem mc_X1_makeSpan : Cond.code yX1_makeSpan cX1_makeSpan 6 (some .int) ∈ GW := List.mem_filter.mpr ⟨List.mem_of_getElem? (i := 286) (by decide +kernel), by decide +kernel⟩
theorem mi_X1_makeSpan : Cond.instanceMethod yX1_makeSpan ∈ GW := List.mem_filter.mpr ⟨List.mem_of_getElem? (i := 285) (by decide +kernel), by decide +kernel⟩
theorem ms_X1_makeSpan : Cond.selects RX1 yX1_makeSpan yX1_makeSpan ∈ GW := List.mem_filter.mpr ⟨List.mem_of_getElem? (i := 11) (by decide +kernel), by decide +kernel⟩
theorem mc_X1_childAt : Cond.code yX1_childAt cX1_childAt 7 (some (.object "PrefixYard$Span")) ∈ GW := List.mem_filter.mpr ⟨List.mem_of_getElem? (i := 267) (by decide +kernel), by decide +kernel⟩
theorem mi_X1_childAt : Cond.instanceMethod yX1_childAt ∈ GW := List.mem_filter.mpr ⟨List.mem_of_getElem? (i := 266) (by decide +kernel), by decide +kernel⟩
theorem ms_X1_childAt : Cond.selects RX1 yX1_childAt yX1_childAt ∈ GW := List.mem_filter.mpr ⟨List.mem_of_getElem? (i := 9) (by decide +kernel), by decide +kernel⟩
theorem mc_X1_countChildren : Cond.code yX1_countChildren cX1_countChildren 9 (some .int) ∈ GW := List.mem_filter.mpr ⟨List.mem_of_getElem? (i := 227) (by decide +kernel), by decide +kernel⟩
theorem mi_X1_countChildren : Cond.instanceMethod yX1_countChildren ∈ GW := List.mem_filter.mpr ⟨List.mem_of_getElem? (i := 226) (by decide +kernel), by decide +kernel⟩
theorem ms_X1_countChildren : Cond.selects RX1 yX1_countChildren yX1_countChildren ∈ GW := List.mem_filter.mpr ⟨List.mem_of_getElem? (i := 6) (by decide +kernel), by decide +kernel⟩
theorem mc_X1_hasChildren : Cond.code yX1_hasChildren cX1_hasChildren 2 (some .boolean) ∈ GW := List.mem_filter.mpr ⟨List.mem_of_getElem? (i := 223) (by decide +kernel), by decide +kernel⟩
theorem mi_X1_hasChildren : Cond.instanceMethod yX1_hasChildren ∈ GW := List.mem_filter.mpr ⟨List.mem_of_getElem? (i := 222) (by decide +kernel), by decide +kernel⟩
theorem ms_X1_hasChildren : Cond.selects RX1 yX1_hasChildren yX1_hasChildren ∈ GW := List.mem_filter.mpr ⟨List.mem_of_getElem? (i := 5) (by decide +kernel), by decide +kernel⟩
theorem mc_X1_outsideChildren : Cond.code yX1_outsideChildren cX1_outsideChildren 7 (some .int) ∈ GW := List.mem_filter.mpr ⟨List.mem_of_getElem? (i := 397) (by decide +kernel), by decide +kernel⟩
theorem mi_X1_outsideChildren : Cond.instanceMethod yX1_outsideChildren ∈ GW := List.mem_filter.mpr ⟨List.mem_of_getElem? (i := 396) (by decide +kernel), by decide +kernel⟩
theorem ms_X1_outsideChildren : Cond.selects RX1 yX1_outsideChildren yX1_outsideChildren ∈ GW := List.mem_filter.mpr ⟨List.mem_of_getElem? (i := 13) (by decide +kernel), by decide +kernel⟩
theorem mc_X1_chosenBlock : Cond.code yX1_chosenBlock cX1_chosenBlock 11 (some .int) ∈ GW := List.mem_filter.mpr ⟨List.mem_of_getElem? (i := 263) (by decide +kernel), by decide +kernel⟩
theorem mi_X1_chosenBlock : Cond.instanceMethod yX1_chosenBlock ∈ GW := List.mem_filter.mpr ⟨List.mem_of_getElem? (i := 262) (by decide +kernel), by decide +kernel⟩
theorem ms_X1_chosenBlock : Cond.selects RX1 yX1_chosenBlock yX1_chosenBlock ∈ GW := List.mem_filter.mpr ⟨List.mem_of_getElem? (i := 8) (by decide +kernel), by decide +kernel⟩
theorem mc_X1_roomAt : Cond.code yX1_roomAt cX1_roomAt 8 (some .int) ∈ GW := List.mem_filter.mpr ⟨List.mem_of_getElem? (i := 275) (by decide +kernel), by decide +kernel⟩
theorem mi_X1_roomAt : Cond.instanceMethod yX1_roomAt ∈ GW := List.mem_filter.mpr ⟨List.mem_of_getElem? (i := 274) (by decide +kernel), by decide +kernel⟩
theorem ms_X1_roomAt : Cond.selects RX1 yX1_roomAt yX1_roomAt ∈ GW := List.mem_filter.mpr ⟨List.mem_of_getElem? (i := 10) (by decide +kernel), by decide +kernel⟩
theorem mc_X1_greatestBlock : Cond.code yX1_greatestBlock cX1_greatestBlock 4 (some .int) ∈ GW := List.mem_filter.mpr ⟨List.mem_of_getElem? (i := 281) (by decide +kernel), by decide +kernel⟩
theorem mt_X1_greatestBlock : Cond.static yX1_greatestBlock ∈ GW := List.mem_filter.mpr ⟨List.mem_of_getElem? (i := 280) (by decide +kernel), by decide +kernel⟩
theorem mc_X1_countBlocks : Cond.code yX1_countBlocks cX1_countBlocks 4 (some .int) ∈ GW := List.mem_filter.mpr ⟨List.mem_of_getElem? (i := 437) (by decide +kernel), by decide +kernel⟩
theorem mt_X1_countBlocks : Cond.static yX1_countBlocks ∈ GW := List.mem_filter.mpr ⟨List.mem_of_getElem? (i := 436) (by decide +kernel), by decide +kernel⟩
theorem mc_X1_countLent : Cond.code yX1_countLent cX1_countLent 5 (some .int) ∈ GW := List.mem_filter.mpr ⟨List.mem_of_getElem? (i := 240) (by decide +kernel), by decide +kernel⟩
theorem mi_X1_countLent : Cond.instanceMethod yX1_countLent ∈ GW := List.mem_filter.mpr ⟨List.mem_of_getElem? (i := 239) (by decide +kernel), by decide +kernel⟩
theorem ms_X1_countLent : Cond.selects RX1 yX1_countLent yX1_countLent ∈ GW := List.mem_filter.mpr ⟨List.mem_of_getElem? (i := 7) (by decide +kernel), by decide +kernel⟩
theorem mc_X1_lentInItself : Cond.code yX1_lentInItself cX1_lentInItself 2 (some .int) ∈ GW := List.mem_filter.mpr ⟨List.mem_of_getElem? (i := 219) (by decide +kernel), by decide +kernel⟩
theorem mi_X1_lentInItself : Cond.instanceMethod yX1_lentInItself ∈ GW := List.mem_filter.mpr ⟨List.mem_of_getElem? (i := 218) (by decide +kernel), by decide +kernel⟩
theorem ms_X1_lentInItself : Cond.selects RX1 yX1_lentInItself yX1_lentInItself ∈ GW := List.mem_filter.mpr ⟨List.mem_of_getElem? (i := 4) (by decide +kernel), by decide +kernel⟩
theorem mc_X1_lowestFree : Cond.code yX1_lowestFree cX1_lowestFree 3 (some .int) ∈ GW := List.mem_filter.mpr ⟨List.mem_of_getElem? (i := 343) (by decide +kernel), by decide +kernel⟩
theorem mi_X1_lowestFree : Cond.instanceMethod yX1_lowestFree ∈ GW := List.mem_filter.mpr ⟨List.mem_of_getElem? (i := 342) (by decide +kernel), by decide +kernel⟩
theorem ms_X1_lowestFree : Cond.selects RX1 yX1_lowestFree yX1_lowestFree ∈ GW := List.mem_filter.mpr ⟨List.mem_of_getElem? (i := 12) (by decide +kernel), by decide +kernel⟩
theorem mc_X1_layRow : Cond.code yX1_layRow cX1_layRow 6 none ∈ GW := List.mem_filter.mpr ⟨List.mem_of_getElem? (i := 430) (by decide +kernel), by decide +kernel⟩
theorem mi_X1_layRow : Cond.instanceMethod yX1_layRow ∈ GW := List.mem_filter.mpr ⟨List.mem_of_getElem? (i := 429) (by decide +kernel), by decide +kernel⟩
theorem ms_X1_layRow : Cond.selects RX1 yX1_layRow yX1_layRow ∈ GW := List.mem_filter.mpr ⟨List.mem_of_getElem? (i := 14) (by decide +kernel), by decide +kernel⟩
theorem mc_X1_laySpan : Cond.code yX1_laySpan cX1_laySpan 3 none ∈ GW := List.mem_filter.mpr ⟨List.mem_of_getElem? (i := 434) (by decide +kernel), by decide +kernel⟩
theorem mi_X1_laySpan : Cond.instanceMethod yX1_laySpan ∈ GW := List.mem_filter.mpr ⟨List.mem_of_getElem? (i := 433) (by decide +kernel), by decide +kernel⟩
theorem ms_X1_laySpan : Cond.selects RX1 yX1_laySpan yX1_laySpan ∈ GW := List.mem_filter.mpr ⟨List.mem_of_getElem? (i := 15) (by decide +kernel), by decide +kernel⟩
theorem mc_L_cell : Cond.code yL_cell cL_cell 2 (some .int) ∈ GW := List.mem_filter.mpr ⟨List.mem_of_getElem? (i := 98) (by decide +kernel), by decide +kernel⟩
theorem mt_L_cell : Cond.static yL_cell ∈ GW := List.mem_filter.mpr ⟨List.mem_of_getElem? (i := 97) (by decide +kernel), by decide +kernel⟩
theorem mc_L_low : Cond.code yL_low cL_low 2 (some .int) ∈ GW := List.mem_filter.mpr ⟨List.mem_of_getElem? (i := 101) (by decide +kernel), by decide +kernel⟩
theorem mt_L_low : Cond.static yL_low ∈ GW := List.mem_filter.mpr ⟨List.mem_of_getElem? (i := 100) (by decide +kernel), by decide +kernel⟩
theorem mc_L_carve : Cond.codeWith yL_carve cL_carve 6 (some .int) [(0, 9, 10, 14), (0, 9, 15, 17), (0, 9, 20, 19)] ∈ GW := List.mem_filter.mpr ⟨List.mem_of_getElem? (i := 108) (by decide +kernel), by decide +kernel⟩
theorem mt_L_carve : Cond.static yL_carve ∈ GW := List.mem_filter.mpr ⟨List.mem_of_getElem? (i := 107) (by decide +kernel), by decide +kernel⟩
theorem mc_L_carveAt : Cond.codeWith yL_carveAt cL_carveAt 6 (some .int) [(0, 9, 10, 14), (0, 9, 15, 17), (0, 9, 20, 19)] ∈ GW := List.mem_filter.mpr ⟨List.mem_of_getElem? (i := 291) (by decide +kernel), by decide +kernel⟩
theorem mt_L_carveAt : Cond.static yL_carveAt ∈ GW := List.mem_filter.mpr ⟨List.mem_of_getElem? (i := 290) (by decide +kernel), by decide +kernel⟩
theorem mc_L_remove : Cond.codeWith yL_remove cL_remove 3 (some .int) [(0, 5, 6, 14), (0, 5, 10, 19)] ∈ GW := List.mem_filter.mpr ⟨List.mem_of_getElem? (i := 300) (by decide +kernel), by decide +kernel⟩
theorem mt_L_remove : Cond.static yL_remove ∈ GW := List.mem_filter.mpr ⟨List.mem_of_getElem? (i := 299) (by decide +kernel), by decide +kernel⟩
theorem mc_L_grow : Cond.codeWith yL_grow cL_grow 3 (some .int) [(0, 5, 6, 14), (0, 5, 10, 19)] ∈ GW := List.mem_filter.mpr ⟨List.mem_of_getElem? (i := 308) (by decide +kernel), by decide +kernel⟩
theorem mt_L_grow : Cond.static yL_grow ∈ GW := List.mem_filter.mpr ⟨List.mem_of_getElem? (i := 307) (by decide +kernel), by decide +kernel⟩
theorem mc_L_halve : Cond.codeWith yL_halve cL_halve 3 (some .int) [(0, 5, 6, 14), (0, 5, 10, 19)] ∈ GW := List.mem_filter.mpr ⟨List.mem_of_getElem? (i := 317) (by decide +kernel), by decide +kernel⟩
theorem mt_L_halve : Cond.static yL_halve ∈ GW := List.mem_filter.mpr ⟨List.mem_of_getElem? (i := 316) (by decide +kernel), by decide +kernel⟩
theorem mc_L_setOwner : Cond.codeWith yL_setOwner cL_setOwner 4 (some .int) [(0, 6, 7, 14), (0, 6, 11, 17)] ∈ GW := List.mem_filter.mpr ⟨List.mem_of_getElem? (i := 326) (by decide +kernel), by decide +kernel⟩
theorem mt_L_setOwner : Cond.static yL_setOwner ∈ GW := List.mem_filter.mpr ⟨List.mem_of_getElem? (i := 325) (by decide +kernel), by decide +kernel⟩
theorem mc_L_lend : Cond.codeWith yL_lend cL_lend 4 (some .int) [(0, 6, 7, 14), (0, 6, 11, 17), (0, 6, 15, 19)] ∈ GW := List.mem_filter.mpr ⟨List.mem_of_getElem? (i := 333) (by decide +kernel), by decide +kernel⟩
theorem mt_L_lend : Cond.static yL_lend ∈ GW := List.mem_filter.mpr ⟨List.mem_of_getElem? (i := 332) (by decide +kernel), by decide +kernel⟩
theorem mc_L_takeBack : Cond.codeWith yL_takeBack cL_takeBack 3 (some .int) [(0, 5, 6, 14), (0, 5, 10, 19)] ∈ GW := List.mem_filter.mpr ⟨List.mem_of_getElem? (i := 347) (by decide +kernel), by decide +kernel⟩
theorem mt_L_takeBack : Cond.static yL_takeBack ∈ GW := List.mem_filter.mpr ⟨List.mem_of_getElem? (i := 346) (by decide +kernel), by decide +kernel⟩
theorem mc_L_pass : Cond.codeWith yL_pass cL_pass 3 (some .int) [(0, 5, 6, 17), (0, 5, 10, 19)] ∈ GW := List.mem_filter.mpr ⟨List.mem_of_getElem? (i := 359) (by decide +kernel), by decide +kernel⟩
theorem mt_L_pass : Cond.static yL_pass ∈ GW := List.mem_filter.mpr ⟨List.mem_of_getElem? (i := 358) (by decide +kernel), by decide +kernel⟩
theorem mc_L_act : Cond.code yL_act cL_act 5 (some .int) ∈ GW := List.mem_filter.mpr ⟨List.mem_of_getElem? (i := 105) (by decide +kernel), by decide +kernel⟩
theorem mt_L_act : Cond.static yL_act ∈ GW := List.mem_filter.mpr ⟨List.mem_of_getElem? (i := 104) (by decide +kernel), by decide +kernel⟩
theorem mc_L_areAlike : Cond.code yL_areAlike cL_areAlike 4 (some .boolean) ∈ GW := List.mem_filter.mpr ⟨List.mem_of_getElem? (i := 369) (by decide +kernel), by decide +kernel⟩
theorem mt_L_areAlike : Cond.static yL_areAlike ∈ GW := List.mem_filter.mpr ⟨List.mem_of_getElem? (i := 368) (by decide +kernel), by decide +kernel⟩
theorem mc_L_areSpansSo : Cond.code yL_areSpansSo cL_areSpansSo 8 (some .boolean) ∈ GW := List.mem_filter.mpr ⟨List.mem_of_getElem? (i := 400) (by decide +kernel), by decide +kernel⟩
theorem mt_L_areSpansSo : Cond.static yL_areSpansSo ∈ GW := List.mem_filter.mpr ⟨List.mem_of_getElem? (i := 399) (by decide +kernel), by decide +kernel⟩
theorem mc_L_areBlocksSo : Cond.code yL_areBlocksSo cL_areBlocksSo 6 (some .boolean) ∈ GW := List.mem_filter.mpr ⟨List.mem_of_getElem? (i := 407) (by decide +kernel), by decide +kernel⟩
theorem mt_L_areBlocksSo : Cond.static yL_areBlocksSo ∈ GW := List.mem_filter.mpr ⟨List.mem_of_getElem? (i := 406) (by decide +kernel), by decide +kernel⟩
theorem mc_L_areOwnersSo : Cond.code yL_areOwnersSo cL_areOwnersSo 6 (some .boolean) ∈ GW := List.mem_filter.mpr ⟨List.mem_of_getElem? (i := 418) (by decide +kernel), by decide +kernel⟩
theorem mt_L_areOwnersSo : Cond.static yL_areOwnersSo ∈ GW := List.mem_filter.mpr ⟨List.mem_of_getElem? (i := 417) (by decide +kernel), by decide +kernel⟩
theorem ob_i : Cond.instanceMethod objectInit ∈ GW := List.mem_filter.mpr ⟨List.mem_of_getElem? (i := 32) (by decide +kernel), by decide +kernel⟩
theorem ob_c : Cond.code objectInit ⟨#[0xb1]⟩ 1 none ∈ GW := List.mem_filter.mpr ⟨List.mem_of_getElem? (i := 33) (by decide +kernel), by decide +kernel⟩
theorem mm_t : Cond.static Lib.Math.min.name ∈ GW := List.mem_filter.mpr ⟨List.mem_of_getElem? (i := 277) (by decide +kernel), by decide +kernel⟩
theorem mm_c : Cond.code Lib.Math.min.name Lib.Math.min.code 2 (some .int) ∈ GW := List.mem_filter.mpr ⟨List.mem_of_getElem? (i := 278) (by decide +kernel), by decide +kernel⟩
end
section
/-! ints by their values -/
def zI (z : Int) : Int32 := Int32.ofInt z
theorem zI_add (a b : Int) : zI a + zI b = zI (a + b) := (Int32.ofInt_add a b).symm
theorem zI_sub (a b : Int) : zI a - zI b = zI (a - b) := (Int32.ofInt_sub a b).symm
theorem zI_mul (a b : Int) : zI a * zI b = zI (a * b) := (Int32.ofInt_mul a b).symm
theorem zI_neg (a : Int) : - zI a = zI (- a) := (Int32.ofInt_neg a).symm
theorem zI_self (x : Int32) : zI x.toInt = x := Int32.ofInt_toInt x
theorem zI_toInt {a : Int} (h : -2147483648 ≤ a ∧ a < 2147483648) : (zI a).toInt = a := Int32.toInt_ofInt_of_le (by omega) (by omega)
theorem zI_lt {a b : Int} (ha : -2147483648 ≤ a ∧ a < 2147483648) (hb : -2147483648 ≤ b ∧ b < 2147483648) : zI a < zI b ↔ a < b := by
  rw [Int32.lt_iff_toInt_lt, zI_toInt ha, zI_toInt hb]
theorem zI_le {a b : Int} (ha : -2147483648 ≤ a ∧ a < 2147483648) (hb : -2147483648 ≤ b ∧ b < 2147483648) : zI a ≤ zI b ↔ a ≤ b := by
  rw [Int32.le_iff_toInt_le, zI_toInt ha, zI_toInt hb]
theorem zI_eq {a b : Int} (ha : -2147483648 ≤ a ∧ a < 2147483648) (hb : -2147483648 ≤ b ∧ b < 2147483648) : zI a = zI b ↔ a = b := by
  rw [← Int32.toInt_inj, zI_toInt ha, zI_toInt hb]
theorem zI_0 : zI 0 = 0 := by decide
theorem zI_nat {a : Int} (h : 0 ≤ a ∧ a < 2147483648) : (zI a).toNatClampNeg = a.toNat := by
  show (zI a).toInt.toNat = a.toNat
  rw [zI_toInt (by omega)]
theorem zI_in {a : Int} {n : Nat} (h : 0 ≤ a ∧ a < n) (hn : n < 2147483648) : vp_in (zI a) n := by
  rw [vp_in_iff, zI_toInt (by omega)]
  omega
theorem zI_ofNat (n : Nat) : Int32.ofNat n = zI n := by
  show Int32.ofNat n = Int32.ofInt n
  rw [Int32.ofInt_eq_ofNat]
theorem zI_div {a b : Int} (ha : 0 ≤ a ∧ a < 2147483648) (hb : 0 < b ∧ b < 2147483648) : zI a / zI b = zI (a / b) := by
  have h1 : zI b ≠ -1 := by
    intro h
    have h2 := congrArg Int32.toInt h
    rw [zI_toInt (by omega)] at h2
    have h3 : (-1 : Int32).toInt = -1 := by decide
    omega
  have hd : 0 ≤ a / b ∧ a / b ≤ a := ⟨Int.ediv_nonneg (by omega) (by omega), Int.ediv_le_self _ (by omega)⟩
  rw [← Int32.toInt_inj, Int32.toInt_div_of_ne_right _ _ h1, zI_toInt (by omega), zI_toInt (by omega), zI_toInt (by omega), Int.tdiv_eq_ediv_of_nonneg (by omega)]
theorem zI_long {a : Int} (h : -2147483648 ≤ a ∧ a < 2147483648) : (zI a).toInt64 = Int64.ofInt a := by
  rw [← Int64.ofInt_int32ToInt, zI_toInt h]
/-! the memory: a number for a register and a place; the cells that it stands for -/
abbrev MT : Type := Nat → Nat → Int
abbrev CSt : Type := va_G × (Nat → ClassId) × (Nat → Nat)
abbrev St3 : Type := Nat × (Nat → Nat) × MT
def mst (T : MT) (r i : Nat) (v : Int) : MT := fun r' i' => if r' = r ∧ i' = i then v else T r' i'
theorem mst_eq (T : MT) (r i : Nat) (v : Int) : mst T r i v r i = v := by simp [mst]
theorem mst_ne {T : MT} {r i r' i' : Nat} {v : Int} (h : ¬ (r' = r ∧ i' = i)) : mst T r i v r' i' = T r' i' := by simp [mst, h]
theorem mst_r {T : MT} {r i r' i' : Nat} {v : Int} (h : r' ≠ r) : mst T r i v r' i' = T r' i' := mst_ne (fun q => h q.1)
theorem mst_i {T : MT} {r i r' i' : Nat} {v : Int} (h : i' ≠ i) : mst T r i v r' i' = T r' i' := mst_ne (fun q => h q.2)
def mkd (T : MT) (j : Nat) : Int := if T 1 j = 0 then -1 else j
def gO (ad : Nat → Nat) (x : Int) : Option Nat := if x < 0 then none else some (ad (x.toNat + 13))
def grf (ad : Nat → Nat) (x : Int) : Value := va_rf (gO ad x)
def cel (cs : CSt) (ad : Nat → Nat) (T : MT) (k : Nat) : va_E := match k with
  | 0 => .inr (1, [.ref (ad 13), .ref (ad 1), .int (zI (T 0 2)), .ref (ad 2), .int (zI (T 0 4)), .int (zI (T 0 5)), .ref (ad 3), .int (zI (T 0 7))])
  | 1 => .inl (cs.2.1 2, 60, .inr (.inr (.inr (.inr (fun j => gO ad (mkd T j))))))
  | 2 => .inl (cs.2.1 0, 4096, .inl (fun j => zI (T 2 j)))
  | 3 => .inl (cs.2.1 0, 4096, .inl (fun j => zI (T 3 j)))
  | 4 => .inl (cs.2.1 0, 0, .inl (fun _ => 0))
  | 5 => .inl (cs.2.1 0, 0, .inl (fun _ => 0))
  | 6 => .inl (cs.2.1 0, 0, .inl (fun _ => 0))
  | 7 => .inl (cs.2.1 0, 0, .inl (fun _ => 0))
  | 8 => .inl (cs.2.1 0, 0, .inl (fun _ => 0))
  | 9 => .inl (cs.2.1 0, 0, .inl (fun _ => 0))
  | 10 => .inl (cs.2.1 0, 0, .inl (fun _ => 0))
  | 11 => .inl (cs.2.1 0, 0, .inl (fun _ => 0))
  | 12 => .inl (cs.2.1 0, 0, .inl (fun _ => 0))
  | j + 13 => .inr (0, [.int (zI (T 13 j)), grf ad (T 14 j), .int (zI (T 15 j)), .int (zI (T 16 j)), .int (zI (T 17 j))])
theorem cel_reg {cs : CSt} {ad : Nat → Nat} {T T' : MT} (k : Nat) (hk : k < 13) (h : ∀ r i, r ≠ k → T' r i = T r i) (j : Nat) (hj : j ≠ k) : cel cs ad T' j = cel cs ad T j := by
  have hf : ∀ r, r ≠ k → T' r = T r := fun r hr => funext fun i => h r i hr
  match j, hj with
  | 0, hj => simp only [cel, hf 0 hj]
  | 1, hj => simp only [cel, mkd, hf 1 hj]
  | 2, hj => simp only [cel, hf 2 hj]
  | 3, hj => simp only [cel, hf 3 hj]
  | 4, hj => rfl
  | 5, hj => rfl
  | 6, hj => rfl
  | 7, hj => rfl
  | 8, hj => rfl
  | 9, hj => rfl
  | 10, hj => rfl
  | 11, hj => rfl
  | 12, hj => rfl
  | j + 13, hj => simp only [cel, hf 13 (by omega), hf 14 (by omega), hf 15 (by omega), hf 16 (by omega), hf 17 (by omega)]
theorem cel_span {cs : CSt} {ad : Nat → Nat} {T T' : MT} (n : Nat) (h : ∀ r i, ¬ (13 ≤ r ∧ i = n) → T' r i = T r i) (j : Nat) (hj : j ≠ n + 13) : cel cs ad T' j = cel cs ad T j := by
  have hf : ∀ r, r < 13 → T' r = T r := fun r hr => funext fun i => h r i (by omega)
  match j, hj with
  | 0, hj => simp only [cel, hf 0 (by omega)]
  | 1, hj => simp only [cel, mkd, hf 1 (by omega)]
  | 2, hj => simp only [cel, hf 2 (by omega)]
  | 3, hj => simp only [cel, hf 3 (by omega)]
  | 4, hj => rfl
  | 5, hj => rfl
  | 6, hj => rfl
  | 7, hj => rfl
  | 8, hj => rfl
  | 9, hj => rfl
  | 10, hj => rfl
  | 11, hj => rfl
  | 12, hj => rfl
  | j + 13, hj =>
    have hg : ∀ r, T' r j = T r j := fun r => h r j (by omega)
    simp only [cel, hg]
/-- the cells' numbers leave out 4 to 12 -/
def gI (i : Nat) : Nat := if i < 4 then i else i + 9
def gJ (k : Nat) : Nat := if k < 4 then k else k - 9
theorem gI_gJ {k : Nat} (h : k < 4 ∨ 13 ≤ k) : gI (gJ k) = k := by
  unfold gI gJ
  by_cases h1 : k < 4
  · rw [if_pos h1, if_pos h1]
  · rw [if_neg h1, if_neg (by omega)]; omega
theorem gJ_gI (i : Nat) : gJ (gI i) = i := by
  unfold gI gJ
  by_cases h1 : i < 4
  · rw [if_pos h1, if_pos h1]
  · rw [if_neg h1, if_neg (by omega)]; omega
theorem gI_ok {i np : Nat} (h13 : 13 ≤ np) (h : i < np - 9) : (gI i < 4 ∨ 13 ≤ gI i) ∧ gI i < np := by unfold gI; split <;> constructor <;> omega
theorem gJ_ok {k np : Nat} (h13 : 13 ≤ np) (h : (k < 4 ∨ 13 ≤ k) ∧ k < np) : gJ k < np - 9 := by have := h.1; have := h.2; unfold gJ; split <;> omega
def gW (cs : CSt) (np : Nat) (ad : Nat → Nat) (T : MT) : va_W := (List.range (np - 9)).map (fun i => (ad (gI i), cel cs ad T (gI i)))
theorem gW_len {cs : CSt} {np : Nat} {ad : Nat → Nat} {T : MT} : (gW cs np ad T).length = np - 9 := by simp [gW]
theorem gW_at {cs : CSt} {np : Nat} {ad : Nat → Nat} {T : MT} {i : Nat} (h : i < np - 9) : (gW cs np ad T)[i]? = some (ad (gI i), cel cs ad T (gI i)) := by
  simp [gW, h]
theorem gW_get {cs : CSt} {np : Nat} {ad : Nat → Nat} {T : MT} {k : Nat} (h : 13 ≤ np ∧ (k < 4 ∨ 13 ≤ k) ∧ k < np) : (gW cs np ad T)[gJ k]? = some (ad k, cel cs ad T k) := by
  rw [gW_at (gJ_ok h.1 h.2), gI_gJ h.2.1]
theorem gW_set {cs : CSt} {np : Nat} {ad : Nat → Nat} {T T' : MT} {k : Nat} {x : va_E} (h : 13 ≤ np ∧ (k < 4 ∨ 13 ≤ k) ∧ k < np) (hx : cel cs ad T' k = x) (ho : ∀ j, j ≠ k → cel cs ad T' j = cel cs ad T j) : (gW cs np ad T).set (gJ k) (ad k, x) = gW cs np ad T' := by
  subst hx
  refine List.ext_getElem? fun j => ?_
  by_cases hj : j = gJ k
  · subst hj
    rw [List.getElem?_set_self (by rw [gW_len]; exact gJ_ok h.1 h.2), gW_get h]
  · rw [List.getElem?_set_ne (Ne.symm hj)]
    by_cases hn : j < np - 9
    · rw [gW_at hn, gW_at hn, ho (gI j) (fun q => hj (by rw [← q, gJ_gI]))]
    · rw [List.getElem?_eq_none (by rw [gW_len]; omega), List.getElem?_eq_none (by rw [gW_len]; omega)]
def gTy (cs : CSt) : List (ClassId × FieldType) := [(cs.2.1 0, .int), (cs.2.1 2, .object RX0)]
def gStr : List (Nat × String) := [(180, "no such span"), (185, "the size is not 1 to 2048, or no power of 2"), (187, "the owner is not 0 to 7"), (56, "the way is not 0 to 2"), (189, "nothing of the size can be carved in the span"), (71, "no free block of the size"), (191, "60 spans were made"), (82, "the base is below 0 or no multiple of the size"), (92, "no such free block"), (112, "the span cannot be removed"), (117, "the span cannot be doubled in its parent"), (119, "another span is in the way"), (121, "the whole, or a single address"), (123, "the second half is in use"), (128, "the days are not 0 to 100"), (130, "200 are lent, or there are spans in the span"), (139, "no address of the span is free"), (183, "no such address"), (144, "the address is not lent"), (146, "the days are not 1 to 1000"), (149, "the day would be above 100000")]
def gBd : List Cond := [.castable "java/lang/IndexOutOfBoundsException" "java/lang/IndexOutOfBoundsException", .castable "java/lang/IllegalArgumentException" "java/lang/IllegalArgumentException", .castable "java/lang/IllegalStateException" "java/lang/IllegalStateException", .declares ⟨"java/lang/RuntimeException", "<init>", "(Ljava/lang/String;)V"⟩, .declares ⟨"java/lang/Exception", "<init>", "(Ljava/lang/String;)V"⟩, .declares ⟨"java/lang/Throwable", "<init>", "(Ljava/lang/String;)V"⟩]
def gNc : List (String × String) := [("java/lang/IllegalArgumentException", "java/lang/IndexOutOfBoundsException"), ("java/lang/IllegalStateException", "java/lang/IndexOutOfBoundsException"), ("java/lang/IllegalStateException", "java/lang/IllegalArgumentException")]
def gX (cs : CSt) (A : Nat → Prop) (U : State) (H : Heap) : Prop := vx_Zq Bundle.tN "UNASSIGNED_STACK" Bundle.steD A U H ∧ vx_Zq Bundle.tN "SUPPRESSED_SENTINEL" Bundle.listD A U H ∧ (∀ q ∈ gStr, vk_R RX1 q.1 q.2 (cs.2.2 q.1) U) ∧ (∀ w ∈ gBd, va_Nw w U) ∧ ∀ q ∈ gNc, va_Nc q.1 q.2 U
theorem gBd_ot : ∀ w ∈ gBd, w.onTables = true := by decide
theorem gBd_warm {s U : State} (hW : s.WarmedH U.vm) (h : ∀ w ∈ gBd, va_Nw w s) : ∀ w ∈ gBd, va_Nw w U := by
  intro w hw
  have h1 := h w hw
  simp only [gBd, List.mem_cons, List.not_mem_nil, or_false] at hw
  rcases hw with rfl | rfl | rfl | rfl | rfl | rfl
  · exact va_Nw.warmC hW h1
  · exact va_Nw.warmC hW h1
  · exact va_Nw.warmC hW h1
  · exact va_Nw.warmD hW h1
  · exact va_Nw.warmD hW h1
  · exact va_Nw.warmD hW h1
def gB (cs : CSt) (np : Nat) (ad : Nat → Nat) (T : MT) (sz : Nat) (U : State) : Prop := U.heap.size = sz ∧ va_P cs.1 vwCl (gW cs np ad T) U.heap ∧ va_K cs.1 vwCl (gTy cs) U ∧ va_D (fun _ => True) (gW cs np ad T) ∧ gX cs (va_A (gW cs np ad T) sz) U U.heap
def gE (cs : CSt) (A : Nat → Prop) (u : St3) (t : State) : Prop := va_P cs.1 vwCl (gW cs u.1 u.2.1 u.2.2) t.heap ∧ va_D A (gW cs u.1 u.2.1 u.2.2)
def gQ (cs : CSt) (A : Nat → Prop) (PR : Option Value → St3 → Prop) : Array Value → State → Outcome → State → Prop := fun _ s o t => (∃ v u, o = .returned v ∧ PR v u ∧ gE cs A u t) ∧ va_F A s t
def gXC (cs : CSt) (A : Nat → Prop) (PX : String → St3 → Prop) : String → State → State → Prop := fun E s t => ∃ u, PX E u ∧ gE cs A u t ∧ va_F A s t
def rmL (d mc ms : Nat) : Room := { frames := d, cells := mc, slots := ms, locals := 40 * d }
def KC (l : Launch) (cs : CSt) (y : MethodName) (ws : List Cond) (d mc ms : Nat) (av : List Value) (np : Nat) (ad : Nat → Nat) (T : MT) (PR : Option Value → St3 → Prop) (PX : String → St3 → Prop) : Prop :=
  l.stackTraces = false → ∀ sz, vx_Met l y ws (rmL d mc ms) (va_Pc av (gB cs np ad T sz)) (gQ cs (va_A (gW cs np ad T) sz) PR) (gXC cs (va_A (gW cs np ad T) sz) PX) mc ms (va_A (gW cs np ad T) sz)
def gl (ls : Array Slot) (nL : Nat) (lv : List (Option Value)) : Prop := ls.size = nL ∧ lv_wf ls ∧ lv.length = nL ∧ ∀ (i : Nat) (v : Value), lv[i]? = some (some v) → ls[i]? = some (.val v) ∧ v.category = 1
def glp (nL : Nat) (lv : List (Option Value)) : List (Nat × Value) := (List.range nL).filterMap (fun i => (lv[i]?).join.map (fun v => (i, v)))
theorem glp_mem {nL : Nat} {lv : List (Option Value)} {i : Nat} {v : Value} : (i, v) ∈ glp nL lv ↔ i < nL ∧ lv[i]? = some (some v) := by
  unfold glp
  rw [List.mem_filterMap]
  constructor
  · rintro ⟨j, hj, h⟩
    rw [List.mem_range] at hj
    cases hq : lv[j]? with
    | none => rw [hq] at h; cases h
    | some o =>
      cases o with
      | none => rw [hq] at h; cases h
      | some w =>
        rw [hq] at h
        cases h
        exact ⟨hj, hq⟩
  · rintro ⟨hi, h⟩
    exact ⟨i, List.mem_range.mpr hi, by rw [h]; rfl⟩
theorem gl_has {ls : Array Slot} {nL : Nat} {lv : List (Option Value)} (h : gl ls nL lv) : lv_has ls nL (glp nL lv) := by
  refine ⟨h.1, h.2.1, fun q hq => ?_⟩
  obtain ⟨i, v⟩ := q
  exact (h.2.2.2 i v (glp_mem.mp hq).2).1
theorem gl_at {ls : Array Slot} {nL : Nat} {lv : List (Option Value)} (h : gl ls nL lv) {i : Nat} {v : Value} (hi : lv[i]? = some (some v)) : ls[i]? = some (.val v) := (h.2.2.2 i v hi).1
theorem gl_back {ls ls' : Array Slot} {nL i : Nat} {lv : List (Option Value)} {v : Value} {l' : List (Nat × Value)} (h : gl ls nL lv) (hv : v.category = 1) (h' : lv_has ls' nL ((i, v) :: l'.filter (fun q => !(q.1 == i) && !(q.1 + 1 == i && q.2.category == 2)))) (hl : ∀ q ∈ glp nL lv, q ∈ l') : gl ls' nL (lv.set i (some v)) := by
  refine ⟨h'.1, h'.2.1, by rw [List.length_set]; exact h.2.2.1, fun j w hj => ?_⟩
  by_cases e : i = j
  · subst e
    have hlt : i < lv.length := by
      have h9 := (List.getElem?_eq_some_iff.mp hj).1
      rw [List.length_set] at h9
      exact h9
    rw [List.getElem?_set_self hlt] at hj
    cases hj
    exact ⟨h'.2.2 (i, v) List.mem_cons_self, hv⟩
  · rw [List.getElem?_set_ne e] at hj
    have hc := (h.2.2.2 j w hj).2
    have hlt : j < nL := by
      have h9 := (List.getElem?_eq_some_iff.mp hj).1
      rw [h.2.2.1] at h9
      exact h9
    refine ⟨h'.2.2 (j, w) (List.mem_cons_of_mem _ (List.mem_filter.mpr ⟨hl _ (glp_mem.mpr ⟨hlt, hj⟩), ?_⟩)), hc⟩
    have e2 : ¬ j = i := fun q => e q.symm
    simp [e2, hc]
theorem lv_args_mem : ∀ (vs : List Value) (o i : Nat) (v : Value), (∀ w ∈ vs, w.category = 1) → vs[i]? = some v → (o + i, v) ∈ lv_args o vs
  | [], _, _, _, _, h => by simp at h
  | a :: r, o, i, v, hc, h => by
    have ha : a.category = 1 := hc a List.mem_cons_self
    cases i with
    | zero =>
      rw [List.getElem?_cons_zero] at h
      cases h
      simp [lv_args]
    | succ i =>
      rw [List.getElem?_cons_succ] at h
      have := lv_args_mem r (o + 1) i v (fun w hw => hc w (List.mem_cons_of_mem _ hw)) h
      simp only [lv_args, ha]
      refine List.mem_cons_of_mem _ ?_
      rw [show o + (i + 1) = o + 1 + i by omega]
      exact this
theorem lg_sl_len (vs : List Value) (hc : ∀ w ∈ vs, w.category = 1) : (lg_sl vs).length = vs.length := by
  induction vs with
  | nil => rfl
  | cons a r ih =>
    have ha : a.category = 1 := hc a List.mem_cons_self
    have h2 := ih (fun w hw => hc w (List.mem_cons_of_mem _ hw))
    unfold lg_sl at h2 ⊢
    rw [List.flatMap_cons, List.length_append, h2]
    simp [ha]
    omega
theorem gl_entry (vs : List Value) {n : Nat} (hc : ∀ w ∈ vs, w.category = 1) (hn : vs.length ≤ n) : gl ((lg_sl vs ++ List.replicate (n - (lg_sl vs).length) Slot.unset).toArray) n (vs.map some ++ List.replicate (n - vs.length) none) := by
  have h := lv_entry vs (n := n) (by rw [lg_sl_len vs hc]; exact hn)
  refine ⟨h.1, h.2.1, by simp; omega, fun i v hi => ?_⟩
  have hi2 : vs[i]? = some v := by
    by_cases hl : i < vs.length
    · rw [List.getElem?_append_left (by simp; exact hl), List.getElem?_map] at hi
      cases hq : vs[i]? with
      | none => rw [hq] at hi; cases hi
      | some w => rw [hq] at hi; cases hi; rfl
    · rw [List.getElem?_append_right (by simp; omega)] at hi
      rw [List.getElem?_replicate] at hi
      split at hi <;> cases hi
  refine ⟨h.2.2 (i, v) ?_, hc v (List.mem_of_getElem? hi2)⟩
  have := lv_args_mem vs 0 i v hc hi2
  rw [Nat.zero_add] at this
  exact this
end
section
/-- the method's own frame, its world and the tables -/
def gC (p : Program) (l : Launch) (s : State) (m : MethodId) (args : Array Value) (meth : Method) (c : Code) (cs : CSt) (A : Nat → Prop) (nL : Nat) (cc : ByteArray) (own : String) (rt : Option FieldType) : Prop :=
  p.tables.exec = Jvm.exec ∧ c.code = cc ∧ c.maxLocals = nL ∧ s.vm.findClass own = some m.cls ∧ (∀ w ∈ GW, w.before args s = true) ∧ meth.locks = false ∧ va_K cs.1 vwCl (gTy cs) s ∧ (∀ q, s.heap.size ≤ q → A q) ∧ gX cs A s s.heap ∧ l.stackTraces = false ∧ meth.sig.returnType = rt
def GG (p : Program) (l : Launch) (e : Env) (R : Room) (s : State) (m : MethodId) (args : Array Value) (below : List Frame) (meth : Method) (c : Code) (Q : State → Prop) (cs : CSt) (A : Nat → Prop) (nL : Nat) (k n np : Nat) (ad : Nat → Nat) (T : MT) (pc : Nat) (lv : List (Option Value)) (st : List Value) : Prop :=
  ∀ (H : Heap) (locs : List Loc) (ls : Array Slot), va_P cs.1 vwCl (gW cs np ad T) H → va_D A (gW cs np ad T) → va_S A s.heap H locs → gl ls nL lv → W p l e R s m args below meth c H locs k n Q (F0 m pc ls st)
section
variable {p : Program} {l : Launch} {e : Env} {R : Room} {s : State} {m : MethodId} {args : Array Value} {below : List Frame} {meth : Method} {c : Code} {Q : State → Prop} {cs : CSt} {A : Nat → Prop} {nL : Nat}
variable {cc : ByteArray} {own : String} {rt : Option FieldType} {k n np : Nat} {ad : Nat → Nat} {T : MT} {pc : Nat} {lv : List (Option Value)} {st : List Value}
theorem g_iconst (C : gC p l s m args meth c cs A nL cc own rt) {v : Int} (d : decode cc pc = .ok (.iconst v, 1)) (kk : GG p l e R s m args below meth c Q cs A nL k n np ad T (pc + 1) lv (.int (zI v) :: st)) : GG p l e R s m args below meth c Q cs A nL k n np ad T pc lv st := fun H locs ls hP hD hS hl => lv_iconst C.1 C.2.1 d rfl (kk H locs ls hP hD hS hl)
theorem g_bipush (C : gC p l s m args meth c cs A nL cc own rt) {v : Int} (d : decode cc pc = .ok (.bipush v, 2)) (hv : (Int8.ofInt v).toInt32 = zI v) (kk : GG p l e R s m args below meth c Q cs A nL k n np ad T (pc + 2) lv (.int (zI v) :: st)) : GG p l e R s m args below meth c Q cs A nL k n np ad T pc lv st := fun H locs ls hP hD hS hl => lv_bipush C.1 C.2.1 d hv (kk H locs ls hP hD hS hl)
theorem g_sipush (C : gC p l s m args meth c cs A nL cc own rt) {v : Int} (d : decode cc pc = .ok (.sipush v, 3)) (hv : (Int16.ofInt v).toInt32 = zI v) (kk : GG p l e R s m args below meth c Q cs A nL k n np ad T (pc + 3) lv (.int (zI v) :: st)) : GG p l e R s m args below meth c Q cs A nL k n np ad T pc lv st := fun H locs ls hP hD hS hl => lv_sipush C.1 C.2.1 d hv (kk H locs ls hP hD hS hl)
theorem g_null (C : gC p l s m args meth c cs A nL cc own rt) (d : decode cc pc = .ok (.aconst_null, 1)) (kk : GG p l e R s m args below meth c Q cs A nL k n np ad T (pc + 1) lv (.null :: st)) : GG p l e R s m args below meth c Q cs A nL k n np ad T pc lv st := fun H locs ls hP hD hS hl => lv_null C.1 C.2.1 d (kk H locs ls hP hD hS hl)
theorem g_ldci (C : gC p l s m args meth c cs A nL cc own rt) {ix : Nat} {v : Int32} (d : decode cc pc = .ok (.ldc ix, 2)) (hw : Cond.constant own ix v ∈ GW) (kk : GG p l e R s m args below meth c Q cs A nL k n np ad T (pc + 2) lv (.int v :: st)) : GG p l e R s m args below meth c Q cs A nL k n np ad T pc lv st := fun H locs ls hP hD hS hl => lv_ldc C.1 C.2.1 C.2.2.2.1 (C.2.2.2.2.1 _ hw) d (kk H locs ls hP hD hS hl)
theorem g_iadd (C : gC p l s m args meth c cs A nL cc own rt) {a b : Int} (d : decode cc pc = .ok (.iadd, 1)) (kk : GG p l e R s m args below meth c Q cs A nL k n np ad T (pc + 1) lv (.int (zI (a + b)) :: st)) : GG p l e R s m args below meth c Q cs A nL k n np ad T pc lv (.int (zI b) :: .int (zI a) :: st) := fun H locs ls hP hD hS hl => lv_iadd C.1 C.2.1 d (by rw [zI_add]; exact kk H locs ls hP hD hS hl)
theorem g_isub (C : gC p l s m args meth c cs A nL cc own rt) {a b : Int} (d : decode cc pc = .ok (.isub, 1)) (kk : GG p l e R s m args below meth c Q cs A nL k n np ad T (pc + 1) lv (.int (zI (a - b)) :: st)) : GG p l e R s m args below meth c Q cs A nL k n np ad T pc lv (.int (zI b) :: .int (zI a) :: st) := fun H locs ls hP hD hS hl => lv_isub C.1 C.2.1 d (by rw [zI_sub]; exact kk H locs ls hP hD hS hl)
theorem g_imul (C : gC p l s m args meth c cs A nL cc own rt) {a b : Int} (d : decode cc pc = .ok (.imul, 1)) (kk : GG p l e R s m args below meth c Q cs A nL k n np ad T (pc + 1) lv (.int (zI (a * b)) :: st)) : GG p l e R s m args below meth c Q cs A nL k n np ad T pc lv (.int (zI b) :: .int (zI a) :: st) := fun H locs ls hP hD hS hl => lv_imul C.1 C.2.1 d (by rw [zI_mul]; exact kk H locs ls hP hD hS hl)
theorem g_ineg (C : gC p l s m args meth c cs A nL cc own rt) {a : Int} (d : decode cc pc = .ok (.ineg, 1)) (kk : GG p l e R s m args below meth c Q cs A nL k n np ad T (pc + 1) lv (.int (zI (-a)) :: st)) : GG p l e R s m args below meth c Q cs A nL k n np ad T pc lv (.int (zI a) :: st) := fun H locs ls hP hD hS hl => lv_ineg C.1 C.2.1 d (by rw [zI_neg]; exact kk H locs ls hP hD hS hl)
theorem g_idiv (C : gC p l s m args meth c cs A nL cc own rt) {a b : Int} (d : decode cc pc = .ok (.idiv, 1)) (ha : 0 ≤ a ∧ a < 2147483648) (hb : 0 < b ∧ b < 2147483648) (kk : GG p l e R s m args below meth c Q cs A nL k n np ad T (pc + 1) lv (.int (zI (a / b)) :: st)) : GG p l e R s m args below meth c Q cs A nL k n np ad T pc lv (.int (zI b) :: .int (zI a) :: st) := fun H locs ls hP hD hS hl => lv_idiv C.1 C.2.1 d (fun h => by rw [← zI_0, zI_eq (by omega) (by omega)] at h; omega) (by rw [zI_div ha hb]; exact kk H locs ls hP hD hS hl)
theorem g_irem (C : gC p l s m args meth c cs A nL cc own rt) {a b : Int} (d : decode cc pc = .ok (.irem, 1)) (ha : 0 ≤ a ∧ a < 2147483648) (hb : 0 < b ∧ b < 2147483648) (kk : GG p l e R s m args below meth c Q cs A nL k n np ad T (pc + 1) lv (.int (zI (a % b)) :: st)) : GG p l e R s m args below meth c Q cs A nL k n np ad T pc lv (.int (zI b) :: .int (zI a) :: st) := fun H locs ls hP hD hS hl => lv_irem C.1 C.2.1 d (fun h => by rw [← zI_0, zI_eq (by omega) (by omega)] at h; omega) (by rw [zI_div ha hb, zI_mul, zI_sub, show a - a / b * b = a % b from by rw [Int.emod_def, Int.mul_comm b]]; exact kk H locs ls hP hD hS hl)
theorem g_iand (C : gC p l s m args meth c cs A nL cc own rt) {x y : Int32} (d : decode cc pc = .ok (.iand, 1)) (kk : GG p l e R s m args below meth c Q cs A nL k n np ad T (pc + 1) lv (.int (x &&& y) :: st)) : GG p l e R s m args below meth c Q cs A nL k n np ad T pc lv (.int y :: .int x :: st) := fun H locs ls hP hD hS hl => lv_iand C.1 C.2.1 d (kk H locs ls hP hD hS hl)
theorem g_iandz (C : gC p l s m args meth c cs A nL cc own rt) {x y : Int32} {z : Int} (d : decode cc pc = .ok (.iand, 1)) (hz : x &&& y = zI z) (kk : GG p l e R s m args below meth c Q cs A nL k n np ad T (pc + 1) lv (.int (zI z) :: st)) : GG p l e R s m args below meth c Q cs A nL k n np ad T pc lv (.int y :: .int x :: st) := fun H locs ls hP hD hS hl => lv_iand C.1 C.2.1 d (by rw [hz]; exact kk H locs ls hP hD hS hl)
theorem g_i2l (C : gC p l s m args meth c cs A nL cc own rt) {a : Int} (d : decode cc pc = .ok (.i2l, 1)) (ha : -2147483648 ≤ a ∧ a < 2147483648) (kk : GG p l e R s m args below meth c Q cs A nL k n np ad T (pc + 1) lv (.long (Int64.ofInt a) :: st)) : GG p l e R s m args below meth c Q cs A nL k n np ad T pc lv (.int (zI a) :: st) := fun H locs ls hP hD hS hl => lv_i2l C.1 C.2.1 d (zI_long ha) (kk H locs ls hP hD hS hl)
theorem g_lconst (C : gC p l s m args meth c cs A nL cc own rt) {v : Fin 2} {z : Int64} (d : decode cc pc = .ok (.lconst v, 1)) (hz : Int64.ofNat (v : Nat) = z) (kk : GG p l e R s m args below meth c Q cs A nL k n np ad T (pc + 1) lv (.long z :: st)) : GG p l e R s m args below meth c Q cs A nL k n np ad T pc lv st := fun H locs ls hP hD hS hl => lv_lconst C.1 C.2.1 d hz (kk H locs ls hP hD hS hl)
theorem g_dup (C : gC p l s m args meth c cs A nL cc own rt) {v : Value} (d : decode cc pc = .ok (.dup, 1)) (hv : v.category = 1) (kk : GG p l e R s m args below meth c Q cs A nL k n np ad T (pc + 1) lv (v :: v :: st)) : GG p l e R s m args below meth c Q cs A nL k n np ad T pc lv (v :: st) := fun H locs ls hP hD hS hl => lv_dup C.1 C.2.1 d hv (kk H locs ls hP hD hS hl)
theorem g_dup2 (C : gC p l s m args meth c cs A nL cc own rt) {v w : Value} (d : decode cc pc = .ok (.dup2, 1)) (hv : v.category = 1) (hw : w.category = 1) (kk : GG p l e R s m args below meth c Q cs A nL k n np ad T (pc + 1) lv (v :: w :: v :: w :: st)) : GG p l e R s m args below meth c Q cs A nL k n np ad T pc lv (v :: w :: st) := fun H locs ls hP hD hS hl => lv_dup2_11 C.1 C.2.1 d hv hw (kk H locs ls hP hD hS hl)
theorem g_goto (C : gC p l s m args meth c cs A nL cc own rt) {off : Int} {tgt : Nat} (d : decode cc pc = .ok (.goto off, 3)) (ht : (pc : Int) + off = (tgt : Int)) (kk : GG p l e R s m args below meth c Q cs A nL k n np ad T tgt lv st) : GG p l e R s m args below meth c Q cs A nL k n np ad T pc lv st := fun H locs ls hP hD hS hl => lv_goto C.1 C.2.1 d ht (kk H locs ls hP hD hS hl)
theorem g_icmp_eq (C : gC p l s m args meth c cs A nL cc own rt) {a b off : Int} {tgt : Nat} (d : decode cc pc = .ok (.if_icmp .eq off, 3)) (ht : (pc : Int) + off = (tgt : Int)) (ha : -2147483648 ≤ a ∧ a < 2147483648) (hb : -2147483648 ≤ b ∧ b < 2147483648) (kt : a = b → GG p l e R s m args below meth c Q cs A nL k n np ad T tgt lv st) (kf : a ≠ b → GG p l e R s m args below meth c Q cs A nL k n np ad T (pc + 3) lv st) : GG p l e R s m args below meth c Q cs A nL k n np ad T pc lv (.int (zI b) :: .int (zI a) :: st) := fun H locs ls hP hD hS hl => lv_icmp_eq C.1 C.2.1 d ht (fun h => kt ((zI_eq ha hb).mp h) H locs ls hP hD hS hl) (fun h => kf (fun q => h ((zI_eq ha hb).mpr q)) H locs ls hP hD hS hl)
theorem g_if_eq (C : gC p l s m args meth c cs A nL cc own rt) {a off : Int} {tgt : Nat} (d : decode cc pc = .ok (.ifCond .eq off, 3)) (ht : (pc : Int) + off = (tgt : Int)) (ha : -2147483648 ≤ a ∧ a < 2147483648) (kt : a = 0 → GG p l e R s m args below meth c Q cs A nL k n np ad T tgt lv st) (kf : a ≠ 0 → GG p l e R s m args below meth c Q cs A nL k n np ad T (pc + 3) lv st) : GG p l e R s m args below meth c Q cs A nL k n np ad T pc lv (.int (zI a) :: st) := fun H locs ls hP hD hS hl => by
  have hb : (-2147483648 : Int) ≤ 0 ∧ (0 : Int) < 2147483648 := by decide
  exact lv_if_eq C.1 C.2.1 d ht (fun h => kt ((zI_eq (b := 0) ha hb).mp h) H locs ls hP hD hS hl) (fun h => kf (fun q => h ((zI_eq (b := 0) ha hb).mpr q)) H locs ls hP hD hS hl)
theorem g_icmp_ne (C : gC p l s m args meth c cs A nL cc own rt) {a b off : Int} {tgt : Nat} (d : decode cc pc = .ok (.if_icmp .ne off, 3)) (ht : (pc : Int) + off = (tgt : Int)) (ha : -2147483648 ≤ a ∧ a < 2147483648) (hb : -2147483648 ≤ b ∧ b < 2147483648) (kt : a ≠ b → GG p l e R s m args below meth c Q cs A nL k n np ad T tgt lv st) (kf : a = b → GG p l e R s m args below meth c Q cs A nL k n np ad T (pc + 3) lv st) : GG p l e R s m args below meth c Q cs A nL k n np ad T pc lv (.int (zI b) :: .int (zI a) :: st) := fun H locs ls hP hD hS hl => lv_icmp_ne C.1 C.2.1 d ht (fun h => kt (fun q => h ((zI_eq ha hb).mpr q)) H locs ls hP hD hS hl) (fun h => kf ((zI_eq ha hb).mp h) H locs ls hP hD hS hl)
theorem g_if_ne (C : gC p l s m args meth c cs A nL cc own rt) {a off : Int} {tgt : Nat} (d : decode cc pc = .ok (.ifCond .ne off, 3)) (ht : (pc : Int) + off = (tgt : Int)) (ha : -2147483648 ≤ a ∧ a < 2147483648) (kt : a ≠ 0 → GG p l e R s m args below meth c Q cs A nL k n np ad T tgt lv st) (kf : a = 0 → GG p l e R s m args below meth c Q cs A nL k n np ad T (pc + 3) lv st) : GG p l e R s m args below meth c Q cs A nL k n np ad T pc lv (.int (zI a) :: st) := fun H locs ls hP hD hS hl => by
  have hb : (-2147483648 : Int) ≤ 0 ∧ (0 : Int) < 2147483648 := by decide
  exact lv_if_ne C.1 C.2.1 d ht (fun h => kt (fun q => h ((zI_eq (b := 0) ha hb).mpr q)) H locs ls hP hD hS hl) (fun h => kf ((zI_eq (b := 0) ha hb).mp h) H locs ls hP hD hS hl)
theorem g_icmp_lt (C : gC p l s m args meth c cs A nL cc own rt) {a b off : Int} {tgt : Nat} (d : decode cc pc = .ok (.if_icmp .lt off, 3)) (ht : (pc : Int) + off = (tgt : Int)) (ha : -2147483648 ≤ a ∧ a < 2147483648) (hb : -2147483648 ≤ b ∧ b < 2147483648) (kt : a < b → GG p l e R s m args below meth c Q cs A nL k n np ad T tgt lv st) (kf : b ≤ a → GG p l e R s m args below meth c Q cs A nL k n np ad T (pc + 3) lv st) : GG p l e R s m args below meth c Q cs A nL k n np ad T pc lv (.int (zI b) :: .int (zI a) :: st) := fun H locs ls hP hD hS hl => lv_icmp_lt C.1 C.2.1 d ht (fun h => kt ((zI_lt ha hb).mp h) H locs ls hP hD hS hl) (fun h => kf (by have h2 := (not_congr (zI_lt ha hb)).mp h; omega) H locs ls hP hD hS hl)
theorem g_if_lt (C : gC p l s m args meth c cs A nL cc own rt) {a off : Int} {tgt : Nat} (d : decode cc pc = .ok (.ifCond .lt off, 3)) (ht : (pc : Int) + off = (tgt : Int)) (ha : -2147483648 ≤ a ∧ a < 2147483648) (kt : a < 0 → GG p l e R s m args below meth c Q cs A nL k n np ad T tgt lv st) (kf : 0 ≤ a → GG p l e R s m args below meth c Q cs A nL k n np ad T (pc + 3) lv st) : GG p l e R s m args below meth c Q cs A nL k n np ad T pc lv (.int (zI a) :: st) := fun H locs ls hP hD hS hl => by
  have hb : (-2147483648 : Int) ≤ 0 ∧ (0 : Int) < 2147483648 := by decide
  exact lv_if_lt C.1 C.2.1 d ht (fun h => kt ((zI_lt (b := 0) ha hb).mp h) H locs ls hP hD hS hl) (fun h => kf (by have h2 := (not_congr (zI_lt (b := 0) ha hb)).mp h; omega) H locs ls hP hD hS hl)
theorem g_icmp_ge (C : gC p l s m args meth c cs A nL cc own rt) {a b off : Int} {tgt : Nat} (d : decode cc pc = .ok (.if_icmp .ge off, 3)) (ht : (pc : Int) + off = (tgt : Int)) (ha : -2147483648 ≤ a ∧ a < 2147483648) (hb : -2147483648 ≤ b ∧ b < 2147483648) (kt : b ≤ a → GG p l e R s m args below meth c Q cs A nL k n np ad T tgt lv st) (kf : a < b → GG p l e R s m args below meth c Q cs A nL k n np ad T (pc + 3) lv st) : GG p l e R s m args below meth c Q cs A nL k n np ad T pc lv (.int (zI b) :: .int (zI a) :: st) := fun H locs ls hP hD hS hl => lv_icmp_ge C.1 C.2.1 d ht (fun h => kt ((zI_le hb ha).mp h) H locs ls hP hD hS hl) (fun h => kf (by have h2 := (not_congr (zI_le hb ha)).mp h; omega) H locs ls hP hD hS hl)
theorem g_if_ge (C : gC p l s m args meth c cs A nL cc own rt) {a off : Int} {tgt : Nat} (d : decode cc pc = .ok (.ifCond .ge off, 3)) (ht : (pc : Int) + off = (tgt : Int)) (ha : -2147483648 ≤ a ∧ a < 2147483648) (kt : 0 ≤ a → GG p l e R s m args below meth c Q cs A nL k n np ad T tgt lv st) (kf : a < 0 → GG p l e R s m args below meth c Q cs A nL k n np ad T (pc + 3) lv st) : GG p l e R s m args below meth c Q cs A nL k n np ad T pc lv (.int (zI a) :: st) := fun H locs ls hP hD hS hl => by
  have hb : (-2147483648 : Int) ≤ 0 ∧ (0 : Int) < 2147483648 := by decide
  exact lv_if_ge C.1 C.2.1 d ht (fun h => kt ((zI_le (a := 0) hb ha).mp h) H locs ls hP hD hS hl) (fun h => kf (by have h2 := (not_congr (zI_le (a := 0) hb ha)).mp h; omega) H locs ls hP hD hS hl)
theorem g_icmp_gt (C : gC p l s m args meth c cs A nL cc own rt) {a b off : Int} {tgt : Nat} (d : decode cc pc = .ok (.if_icmp .gt off, 3)) (ht : (pc : Int) + off = (tgt : Int)) (ha : -2147483648 ≤ a ∧ a < 2147483648) (hb : -2147483648 ≤ b ∧ b < 2147483648) (kt : b < a → GG p l e R s m args below meth c Q cs A nL k n np ad T tgt lv st) (kf : a ≤ b → GG p l e R s m args below meth c Q cs A nL k n np ad T (pc + 3) lv st) : GG p l e R s m args below meth c Q cs A nL k n np ad T pc lv (.int (zI b) :: .int (zI a) :: st) := fun H locs ls hP hD hS hl => lv_icmp_gt C.1 C.2.1 d ht (fun h => kt ((zI_lt hb ha).mp h) H locs ls hP hD hS hl) (fun h => kf (by have h2 := (not_congr (zI_lt hb ha)).mp h; omega) H locs ls hP hD hS hl)
theorem g_if_gt (C : gC p l s m args meth c cs A nL cc own rt) {a off : Int} {tgt : Nat} (d : decode cc pc = .ok (.ifCond .gt off, 3)) (ht : (pc : Int) + off = (tgt : Int)) (ha : -2147483648 ≤ a ∧ a < 2147483648) (kt : 0 < a → GG p l e R s m args below meth c Q cs A nL k n np ad T tgt lv st) (kf : a ≤ 0 → GG p l e R s m args below meth c Q cs A nL k n np ad T (pc + 3) lv st) : GG p l e R s m args below meth c Q cs A nL k n np ad T pc lv (.int (zI a) :: st) := fun H locs ls hP hD hS hl => by
  have hb : (-2147483648 : Int) ≤ 0 ∧ (0 : Int) < 2147483648 := by decide
  exact lv_if_gt C.1 C.2.1 d ht (fun h => kt ((zI_lt (a := 0) hb ha).mp h) H locs ls hP hD hS hl) (fun h => kf (by have h2 := (not_congr (zI_lt (a := 0) hb ha)).mp h; omega) H locs ls hP hD hS hl)
theorem g_icmp_le (C : gC p l s m args meth c cs A nL cc own rt) {a b off : Int} {tgt : Nat} (d : decode cc pc = .ok (.if_icmp .le off, 3)) (ht : (pc : Int) + off = (tgt : Int)) (ha : -2147483648 ≤ a ∧ a < 2147483648) (hb : -2147483648 ≤ b ∧ b < 2147483648) (kt : a ≤ b → GG p l e R s m args below meth c Q cs A nL k n np ad T tgt lv st) (kf : b < a → GG p l e R s m args below meth c Q cs A nL k n np ad T (pc + 3) lv st) : GG p l e R s m args below meth c Q cs A nL k n np ad T pc lv (.int (zI b) :: .int (zI a) :: st) := fun H locs ls hP hD hS hl => lv_icmp_le C.1 C.2.1 d ht (fun h => kt ((zI_le ha hb).mp h) H locs ls hP hD hS hl) (fun h => kf (by have h2 := (not_congr (zI_le ha hb)).mp h; omega) H locs ls hP hD hS hl)
theorem g_if_le (C : gC p l s m args meth c cs A nL cc own rt) {a off : Int} {tgt : Nat} (d : decode cc pc = .ok (.ifCond .le off, 3)) (ht : (pc : Int) + off = (tgt : Int)) (ha : -2147483648 ≤ a ∧ a < 2147483648) (kt : a ≤ 0 → GG p l e R s m args below meth c Q cs A nL k n np ad T tgt lv st) (kf : 0 < a → GG p l e R s m args below meth c Q cs A nL k n np ad T (pc + 3) lv st) : GG p l e R s m args below meth c Q cs A nL k n np ad T pc lv (.int (zI a) :: st) := fun H locs ls hP hD hS hl => by
  have hb : (-2147483648 : Int) ≤ 0 ∧ (0 : Int) < 2147483648 := by decide
  exact lv_if_le C.1 C.2.1 d ht (fun h => kt ((zI_le (b := 0) ha hb).mp h) H locs ls hP hD hS hl) (fun h => kf (by have h2 := (not_congr (zI_le (b := 0) ha hb)).mp h; omega) H locs ls hP hD hS hl)
theorem g_iload_0 (C : gC p l s m args meth c cs A nL cc own rt) {x : Int32} (d : decode cc pc = .ok (.iload_n 0, 1)) (kk : GG p l e R s m args below meth c Q cs A nL k n np ad T (pc + 1) (some (.int x) :: lv) (.int x :: st)) : GG p l e R s m args below meth c Q cs A nL k n np ad T pc (some (.int x) :: lv) st := fun H locs ls hP hD hS hl => lv_iload_n C.1 C.2.1 d rfl (gl_at hl rfl) (kk H locs ls hP hD hS hl)
theorem g_aload_0 (C : gC p l s m args meth c cs A nL cc own rt) {x : Nat} (d : decode cc pc = .ok (.aload_n 0, 1)) (kk : GG p l e R s m args below meth c Q cs A nL k n np ad T (pc + 1) (some (.ref x) :: lv) (.ref x :: st)) : GG p l e R s m args below meth c Q cs A nL k n np ad T pc (some (.ref x) :: lv) st := fun H locs ls hP hD hS hl => lv_aload_n C.1 C.2.1 d rfl (gl_at hl rfl) (kk H locs ls hP hD hS hl)
theorem g_sload_0 (C : gC p l s m args meth c cs A nL cc own rt) {x : Int} (d : decode cc pc = .ok (.aload_n 0, 1)) (kk : GG p l e R s m args below meth c Q cs A nL k n np ad T (pc + 1) (some (grf ad x) :: lv) (grf ad x :: st)) : GG p l e R s m args below meth c Q cs A nL k n np ad T pc (some (grf ad x) :: lv) st := fun H locs ls hP hD hS hl => by
  have h9 := kk H locs ls hP hD hS hl
  have h8 := gl_at hl (i := 0) rfl
  revert h9 h8
  unfold grf
  cases gO ad x with
  | none => exact fun h9 h8 => lv_aload_nN C.1 C.2.1 d rfl h8 h9
  | some y => exact fun h9 h8 => lv_aload_n C.1 C.2.1 d rfl h8 h9
theorem g_istore_0 (C : gC p l s m args meth c cs A nL cc own rt) {a0 : Option Value} {x : Int32} (d : decode cc pc = .ok (.istore_n 0, 1)) (kk : GG p l e R s m args below meth c Q cs A nL k n np ad T (pc + 1) (some (.int x) :: lv) st) : GG p l e R s m args below meth c Q cs A nL k n np ad T pc (a0 :: lv) (.int x :: st) := fun H locs ls hP hD hS hl => lv_istore_n C.1 C.2.1 d rfl (gl_has hl) (show 0 < nL by rw [← hl.2.2.1]; simp) rfl (fun ls2 h2 => kk H locs ls2 hP hD hS (gl_back hl rfl h2 (fun _ q => q)))
theorem g_astore_0 (C : gC p l s m args meth c cs A nL cc own rt) {a0 : Option Value} {x : Nat} (d : decode cc pc = .ok (.astore_n 0, 1)) (kk : GG p l e R s m args below meth c Q cs A nL k n np ad T (pc + 1) (some (.ref x) :: lv) st) : GG p l e R s m args below meth c Q cs A nL k n np ad T pc (a0 :: lv) (.ref x :: st) := fun H locs ls hP hD hS hl => lv_astore_n C.1 C.2.1 d rfl (gl_has hl) (show 0 < nL by rw [← hl.2.2.1]; simp) rfl (fun ls2 h2 => kk H locs ls2 hP hD hS (gl_back hl rfl h2 (fun _ q => q)))
theorem g_sstore_0 (C : gC p l s m args meth c cs A nL cc own rt) {a0 : Option Value} {x : Int} (d : decode cc pc = .ok (.astore_n 0, 1)) (kk : GG p l e R s m args below meth c Q cs A nL k n np ad T (pc + 1) (some (grf ad x) :: lv) st) : GG p l e R s m args below meth c Q cs A nL k n np ad T pc (a0 :: lv) (grf ad x :: st) := fun H locs ls hP hD hS hl => by
  have h9 := fun ls2 hq => kk H locs ls2 hP hD hS hq
  revert h9
  unfold grf
  cases gO ad x with
  | none => exact fun h9 => lv_astore_nN C.1 C.2.1 d rfl (gl_has hl) (show 0 < nL by rw [← hl.2.2.1]; simp) rfl (fun ls2 h2 => h9 ls2 (gl_back hl rfl h2 (fun _ q => q)))
  | some y => exact fun h9 => lv_astore_n C.1 C.2.1 d rfl (gl_has hl) (show 0 < nL by rw [← hl.2.2.1]; simp) rfl (fun ls2 h2 => h9 ls2 (gl_back hl rfl h2 (fun _ q => q)))
theorem g_iinc_0 (C : gC p l s m args meth c cs A nL cc own rt) {x v : Int} (d : decode cc pc = .ok (.iinc 0 v, 3)) (kk : GG p l e R s m args below meth c Q cs A nL k n np ad T (pc + 3) (some (.int (zI (x + v))) :: lv) st) : GG p l e R s m args below meth c Q cs A nL k n np ad T pc (some (.int (zI x)) :: lv) st := fun H locs ls hP hD hS hl => by
  have hh : lv_has ls nL ((0, .int (zI x)) :: glp nL (some (.int (zI x)) :: lv)) := ⟨hl.1, hl.2.1, fun q hq => (List.mem_cons.mp hq).elim (fun e => by rw [e]; exact gl_at hl rfl) (fun hq => (gl_has hl).2.2 q hq)⟩
  exact lv_iinc (v := zI (x + v)) C.1 C.2.1 d hh (k := 0) rfl (by rw [← zI_add]; rfl) (show 0 < nL by rw [← hl.2.2.1]; simp) rfl (fun ls2 h2 => kk H locs ls2 hP hD hS (gl_back hl rfl h2 (fun _ q => List.mem_cons_of_mem _ q)))
theorem g_iload_1 (C : gC p l s m args meth c cs A nL cc own rt) {a0 : Option Value} {x : Int32} (d : decode cc pc = .ok (.iload_n 1, 1)) (kk : GG p l e R s m args below meth c Q cs A nL k n np ad T (pc + 1) (a0 :: some (.int x) :: lv) (.int x :: st)) : GG p l e R s m args below meth c Q cs A nL k n np ad T pc (a0 :: some (.int x) :: lv) st := fun H locs ls hP hD hS hl => lv_iload_n C.1 C.2.1 d rfl (gl_at hl rfl) (kk H locs ls hP hD hS hl)
theorem g_aload_1 (C : gC p l s m args meth c cs A nL cc own rt) {a0 : Option Value} {x : Nat} (d : decode cc pc = .ok (.aload_n 1, 1)) (kk : GG p l e R s m args below meth c Q cs A nL k n np ad T (pc + 1) (a0 :: some (.ref x) :: lv) (.ref x :: st)) : GG p l e R s m args below meth c Q cs A nL k n np ad T pc (a0 :: some (.ref x) :: lv) st := fun H locs ls hP hD hS hl => lv_aload_n C.1 C.2.1 d rfl (gl_at hl rfl) (kk H locs ls hP hD hS hl)
theorem g_sload_1 (C : gC p l s m args meth c cs A nL cc own rt) {a0 : Option Value} {x : Int} (d : decode cc pc = .ok (.aload_n 1, 1)) (kk : GG p l e R s m args below meth c Q cs A nL k n np ad T (pc + 1) (a0 :: some (grf ad x) :: lv) (grf ad x :: st)) : GG p l e R s m args below meth c Q cs A nL k n np ad T pc (a0 :: some (grf ad x) :: lv) st := fun H locs ls hP hD hS hl => by
  have h9 := kk H locs ls hP hD hS hl
  have h8 := gl_at hl (i := 1) rfl
  revert h9 h8
  unfold grf
  cases gO ad x with
  | none => exact fun h9 h8 => lv_aload_nN C.1 C.2.1 d rfl h8 h9
  | some y => exact fun h9 h8 => lv_aload_n C.1 C.2.1 d rfl h8 h9
theorem g_istore_1 (C : gC p l s m args meth c cs A nL cc own rt) {a0 a1 : Option Value} {x : Int32} (d : decode cc pc = .ok (.istore_n 1, 1)) (kk : GG p l e R s m args below meth c Q cs A nL k n np ad T (pc + 1) (a0 :: some (.int x) :: lv) st) : GG p l e R s m args below meth c Q cs A nL k n np ad T pc (a0 :: a1 :: lv) (.int x :: st) := fun H locs ls hP hD hS hl => lv_istore_n C.1 C.2.1 d rfl (gl_has hl) (show 1 < nL by rw [← hl.2.2.1]; simp) rfl (fun ls2 h2 => kk H locs ls2 hP hD hS (gl_back hl rfl h2 (fun _ q => q)))
theorem g_astore_1 (C : gC p l s m args meth c cs A nL cc own rt) {a0 a1 : Option Value} {x : Nat} (d : decode cc pc = .ok (.astore_n 1, 1)) (kk : GG p l e R s m args below meth c Q cs A nL k n np ad T (pc + 1) (a0 :: some (.ref x) :: lv) st) : GG p l e R s m args below meth c Q cs A nL k n np ad T pc (a0 :: a1 :: lv) (.ref x :: st) := fun H locs ls hP hD hS hl => lv_astore_n C.1 C.2.1 d rfl (gl_has hl) (show 1 < nL by rw [← hl.2.2.1]; simp) rfl (fun ls2 h2 => kk H locs ls2 hP hD hS (gl_back hl rfl h2 (fun _ q => q)))
theorem g_sstore_1 (C : gC p l s m args meth c cs A nL cc own rt) {a0 a1 : Option Value} {x : Int} (d : decode cc pc = .ok (.astore_n 1, 1)) (kk : GG p l e R s m args below meth c Q cs A nL k n np ad T (pc + 1) (a0 :: some (grf ad x) :: lv) st) : GG p l e R s m args below meth c Q cs A nL k n np ad T pc (a0 :: a1 :: lv) (grf ad x :: st) := fun H locs ls hP hD hS hl => by
  have h9 := fun ls2 hq => kk H locs ls2 hP hD hS hq
  revert h9
  unfold grf
  cases gO ad x with
  | none => exact fun h9 => lv_astore_nN C.1 C.2.1 d rfl (gl_has hl) (show 1 < nL by rw [← hl.2.2.1]; simp) rfl (fun ls2 h2 => h9 ls2 (gl_back hl rfl h2 (fun _ q => q)))
  | some y => exact fun h9 => lv_astore_n C.1 C.2.1 d rfl (gl_has hl) (show 1 < nL by rw [← hl.2.2.1]; simp) rfl (fun ls2 h2 => h9 ls2 (gl_back hl rfl h2 (fun _ q => q)))
theorem g_iinc_1 (C : gC p l s m args meth c cs A nL cc own rt) {a0 : Option Value} {x v : Int} (d : decode cc pc = .ok (.iinc 1 v, 3)) (kk : GG p l e R s m args below meth c Q cs A nL k n np ad T (pc + 3) (a0 :: some (.int (zI (x + v))) :: lv) st) : GG p l e R s m args below meth c Q cs A nL k n np ad T pc (a0 :: some (.int (zI x)) :: lv) st := fun H locs ls hP hD hS hl => by
  have hh : lv_has ls nL ((1, .int (zI x)) :: glp nL (a0 :: some (.int (zI x)) :: lv)) := ⟨hl.1, hl.2.1, fun q hq => (List.mem_cons.mp hq).elim (fun e => by rw [e]; exact gl_at hl rfl) (fun hq => (gl_has hl).2.2 q hq)⟩
  exact lv_iinc (v := zI (x + v)) C.1 C.2.1 d hh (k := 0) rfl (by rw [← zI_add]; rfl) (show 1 < nL by rw [← hl.2.2.1]; simp) rfl (fun ls2 h2 => kk H locs ls2 hP hD hS (gl_back hl rfl h2 (fun _ q => List.mem_cons_of_mem _ q)))
theorem g_iload_2 (C : gC p l s m args meth c cs A nL cc own rt) {a0 a1 : Option Value} {x : Int32} (d : decode cc pc = .ok (.iload_n 2, 1)) (kk : GG p l e R s m args below meth c Q cs A nL k n np ad T (pc + 1) (a0 :: a1 :: some (.int x) :: lv) (.int x :: st)) : GG p l e R s m args below meth c Q cs A nL k n np ad T pc (a0 :: a1 :: some (.int x) :: lv) st := fun H locs ls hP hD hS hl => lv_iload_n C.1 C.2.1 d rfl (gl_at hl rfl) (kk H locs ls hP hD hS hl)
theorem g_aload_2 (C : gC p l s m args meth c cs A nL cc own rt) {a0 a1 : Option Value} {x : Nat} (d : decode cc pc = .ok (.aload_n 2, 1)) (kk : GG p l e R s m args below meth c Q cs A nL k n np ad T (pc + 1) (a0 :: a1 :: some (.ref x) :: lv) (.ref x :: st)) : GG p l e R s m args below meth c Q cs A nL k n np ad T pc (a0 :: a1 :: some (.ref x) :: lv) st := fun H locs ls hP hD hS hl => lv_aload_n C.1 C.2.1 d rfl (gl_at hl rfl) (kk H locs ls hP hD hS hl)
theorem g_sload_2 (C : gC p l s m args meth c cs A nL cc own rt) {a0 a1 : Option Value} {x : Int} (d : decode cc pc = .ok (.aload_n 2, 1)) (kk : GG p l e R s m args below meth c Q cs A nL k n np ad T (pc + 1) (a0 :: a1 :: some (grf ad x) :: lv) (grf ad x :: st)) : GG p l e R s m args below meth c Q cs A nL k n np ad T pc (a0 :: a1 :: some (grf ad x) :: lv) st := fun H locs ls hP hD hS hl => by
  have h9 := kk H locs ls hP hD hS hl
  have h8 := gl_at hl (i := 2) rfl
  revert h9 h8
  unfold grf
  cases gO ad x with
  | none => exact fun h9 h8 => lv_aload_nN C.1 C.2.1 d rfl h8 h9
  | some y => exact fun h9 h8 => lv_aload_n C.1 C.2.1 d rfl h8 h9
theorem g_istore_2 (C : gC p l s m args meth c cs A nL cc own rt) {a0 a1 a2 : Option Value} {x : Int32} (d : decode cc pc = .ok (.istore_n 2, 1)) (kk : GG p l e R s m args below meth c Q cs A nL k n np ad T (pc + 1) (a0 :: a1 :: some (.int x) :: lv) st) : GG p l e R s m args below meth c Q cs A nL k n np ad T pc (a0 :: a1 :: a2 :: lv) (.int x :: st) := fun H locs ls hP hD hS hl => lv_istore_n C.1 C.2.1 d rfl (gl_has hl) (show 2 < nL by rw [← hl.2.2.1]; simp) rfl (fun ls2 h2 => kk H locs ls2 hP hD hS (gl_back hl rfl h2 (fun _ q => q)))
theorem g_astore_2 (C : gC p l s m args meth c cs A nL cc own rt) {a0 a1 a2 : Option Value} {x : Nat} (d : decode cc pc = .ok (.astore_n 2, 1)) (kk : GG p l e R s m args below meth c Q cs A nL k n np ad T (pc + 1) (a0 :: a1 :: some (.ref x) :: lv) st) : GG p l e R s m args below meth c Q cs A nL k n np ad T pc (a0 :: a1 :: a2 :: lv) (.ref x :: st) := fun H locs ls hP hD hS hl => lv_astore_n C.1 C.2.1 d rfl (gl_has hl) (show 2 < nL by rw [← hl.2.2.1]; simp) rfl (fun ls2 h2 => kk H locs ls2 hP hD hS (gl_back hl rfl h2 (fun _ q => q)))
theorem g_sstore_2 (C : gC p l s m args meth c cs A nL cc own rt) {a0 a1 a2 : Option Value} {x : Int} (d : decode cc pc = .ok (.astore_n 2, 1)) (kk : GG p l e R s m args below meth c Q cs A nL k n np ad T (pc + 1) (a0 :: a1 :: some (grf ad x) :: lv) st) : GG p l e R s m args below meth c Q cs A nL k n np ad T pc (a0 :: a1 :: a2 :: lv) (grf ad x :: st) := fun H locs ls hP hD hS hl => by
  have h9 := fun ls2 hq => kk H locs ls2 hP hD hS hq
  revert h9
  unfold grf
  cases gO ad x with
  | none => exact fun h9 => lv_astore_nN C.1 C.2.1 d rfl (gl_has hl) (show 2 < nL by rw [← hl.2.2.1]; simp) rfl (fun ls2 h2 => h9 ls2 (gl_back hl rfl h2 (fun _ q => q)))
  | some y => exact fun h9 => lv_astore_n C.1 C.2.1 d rfl (gl_has hl) (show 2 < nL by rw [← hl.2.2.1]; simp) rfl (fun ls2 h2 => h9 ls2 (gl_back hl rfl h2 (fun _ q => q)))
theorem g_iinc_2 (C : gC p l s m args meth c cs A nL cc own rt) {a0 a1 : Option Value} {x v : Int} (d : decode cc pc = .ok (.iinc 2 v, 3)) (kk : GG p l e R s m args below meth c Q cs A nL k n np ad T (pc + 3) (a0 :: a1 :: some (.int (zI (x + v))) :: lv) st) : GG p l e R s m args below meth c Q cs A nL k n np ad T pc (a0 :: a1 :: some (.int (zI x)) :: lv) st := fun H locs ls hP hD hS hl => by
  have hh : lv_has ls nL ((2, .int (zI x)) :: glp nL (a0 :: a1 :: some (.int (zI x)) :: lv)) := ⟨hl.1, hl.2.1, fun q hq => (List.mem_cons.mp hq).elim (fun e => by rw [e]; exact gl_at hl rfl) (fun hq => (gl_has hl).2.2 q hq)⟩
  exact lv_iinc (v := zI (x + v)) C.1 C.2.1 d hh (k := 0) rfl (by rw [← zI_add]; rfl) (show 2 < nL by rw [← hl.2.2.1]; simp) rfl (fun ls2 h2 => kk H locs ls2 hP hD hS (gl_back hl rfl h2 (fun _ q => List.mem_cons_of_mem _ q)))
theorem g_iload_3 (C : gC p l s m args meth c cs A nL cc own rt) {a0 a1 a2 : Option Value} {x : Int32} (d : decode cc pc = .ok (.iload_n 3, 1)) (kk : GG p l e R s m args below meth c Q cs A nL k n np ad T (pc + 1) (a0 :: a1 :: a2 :: some (.int x) :: lv) (.int x :: st)) : GG p l e R s m args below meth c Q cs A nL k n np ad T pc (a0 :: a1 :: a2 :: some (.int x) :: lv) st := fun H locs ls hP hD hS hl => lv_iload_n C.1 C.2.1 d rfl (gl_at hl rfl) (kk H locs ls hP hD hS hl)
theorem g_aload_3 (C : gC p l s m args meth c cs A nL cc own rt) {a0 a1 a2 : Option Value} {x : Nat} (d : decode cc pc = .ok (.aload_n 3, 1)) (kk : GG p l e R s m args below meth c Q cs A nL k n np ad T (pc + 1) (a0 :: a1 :: a2 :: some (.ref x) :: lv) (.ref x :: st)) : GG p l e R s m args below meth c Q cs A nL k n np ad T pc (a0 :: a1 :: a2 :: some (.ref x) :: lv) st := fun H locs ls hP hD hS hl => lv_aload_n C.1 C.2.1 d rfl (gl_at hl rfl) (kk H locs ls hP hD hS hl)
theorem g_sload_3 (C : gC p l s m args meth c cs A nL cc own rt) {a0 a1 a2 : Option Value} {x : Int} (d : decode cc pc = .ok (.aload_n 3, 1)) (kk : GG p l e R s m args below meth c Q cs A nL k n np ad T (pc + 1) (a0 :: a1 :: a2 :: some (grf ad x) :: lv) (grf ad x :: st)) : GG p l e R s m args below meth c Q cs A nL k n np ad T pc (a0 :: a1 :: a2 :: some (grf ad x) :: lv) st := fun H locs ls hP hD hS hl => by
  have h9 := kk H locs ls hP hD hS hl
  have h8 := gl_at hl (i := 3) rfl
  revert h9 h8
  unfold grf
  cases gO ad x with
  | none => exact fun h9 h8 => lv_aload_nN C.1 C.2.1 d rfl h8 h9
  | some y => exact fun h9 h8 => lv_aload_n C.1 C.2.1 d rfl h8 h9
theorem g_istore_3 (C : gC p l s m args meth c cs A nL cc own rt) {a0 a1 a2 a3 : Option Value} {x : Int32} (d : decode cc pc = .ok (.istore_n 3, 1)) (kk : GG p l e R s m args below meth c Q cs A nL k n np ad T (pc + 1) (a0 :: a1 :: a2 :: some (.int x) :: lv) st) : GG p l e R s m args below meth c Q cs A nL k n np ad T pc (a0 :: a1 :: a2 :: a3 :: lv) (.int x :: st) := fun H locs ls hP hD hS hl => lv_istore_n C.1 C.2.1 d rfl (gl_has hl) (show 3 < nL by rw [← hl.2.2.1]; simp) rfl (fun ls2 h2 => kk H locs ls2 hP hD hS (gl_back hl rfl h2 (fun _ q => q)))
theorem g_astore_3 (C : gC p l s m args meth c cs A nL cc own rt) {a0 a1 a2 a3 : Option Value} {x : Nat} (d : decode cc pc = .ok (.astore_n 3, 1)) (kk : GG p l e R s m args below meth c Q cs A nL k n np ad T (pc + 1) (a0 :: a1 :: a2 :: some (.ref x) :: lv) st) : GG p l e R s m args below meth c Q cs A nL k n np ad T pc (a0 :: a1 :: a2 :: a3 :: lv) (.ref x :: st) := fun H locs ls hP hD hS hl => lv_astore_n C.1 C.2.1 d rfl (gl_has hl) (show 3 < nL by rw [← hl.2.2.1]; simp) rfl (fun ls2 h2 => kk H locs ls2 hP hD hS (gl_back hl rfl h2 (fun _ q => q)))
theorem g_sstore_3 (C : gC p l s m args meth c cs A nL cc own rt) {a0 a1 a2 a3 : Option Value} {x : Int} (d : decode cc pc = .ok (.astore_n 3, 1)) (kk : GG p l e R s m args below meth c Q cs A nL k n np ad T (pc + 1) (a0 :: a1 :: a2 :: some (grf ad x) :: lv) st) : GG p l e R s m args below meth c Q cs A nL k n np ad T pc (a0 :: a1 :: a2 :: a3 :: lv) (grf ad x :: st) := fun H locs ls hP hD hS hl => by
  have h9 := fun ls2 hq => kk H locs ls2 hP hD hS hq
  revert h9
  unfold grf
  cases gO ad x with
  | none => exact fun h9 => lv_astore_nN C.1 C.2.1 d rfl (gl_has hl) (show 3 < nL by rw [← hl.2.2.1]; simp) rfl (fun ls2 h2 => h9 ls2 (gl_back hl rfl h2 (fun _ q => q)))
  | some y => exact fun h9 => lv_astore_n C.1 C.2.1 d rfl (gl_has hl) (show 3 < nL by rw [← hl.2.2.1]; simp) rfl (fun ls2 h2 => h9 ls2 (gl_back hl rfl h2 (fun _ q => q)))
theorem g_iinc_3 (C : gC p l s m args meth c cs A nL cc own rt) {a0 a1 a2 : Option Value} {x v : Int} (d : decode cc pc = .ok (.iinc 3 v, 3)) (kk : GG p l e R s m args below meth c Q cs A nL k n np ad T (pc + 3) (a0 :: a1 :: a2 :: some (.int (zI (x + v))) :: lv) st) : GG p l e R s m args below meth c Q cs A nL k n np ad T pc (a0 :: a1 :: a2 :: some (.int (zI x)) :: lv) st := fun H locs ls hP hD hS hl => by
  have hh : lv_has ls nL ((3, .int (zI x)) :: glp nL (a0 :: a1 :: a2 :: some (.int (zI x)) :: lv)) := ⟨hl.1, hl.2.1, fun q hq => (List.mem_cons.mp hq).elim (fun e => by rw [e]; exact gl_at hl rfl) (fun hq => (gl_has hl).2.2 q hq)⟩
  exact lv_iinc (v := zI (x + v)) C.1 C.2.1 d hh (k := 0) rfl (by rw [← zI_add]; rfl) (show 3 < nL by rw [← hl.2.2.1]; simp) rfl (fun ls2 h2 => kk H locs ls2 hP hD hS (gl_back hl rfl h2 (fun _ q => List.mem_cons_of_mem _ q)))
theorem g_iload_4 (C : gC p l s m args meth c cs A nL cc own rt) {a0 a1 a2 a3 : Option Value} {x : Int32} (d : decode cc pc = .ok (.iload 4, 2)) (kk : GG p l e R s m args below meth c Q cs A nL k n np ad T (pc + 2) (a0 :: a1 :: a2 :: a3 :: some (.int x) :: lv) (.int x :: st)) : GG p l e R s m args below meth c Q cs A nL k n np ad T pc (a0 :: a1 :: a2 :: a3 :: some (.int x) :: lv) st := fun H locs ls hP hD hS hl => lv_iload C.1 C.2.1 d (gl_at hl rfl) (kk H locs ls hP hD hS hl)
theorem g_aload_4 (C : gC p l s m args meth c cs A nL cc own rt) {a0 a1 a2 a3 : Option Value} {x : Nat} (d : decode cc pc = .ok (.aload 4, 2)) (kk : GG p l e R s m args below meth c Q cs A nL k n np ad T (pc + 2) (a0 :: a1 :: a2 :: a3 :: some (.ref x) :: lv) (.ref x :: st)) : GG p l e R s m args below meth c Q cs A nL k n np ad T pc (a0 :: a1 :: a2 :: a3 :: some (.ref x) :: lv) st := fun H locs ls hP hD hS hl => lv_aload C.1 C.2.1 d (gl_at hl rfl) (kk H locs ls hP hD hS hl)
theorem g_sload_4 (C : gC p l s m args meth c cs A nL cc own rt) {a0 a1 a2 a3 : Option Value} {x : Int} (d : decode cc pc = .ok (.aload 4, 2)) (kk : GG p l e R s m args below meth c Q cs A nL k n np ad T (pc + 2) (a0 :: a1 :: a2 :: a3 :: some (grf ad x) :: lv) (grf ad x :: st)) : GG p l e R s m args below meth c Q cs A nL k n np ad T pc (a0 :: a1 :: a2 :: a3 :: some (grf ad x) :: lv) st := fun H locs ls hP hD hS hl => by
  have h9 := kk H locs ls hP hD hS hl
  have h8 := gl_at hl (i := 4) rfl
  revert h9 h8
  unfold grf
  cases gO ad x with
  | none => exact fun h9 h8 => lv_aloadN C.1 C.2.1 d h8 h9
  | some y => exact fun h9 h8 => lv_aload C.1 C.2.1 d h8 h9
theorem g_istore_4 (C : gC p l s m args meth c cs A nL cc own rt) {a0 a1 a2 a3 a4 : Option Value} {x : Int32} (d : decode cc pc = .ok (.istore 4, 2)) (kk : GG p l e R s m args below meth c Q cs A nL k n np ad T (pc + 2) (a0 :: a1 :: a2 :: a3 :: some (.int x) :: lv) st) : GG p l e R s m args below meth c Q cs A nL k n np ad T pc (a0 :: a1 :: a2 :: a3 :: a4 :: lv) (.int x :: st) := fun H locs ls hP hD hS hl => lv_istore C.1 C.2.1 d (gl_has hl) (show 4 < nL by rw [← hl.2.2.1]; simp) rfl (fun ls2 h2 => kk H locs ls2 hP hD hS (gl_back hl rfl h2 (fun _ q => q)))
theorem g_astore_4 (C : gC p l s m args meth c cs A nL cc own rt) {a0 a1 a2 a3 a4 : Option Value} {x : Nat} (d : decode cc pc = .ok (.astore 4, 2)) (kk : GG p l e R s m args below meth c Q cs A nL k n np ad T (pc + 2) (a0 :: a1 :: a2 :: a3 :: some (.ref x) :: lv) st) : GG p l e R s m args below meth c Q cs A nL k n np ad T pc (a0 :: a1 :: a2 :: a3 :: a4 :: lv) (.ref x :: st) := fun H locs ls hP hD hS hl => lv_astore C.1 C.2.1 d (gl_has hl) (show 4 < nL by rw [← hl.2.2.1]; simp) rfl (fun ls2 h2 => kk H locs ls2 hP hD hS (gl_back hl rfl h2 (fun _ q => q)))
theorem g_sstore_4 (C : gC p l s m args meth c cs A nL cc own rt) {a0 a1 a2 a3 a4 : Option Value} {x : Int} (d : decode cc pc = .ok (.astore 4, 2)) (kk : GG p l e R s m args below meth c Q cs A nL k n np ad T (pc + 2) (a0 :: a1 :: a2 :: a3 :: some (grf ad x) :: lv) st) : GG p l e R s m args below meth c Q cs A nL k n np ad T pc (a0 :: a1 :: a2 :: a3 :: a4 :: lv) (grf ad x :: st) := fun H locs ls hP hD hS hl => by
  have h9 := fun ls2 hq => kk H locs ls2 hP hD hS hq
  revert h9
  unfold grf
  cases gO ad x with
  | none => exact fun h9 => lv_astoreN C.1 C.2.1 d (gl_has hl) (show 4 < nL by rw [← hl.2.2.1]; simp) rfl (fun ls2 h2 => h9 ls2 (gl_back hl rfl h2 (fun _ q => q)))
  | some y => exact fun h9 => lv_astore C.1 C.2.1 d (gl_has hl) (show 4 < nL by rw [← hl.2.2.1]; simp) rfl (fun ls2 h2 => h9 ls2 (gl_back hl rfl h2 (fun _ q => q)))
theorem g_iinc_4 (C : gC p l s m args meth c cs A nL cc own rt) {a0 a1 a2 a3 : Option Value} {x v : Int} (d : decode cc pc = .ok (.iinc 4 v, 3)) (kk : GG p l e R s m args below meth c Q cs A nL k n np ad T (pc + 3) (a0 :: a1 :: a2 :: a3 :: some (.int (zI (x + v))) :: lv) st) : GG p l e R s m args below meth c Q cs A nL k n np ad T pc (a0 :: a1 :: a2 :: a3 :: some (.int (zI x)) :: lv) st := fun H locs ls hP hD hS hl => by
  have hh : lv_has ls nL ((4, .int (zI x)) :: glp nL (a0 :: a1 :: a2 :: a3 :: some (.int (zI x)) :: lv)) := ⟨hl.1, hl.2.1, fun q hq => (List.mem_cons.mp hq).elim (fun e => by rw [e]; exact gl_at hl rfl) (fun hq => (gl_has hl).2.2 q hq)⟩
  exact lv_iinc (v := zI (x + v)) C.1 C.2.1 d hh (k := 0) rfl (by rw [← zI_add]; rfl) (show 4 < nL by rw [← hl.2.2.1]; simp) rfl (fun ls2 h2 => kk H locs ls2 hP hD hS (gl_back hl rfl h2 (fun _ q => List.mem_cons_of_mem _ q)))
theorem g_iload_5 (C : gC p l s m args meth c cs A nL cc own rt) {a0 a1 a2 a3 a4 : Option Value} {x : Int32} (d : decode cc pc = .ok (.iload 5, 2)) (kk : GG p l e R s m args below meth c Q cs A nL k n np ad T (pc + 2) (a0 :: a1 :: a2 :: a3 :: a4 :: some (.int x) :: lv) (.int x :: st)) : GG p l e R s m args below meth c Q cs A nL k n np ad T pc (a0 :: a1 :: a2 :: a3 :: a4 :: some (.int x) :: lv) st := fun H locs ls hP hD hS hl => lv_iload C.1 C.2.1 d (gl_at hl rfl) (kk H locs ls hP hD hS hl)
theorem g_aload_5 (C : gC p l s m args meth c cs A nL cc own rt) {a0 a1 a2 a3 a4 : Option Value} {x : Nat} (d : decode cc pc = .ok (.aload 5, 2)) (kk : GG p l e R s m args below meth c Q cs A nL k n np ad T (pc + 2) (a0 :: a1 :: a2 :: a3 :: a4 :: some (.ref x) :: lv) (.ref x :: st)) : GG p l e R s m args below meth c Q cs A nL k n np ad T pc (a0 :: a1 :: a2 :: a3 :: a4 :: some (.ref x) :: lv) st := fun H locs ls hP hD hS hl => lv_aload C.1 C.2.1 d (gl_at hl rfl) (kk H locs ls hP hD hS hl)
theorem g_sload_5 (C : gC p l s m args meth c cs A nL cc own rt) {a0 a1 a2 a3 a4 : Option Value} {x : Int} (d : decode cc pc = .ok (.aload 5, 2)) (kk : GG p l e R s m args below meth c Q cs A nL k n np ad T (pc + 2) (a0 :: a1 :: a2 :: a3 :: a4 :: some (grf ad x) :: lv) (grf ad x :: st)) : GG p l e R s m args below meth c Q cs A nL k n np ad T pc (a0 :: a1 :: a2 :: a3 :: a4 :: some (grf ad x) :: lv) st := fun H locs ls hP hD hS hl => by
  have h9 := kk H locs ls hP hD hS hl
  have h8 := gl_at hl (i := 5) rfl
  revert h9 h8
  unfold grf
  cases gO ad x with
  | none => exact fun h9 h8 => lv_aloadN C.1 C.2.1 d h8 h9
  | some y => exact fun h9 h8 => lv_aload C.1 C.2.1 d h8 h9
theorem g_istore_5 (C : gC p l s m args meth c cs A nL cc own rt) {a0 a1 a2 a3 a4 a5 : Option Value} {x : Int32} (d : decode cc pc = .ok (.istore 5, 2)) (kk : GG p l e R s m args below meth c Q cs A nL k n np ad T (pc + 2) (a0 :: a1 :: a2 :: a3 :: a4 :: some (.int x) :: lv) st) : GG p l e R s m args below meth c Q cs A nL k n np ad T pc (a0 :: a1 :: a2 :: a3 :: a4 :: a5 :: lv) (.int x :: st) := fun H locs ls hP hD hS hl => lv_istore C.1 C.2.1 d (gl_has hl) (show 5 < nL by rw [← hl.2.2.1]; simp) rfl (fun ls2 h2 => kk H locs ls2 hP hD hS (gl_back hl rfl h2 (fun _ q => q)))
theorem g_astore_5 (C : gC p l s m args meth c cs A nL cc own rt) {a0 a1 a2 a3 a4 a5 : Option Value} {x : Nat} (d : decode cc pc = .ok (.astore 5, 2)) (kk : GG p l e R s m args below meth c Q cs A nL k n np ad T (pc + 2) (a0 :: a1 :: a2 :: a3 :: a4 :: some (.ref x) :: lv) st) : GG p l e R s m args below meth c Q cs A nL k n np ad T pc (a0 :: a1 :: a2 :: a3 :: a4 :: a5 :: lv) (.ref x :: st) := fun H locs ls hP hD hS hl => lv_astore C.1 C.2.1 d (gl_has hl) (show 5 < nL by rw [← hl.2.2.1]; simp) rfl (fun ls2 h2 => kk H locs ls2 hP hD hS (gl_back hl rfl h2 (fun _ q => q)))
theorem g_sstore_5 (C : gC p l s m args meth c cs A nL cc own rt) {a0 a1 a2 a3 a4 a5 : Option Value} {x : Int} (d : decode cc pc = .ok (.astore 5, 2)) (kk : GG p l e R s m args below meth c Q cs A nL k n np ad T (pc + 2) (a0 :: a1 :: a2 :: a3 :: a4 :: some (grf ad x) :: lv) st) : GG p l e R s m args below meth c Q cs A nL k n np ad T pc (a0 :: a1 :: a2 :: a3 :: a4 :: a5 :: lv) (grf ad x :: st) := fun H locs ls hP hD hS hl => by
  have h9 := fun ls2 hq => kk H locs ls2 hP hD hS hq
  revert h9
  unfold grf
  cases gO ad x with
  | none => exact fun h9 => lv_astoreN C.1 C.2.1 d (gl_has hl) (show 5 < nL by rw [← hl.2.2.1]; simp) rfl (fun ls2 h2 => h9 ls2 (gl_back hl rfl h2 (fun _ q => q)))
  | some y => exact fun h9 => lv_astore C.1 C.2.1 d (gl_has hl) (show 5 < nL by rw [← hl.2.2.1]; simp) rfl (fun ls2 h2 => h9 ls2 (gl_back hl rfl h2 (fun _ q => q)))
theorem g_iinc_5 (C : gC p l s m args meth c cs A nL cc own rt) {a0 a1 a2 a3 a4 : Option Value} {x v : Int} (d : decode cc pc = .ok (.iinc 5 v, 3)) (kk : GG p l e R s m args below meth c Q cs A nL k n np ad T (pc + 3) (a0 :: a1 :: a2 :: a3 :: a4 :: some (.int (zI (x + v))) :: lv) st) : GG p l e R s m args below meth c Q cs A nL k n np ad T pc (a0 :: a1 :: a2 :: a3 :: a4 :: some (.int (zI x)) :: lv) st := fun H locs ls hP hD hS hl => by
  have hh : lv_has ls nL ((5, .int (zI x)) :: glp nL (a0 :: a1 :: a2 :: a3 :: a4 :: some (.int (zI x)) :: lv)) := ⟨hl.1, hl.2.1, fun q hq => (List.mem_cons.mp hq).elim (fun e => by rw [e]; exact gl_at hl rfl) (fun hq => (gl_has hl).2.2 q hq)⟩
  exact lv_iinc (v := zI (x + v)) C.1 C.2.1 d hh (k := 0) rfl (by rw [← zI_add]; rfl) (show 5 < nL by rw [← hl.2.2.1]; simp) rfl (fun ls2 h2 => kk H locs ls2 hP hD hS (gl_back hl rfl h2 (fun _ q => List.mem_cons_of_mem _ q)))
theorem g_iload_6 (C : gC p l s m args meth c cs A nL cc own rt) {a0 a1 a2 a3 a4 a5 : Option Value} {x : Int32} (d : decode cc pc = .ok (.iload 6, 2)) (kk : GG p l e R s m args below meth c Q cs A nL k n np ad T (pc + 2) (a0 :: a1 :: a2 :: a3 :: a4 :: a5 :: some (.int x) :: lv) (.int x :: st)) : GG p l e R s m args below meth c Q cs A nL k n np ad T pc (a0 :: a1 :: a2 :: a3 :: a4 :: a5 :: some (.int x) :: lv) st := fun H locs ls hP hD hS hl => lv_iload C.1 C.2.1 d (gl_at hl rfl) (kk H locs ls hP hD hS hl)
theorem g_aload_6 (C : gC p l s m args meth c cs A nL cc own rt) {a0 a1 a2 a3 a4 a5 : Option Value} {x : Nat} (d : decode cc pc = .ok (.aload 6, 2)) (kk : GG p l e R s m args below meth c Q cs A nL k n np ad T (pc + 2) (a0 :: a1 :: a2 :: a3 :: a4 :: a5 :: some (.ref x) :: lv) (.ref x :: st)) : GG p l e R s m args below meth c Q cs A nL k n np ad T pc (a0 :: a1 :: a2 :: a3 :: a4 :: a5 :: some (.ref x) :: lv) st := fun H locs ls hP hD hS hl => lv_aload C.1 C.2.1 d (gl_at hl rfl) (kk H locs ls hP hD hS hl)
theorem g_sload_6 (C : gC p l s m args meth c cs A nL cc own rt) {a0 a1 a2 a3 a4 a5 : Option Value} {x : Int} (d : decode cc pc = .ok (.aload 6, 2)) (kk : GG p l e R s m args below meth c Q cs A nL k n np ad T (pc + 2) (a0 :: a1 :: a2 :: a3 :: a4 :: a5 :: some (grf ad x) :: lv) (grf ad x :: st)) : GG p l e R s m args below meth c Q cs A nL k n np ad T pc (a0 :: a1 :: a2 :: a3 :: a4 :: a5 :: some (grf ad x) :: lv) st := fun H locs ls hP hD hS hl => by
  have h9 := kk H locs ls hP hD hS hl
  have h8 := gl_at hl (i := 6) rfl
  revert h9 h8
  unfold grf
  cases gO ad x with
  | none => exact fun h9 h8 => lv_aloadN C.1 C.2.1 d h8 h9
  | some y => exact fun h9 h8 => lv_aload C.1 C.2.1 d h8 h9
theorem g_istore_6 (C : gC p l s m args meth c cs A nL cc own rt) {a0 a1 a2 a3 a4 a5 a6 : Option Value} {x : Int32} (d : decode cc pc = .ok (.istore 6, 2)) (kk : GG p l e R s m args below meth c Q cs A nL k n np ad T (pc + 2) (a0 :: a1 :: a2 :: a3 :: a4 :: a5 :: some (.int x) :: lv) st) : GG p l e R s m args below meth c Q cs A nL k n np ad T pc (a0 :: a1 :: a2 :: a3 :: a4 :: a5 :: a6 :: lv) (.int x :: st) := fun H locs ls hP hD hS hl => lv_istore C.1 C.2.1 d (gl_has hl) (show 6 < nL by rw [← hl.2.2.1]; simp) rfl (fun ls2 h2 => kk H locs ls2 hP hD hS (gl_back hl rfl h2 (fun _ q => q)))
theorem g_astore_6 (C : gC p l s m args meth c cs A nL cc own rt) {a0 a1 a2 a3 a4 a5 a6 : Option Value} {x : Nat} (d : decode cc pc = .ok (.astore 6, 2)) (kk : GG p l e R s m args below meth c Q cs A nL k n np ad T (pc + 2) (a0 :: a1 :: a2 :: a3 :: a4 :: a5 :: some (.ref x) :: lv) st) : GG p l e R s m args below meth c Q cs A nL k n np ad T pc (a0 :: a1 :: a2 :: a3 :: a4 :: a5 :: a6 :: lv) (.ref x :: st) := fun H locs ls hP hD hS hl => lv_astore C.1 C.2.1 d (gl_has hl) (show 6 < nL by rw [← hl.2.2.1]; simp) rfl (fun ls2 h2 => kk H locs ls2 hP hD hS (gl_back hl rfl h2 (fun _ q => q)))
theorem g_sstore_6 (C : gC p l s m args meth c cs A nL cc own rt) {a0 a1 a2 a3 a4 a5 a6 : Option Value} {x : Int} (d : decode cc pc = .ok (.astore 6, 2)) (kk : GG p l e R s m args below meth c Q cs A nL k n np ad T (pc + 2) (a0 :: a1 :: a2 :: a3 :: a4 :: a5 :: some (grf ad x) :: lv) st) : GG p l e R s m args below meth c Q cs A nL k n np ad T pc (a0 :: a1 :: a2 :: a3 :: a4 :: a5 :: a6 :: lv) (grf ad x :: st) := fun H locs ls hP hD hS hl => by
  have h9 := fun ls2 hq => kk H locs ls2 hP hD hS hq
  revert h9
  unfold grf
  cases gO ad x with
  | none => exact fun h9 => lv_astoreN C.1 C.2.1 d (gl_has hl) (show 6 < nL by rw [← hl.2.2.1]; simp) rfl (fun ls2 h2 => h9 ls2 (gl_back hl rfl h2 (fun _ q => q)))
  | some y => exact fun h9 => lv_astore C.1 C.2.1 d (gl_has hl) (show 6 < nL by rw [← hl.2.2.1]; simp) rfl (fun ls2 h2 => h9 ls2 (gl_back hl rfl h2 (fun _ q => q)))
theorem g_iinc_6 (C : gC p l s m args meth c cs A nL cc own rt) {a0 a1 a2 a3 a4 a5 : Option Value} {x v : Int} (d : decode cc pc = .ok (.iinc 6 v, 3)) (kk : GG p l e R s m args below meth c Q cs A nL k n np ad T (pc + 3) (a0 :: a1 :: a2 :: a3 :: a4 :: a5 :: some (.int (zI (x + v))) :: lv) st) : GG p l e R s m args below meth c Q cs A nL k n np ad T pc (a0 :: a1 :: a2 :: a3 :: a4 :: a5 :: some (.int (zI x)) :: lv) st := fun H locs ls hP hD hS hl => by
  have hh : lv_has ls nL ((6, .int (zI x)) :: glp nL (a0 :: a1 :: a2 :: a3 :: a4 :: a5 :: some (.int (zI x)) :: lv)) := ⟨hl.1, hl.2.1, fun q hq => (List.mem_cons.mp hq).elim (fun e => by rw [e]; exact gl_at hl rfl) (fun hq => (gl_has hl).2.2 q hq)⟩
  exact lv_iinc (v := zI (x + v)) C.1 C.2.1 d hh (k := 0) rfl (by rw [← zI_add]; rfl) (show 6 < nL by rw [← hl.2.2.1]; simp) rfl (fun ls2 h2 => kk H locs ls2 hP hD hS (gl_back hl rfl h2 (fun _ q => List.mem_cons_of_mem _ q)))
theorem g_iload_7 (C : gC p l s m args meth c cs A nL cc own rt) {a0 a1 a2 a3 a4 a5 a6 : Option Value} {x : Int32} (d : decode cc pc = .ok (.iload 7, 2)) (kk : GG p l e R s m args below meth c Q cs A nL k n np ad T (pc + 2) (a0 :: a1 :: a2 :: a3 :: a4 :: a5 :: a6 :: some (.int x) :: lv) (.int x :: st)) : GG p l e R s m args below meth c Q cs A nL k n np ad T pc (a0 :: a1 :: a2 :: a3 :: a4 :: a5 :: a6 :: some (.int x) :: lv) st := fun H locs ls hP hD hS hl => lv_iload C.1 C.2.1 d (gl_at hl rfl) (kk H locs ls hP hD hS hl)
theorem g_aload_7 (C : gC p l s m args meth c cs A nL cc own rt) {a0 a1 a2 a3 a4 a5 a6 : Option Value} {x : Nat} (d : decode cc pc = .ok (.aload 7, 2)) (kk : GG p l e R s m args below meth c Q cs A nL k n np ad T (pc + 2) (a0 :: a1 :: a2 :: a3 :: a4 :: a5 :: a6 :: some (.ref x) :: lv) (.ref x :: st)) : GG p l e R s m args below meth c Q cs A nL k n np ad T pc (a0 :: a1 :: a2 :: a3 :: a4 :: a5 :: a6 :: some (.ref x) :: lv) st := fun H locs ls hP hD hS hl => lv_aload C.1 C.2.1 d (gl_at hl rfl) (kk H locs ls hP hD hS hl)
theorem g_sload_7 (C : gC p l s m args meth c cs A nL cc own rt) {a0 a1 a2 a3 a4 a5 a6 : Option Value} {x : Int} (d : decode cc pc = .ok (.aload 7, 2)) (kk : GG p l e R s m args below meth c Q cs A nL k n np ad T (pc + 2) (a0 :: a1 :: a2 :: a3 :: a4 :: a5 :: a6 :: some (grf ad x) :: lv) (grf ad x :: st)) : GG p l e R s m args below meth c Q cs A nL k n np ad T pc (a0 :: a1 :: a2 :: a3 :: a4 :: a5 :: a6 :: some (grf ad x) :: lv) st := fun H locs ls hP hD hS hl => by
  have h9 := kk H locs ls hP hD hS hl
  have h8 := gl_at hl (i := 7) rfl
  revert h9 h8
  unfold grf
  cases gO ad x with
  | none => exact fun h9 h8 => lv_aloadN C.1 C.2.1 d h8 h9
  | some y => exact fun h9 h8 => lv_aload C.1 C.2.1 d h8 h9
theorem g_istore_7 (C : gC p l s m args meth c cs A nL cc own rt) {a0 a1 a2 a3 a4 a5 a6 a7 : Option Value} {x : Int32} (d : decode cc pc = .ok (.istore 7, 2)) (kk : GG p l e R s m args below meth c Q cs A nL k n np ad T (pc + 2) (a0 :: a1 :: a2 :: a3 :: a4 :: a5 :: a6 :: some (.int x) :: lv) st) : GG p l e R s m args below meth c Q cs A nL k n np ad T pc (a0 :: a1 :: a2 :: a3 :: a4 :: a5 :: a6 :: a7 :: lv) (.int x :: st) := fun H locs ls hP hD hS hl => lv_istore C.1 C.2.1 d (gl_has hl) (show 7 < nL by rw [← hl.2.2.1]; simp) rfl (fun ls2 h2 => kk H locs ls2 hP hD hS (gl_back hl rfl h2 (fun _ q => q)))
theorem g_astore_7 (C : gC p l s m args meth c cs A nL cc own rt) {a0 a1 a2 a3 a4 a5 a6 a7 : Option Value} {x : Nat} (d : decode cc pc = .ok (.astore 7, 2)) (kk : GG p l e R s m args below meth c Q cs A nL k n np ad T (pc + 2) (a0 :: a1 :: a2 :: a3 :: a4 :: a5 :: a6 :: some (.ref x) :: lv) st) : GG p l e R s m args below meth c Q cs A nL k n np ad T pc (a0 :: a1 :: a2 :: a3 :: a4 :: a5 :: a6 :: a7 :: lv) (.ref x :: st) := fun H locs ls hP hD hS hl => lv_astore C.1 C.2.1 d (gl_has hl) (show 7 < nL by rw [← hl.2.2.1]; simp) rfl (fun ls2 h2 => kk H locs ls2 hP hD hS (gl_back hl rfl h2 (fun _ q => q)))
theorem g_sstore_7 (C : gC p l s m args meth c cs A nL cc own rt) {a0 a1 a2 a3 a4 a5 a6 a7 : Option Value} {x : Int} (d : decode cc pc = .ok (.astore 7, 2)) (kk : GG p l e R s m args below meth c Q cs A nL k n np ad T (pc + 2) (a0 :: a1 :: a2 :: a3 :: a4 :: a5 :: a6 :: some (grf ad x) :: lv) st) : GG p l e R s m args below meth c Q cs A nL k n np ad T pc (a0 :: a1 :: a2 :: a3 :: a4 :: a5 :: a6 :: a7 :: lv) (grf ad x :: st) := fun H locs ls hP hD hS hl => by
  have h9 := fun ls2 hq => kk H locs ls2 hP hD hS hq
  revert h9
  unfold grf
  cases gO ad x with
  | none => exact fun h9 => lv_astoreN C.1 C.2.1 d (gl_has hl) (show 7 < nL by rw [← hl.2.2.1]; simp) rfl (fun ls2 h2 => h9 ls2 (gl_back hl rfl h2 (fun _ q => q)))
  | some y => exact fun h9 => lv_astore C.1 C.2.1 d (gl_has hl) (show 7 < nL by rw [← hl.2.2.1]; simp) rfl (fun ls2 h2 => h9 ls2 (gl_back hl rfl h2 (fun _ q => q)))
theorem g_iinc_7 (C : gC p l s m args meth c cs A nL cc own rt) {a0 a1 a2 a3 a4 a5 a6 : Option Value} {x v : Int} (d : decode cc pc = .ok (.iinc 7 v, 3)) (kk : GG p l e R s m args below meth c Q cs A nL k n np ad T (pc + 3) (a0 :: a1 :: a2 :: a3 :: a4 :: a5 :: a6 :: some (.int (zI (x + v))) :: lv) st) : GG p l e R s m args below meth c Q cs A nL k n np ad T pc (a0 :: a1 :: a2 :: a3 :: a4 :: a5 :: a6 :: some (.int (zI x)) :: lv) st := fun H locs ls hP hD hS hl => by
  have hh : lv_has ls nL ((7, .int (zI x)) :: glp nL (a0 :: a1 :: a2 :: a3 :: a4 :: a5 :: a6 :: some (.int (zI x)) :: lv)) := ⟨hl.1, hl.2.1, fun q hq => (List.mem_cons.mp hq).elim (fun e => by rw [e]; exact gl_at hl rfl) (fun hq => (gl_has hl).2.2 q hq)⟩
  exact lv_iinc (v := zI (x + v)) C.1 C.2.1 d hh (k := 0) rfl (by rw [← zI_add]; rfl) (show 7 < nL by rw [← hl.2.2.1]; simp) rfl (fun ls2 h2 => kk H locs ls2 hP hD hS (gl_back hl rfl h2 (fun _ q => List.mem_cons_of_mem _ q)))
theorem g_iload_8 (C : gC p l s m args meth c cs A nL cc own rt) {a0 a1 a2 a3 a4 a5 a6 a7 : Option Value} {x : Int32} (d : decode cc pc = .ok (.iload 8, 2)) (kk : GG p l e R s m args below meth c Q cs A nL k n np ad T (pc + 2) (a0 :: a1 :: a2 :: a3 :: a4 :: a5 :: a6 :: a7 :: some (.int x) :: lv) (.int x :: st)) : GG p l e R s m args below meth c Q cs A nL k n np ad T pc (a0 :: a1 :: a2 :: a3 :: a4 :: a5 :: a6 :: a7 :: some (.int x) :: lv) st := fun H locs ls hP hD hS hl => lv_iload C.1 C.2.1 d (gl_at hl rfl) (kk H locs ls hP hD hS hl)
theorem g_aload_8 (C : gC p l s m args meth c cs A nL cc own rt) {a0 a1 a2 a3 a4 a5 a6 a7 : Option Value} {x : Nat} (d : decode cc pc = .ok (.aload 8, 2)) (kk : GG p l e R s m args below meth c Q cs A nL k n np ad T (pc + 2) (a0 :: a1 :: a2 :: a3 :: a4 :: a5 :: a6 :: a7 :: some (.ref x) :: lv) (.ref x :: st)) : GG p l e R s m args below meth c Q cs A nL k n np ad T pc (a0 :: a1 :: a2 :: a3 :: a4 :: a5 :: a6 :: a7 :: some (.ref x) :: lv) st := fun H locs ls hP hD hS hl => lv_aload C.1 C.2.1 d (gl_at hl rfl) (kk H locs ls hP hD hS hl)
theorem g_sload_8 (C : gC p l s m args meth c cs A nL cc own rt) {a0 a1 a2 a3 a4 a5 a6 a7 : Option Value} {x : Int} (d : decode cc pc = .ok (.aload 8, 2)) (kk : GG p l e R s m args below meth c Q cs A nL k n np ad T (pc + 2) (a0 :: a1 :: a2 :: a3 :: a4 :: a5 :: a6 :: a7 :: some (grf ad x) :: lv) (grf ad x :: st)) : GG p l e R s m args below meth c Q cs A nL k n np ad T pc (a0 :: a1 :: a2 :: a3 :: a4 :: a5 :: a6 :: a7 :: some (grf ad x) :: lv) st := fun H locs ls hP hD hS hl => by
  have h9 := kk H locs ls hP hD hS hl
  have h8 := gl_at hl (i := 8) rfl
  revert h9 h8
  unfold grf
  cases gO ad x with
  | none => exact fun h9 h8 => lv_aloadN C.1 C.2.1 d h8 h9
  | some y => exact fun h9 h8 => lv_aload C.1 C.2.1 d h8 h9
theorem g_istore_8 (C : gC p l s m args meth c cs A nL cc own rt) {a0 a1 a2 a3 a4 a5 a6 a7 a8 : Option Value} {x : Int32} (d : decode cc pc = .ok (.istore 8, 2)) (kk : GG p l e R s m args below meth c Q cs A nL k n np ad T (pc + 2) (a0 :: a1 :: a2 :: a3 :: a4 :: a5 :: a6 :: a7 :: some (.int x) :: lv) st) : GG p l e R s m args below meth c Q cs A nL k n np ad T pc (a0 :: a1 :: a2 :: a3 :: a4 :: a5 :: a6 :: a7 :: a8 :: lv) (.int x :: st) := fun H locs ls hP hD hS hl => lv_istore C.1 C.2.1 d (gl_has hl) (show 8 < nL by rw [← hl.2.2.1]; simp) rfl (fun ls2 h2 => kk H locs ls2 hP hD hS (gl_back hl rfl h2 (fun _ q => q)))
theorem g_astore_8 (C : gC p l s m args meth c cs A nL cc own rt) {a0 a1 a2 a3 a4 a5 a6 a7 a8 : Option Value} {x : Nat} (d : decode cc pc = .ok (.astore 8, 2)) (kk : GG p l e R s m args below meth c Q cs A nL k n np ad T (pc + 2) (a0 :: a1 :: a2 :: a3 :: a4 :: a5 :: a6 :: a7 :: some (.ref x) :: lv) st) : GG p l e R s m args below meth c Q cs A nL k n np ad T pc (a0 :: a1 :: a2 :: a3 :: a4 :: a5 :: a6 :: a7 :: a8 :: lv) (.ref x :: st) := fun H locs ls hP hD hS hl => lv_astore C.1 C.2.1 d (gl_has hl) (show 8 < nL by rw [← hl.2.2.1]; simp) rfl (fun ls2 h2 => kk H locs ls2 hP hD hS (gl_back hl rfl h2 (fun _ q => q)))
theorem g_sstore_8 (C : gC p l s m args meth c cs A nL cc own rt) {a0 a1 a2 a3 a4 a5 a6 a7 a8 : Option Value} {x : Int} (d : decode cc pc = .ok (.astore 8, 2)) (kk : GG p l e R s m args below meth c Q cs A nL k n np ad T (pc + 2) (a0 :: a1 :: a2 :: a3 :: a4 :: a5 :: a6 :: a7 :: some (grf ad x) :: lv) st) : GG p l e R s m args below meth c Q cs A nL k n np ad T pc (a0 :: a1 :: a2 :: a3 :: a4 :: a5 :: a6 :: a7 :: a8 :: lv) (grf ad x :: st) := fun H locs ls hP hD hS hl => by
  have h9 := fun ls2 hq => kk H locs ls2 hP hD hS hq
  revert h9
  unfold grf
  cases gO ad x with
  | none => exact fun h9 => lv_astoreN C.1 C.2.1 d (gl_has hl) (show 8 < nL by rw [← hl.2.2.1]; simp) rfl (fun ls2 h2 => h9 ls2 (gl_back hl rfl h2 (fun _ q => q)))
  | some y => exact fun h9 => lv_astore C.1 C.2.1 d (gl_has hl) (show 8 < nL by rw [← hl.2.2.1]; simp) rfl (fun ls2 h2 => h9 ls2 (gl_back hl rfl h2 (fun _ q => q)))
theorem g_iinc_8 (C : gC p l s m args meth c cs A nL cc own rt) {a0 a1 a2 a3 a4 a5 a6 a7 : Option Value} {x v : Int} (d : decode cc pc = .ok (.iinc 8 v, 3)) (kk : GG p l e R s m args below meth c Q cs A nL k n np ad T (pc + 3) (a0 :: a1 :: a2 :: a3 :: a4 :: a5 :: a6 :: a7 :: some (.int (zI (x + v))) :: lv) st) : GG p l e R s m args below meth c Q cs A nL k n np ad T pc (a0 :: a1 :: a2 :: a3 :: a4 :: a5 :: a6 :: a7 :: some (.int (zI x)) :: lv) st := fun H locs ls hP hD hS hl => by
  have hh : lv_has ls nL ((8, .int (zI x)) :: glp nL (a0 :: a1 :: a2 :: a3 :: a4 :: a5 :: a6 :: a7 :: some (.int (zI x)) :: lv)) := ⟨hl.1, hl.2.1, fun q hq => (List.mem_cons.mp hq).elim (fun e => by rw [e]; exact gl_at hl rfl) (fun hq => (gl_has hl).2.2 q hq)⟩
  exact lv_iinc (v := zI (x + v)) C.1 C.2.1 d hh (k := 0) rfl (by rw [← zI_add]; rfl) (show 8 < nL by rw [← hl.2.2.1]; simp) rfl (fun ls2 h2 => kk H locs ls2 hP hD hS (gl_back hl rfl h2 (fun _ q => List.mem_cons_of_mem _ q)))
theorem g_iload_9 (C : gC p l s m args meth c cs A nL cc own rt) {a0 a1 a2 a3 a4 a5 a6 a7 a8 : Option Value} {x : Int32} (d : decode cc pc = .ok (.iload 9, 2)) (kk : GG p l e R s m args below meth c Q cs A nL k n np ad T (pc + 2) (a0 :: a1 :: a2 :: a3 :: a4 :: a5 :: a6 :: a7 :: a8 :: some (.int x) :: lv) (.int x :: st)) : GG p l e R s m args below meth c Q cs A nL k n np ad T pc (a0 :: a1 :: a2 :: a3 :: a4 :: a5 :: a6 :: a7 :: a8 :: some (.int x) :: lv) st := fun H locs ls hP hD hS hl => lv_iload C.1 C.2.1 d (gl_at hl rfl) (kk H locs ls hP hD hS hl)
theorem g_aload_9 (C : gC p l s m args meth c cs A nL cc own rt) {a0 a1 a2 a3 a4 a5 a6 a7 a8 : Option Value} {x : Nat} (d : decode cc pc = .ok (.aload 9, 2)) (kk : GG p l e R s m args below meth c Q cs A nL k n np ad T (pc + 2) (a0 :: a1 :: a2 :: a3 :: a4 :: a5 :: a6 :: a7 :: a8 :: some (.ref x) :: lv) (.ref x :: st)) : GG p l e R s m args below meth c Q cs A nL k n np ad T pc (a0 :: a1 :: a2 :: a3 :: a4 :: a5 :: a6 :: a7 :: a8 :: some (.ref x) :: lv) st := fun H locs ls hP hD hS hl => lv_aload C.1 C.2.1 d (gl_at hl rfl) (kk H locs ls hP hD hS hl)
theorem g_sload_9 (C : gC p l s m args meth c cs A nL cc own rt) {a0 a1 a2 a3 a4 a5 a6 a7 a8 : Option Value} {x : Int} (d : decode cc pc = .ok (.aload 9, 2)) (kk : GG p l e R s m args below meth c Q cs A nL k n np ad T (pc + 2) (a0 :: a1 :: a2 :: a3 :: a4 :: a5 :: a6 :: a7 :: a8 :: some (grf ad x) :: lv) (grf ad x :: st)) : GG p l e R s m args below meth c Q cs A nL k n np ad T pc (a0 :: a1 :: a2 :: a3 :: a4 :: a5 :: a6 :: a7 :: a8 :: some (grf ad x) :: lv) st := fun H locs ls hP hD hS hl => by
  have h9 := kk H locs ls hP hD hS hl
  have h8 := gl_at hl (i := 9) rfl
  revert h9 h8
  unfold grf
  cases gO ad x with
  | none => exact fun h9 h8 => lv_aloadN C.1 C.2.1 d h8 h9
  | some y => exact fun h9 h8 => lv_aload C.1 C.2.1 d h8 h9
theorem g_istore_9 (C : gC p l s m args meth c cs A nL cc own rt) {a0 a1 a2 a3 a4 a5 a6 a7 a8 a9 : Option Value} {x : Int32} (d : decode cc pc = .ok (.istore 9, 2)) (kk : GG p l e R s m args below meth c Q cs A nL k n np ad T (pc + 2) (a0 :: a1 :: a2 :: a3 :: a4 :: a5 :: a6 :: a7 :: a8 :: some (.int x) :: lv) st) : GG p l e R s m args below meth c Q cs A nL k n np ad T pc (a0 :: a1 :: a2 :: a3 :: a4 :: a5 :: a6 :: a7 :: a8 :: a9 :: lv) (.int x :: st) := fun H locs ls hP hD hS hl => lv_istore C.1 C.2.1 d (gl_has hl) (show 9 < nL by rw [← hl.2.2.1]; simp) rfl (fun ls2 h2 => kk H locs ls2 hP hD hS (gl_back hl rfl h2 (fun _ q => q)))
theorem g_astore_9 (C : gC p l s m args meth c cs A nL cc own rt) {a0 a1 a2 a3 a4 a5 a6 a7 a8 a9 : Option Value} {x : Nat} (d : decode cc pc = .ok (.astore 9, 2)) (kk : GG p l e R s m args below meth c Q cs A nL k n np ad T (pc + 2) (a0 :: a1 :: a2 :: a3 :: a4 :: a5 :: a6 :: a7 :: a8 :: some (.ref x) :: lv) st) : GG p l e R s m args below meth c Q cs A nL k n np ad T pc (a0 :: a1 :: a2 :: a3 :: a4 :: a5 :: a6 :: a7 :: a8 :: a9 :: lv) (.ref x :: st) := fun H locs ls hP hD hS hl => lv_astore C.1 C.2.1 d (gl_has hl) (show 9 < nL by rw [← hl.2.2.1]; simp) rfl (fun ls2 h2 => kk H locs ls2 hP hD hS (gl_back hl rfl h2 (fun _ q => q)))
theorem g_sstore_9 (C : gC p l s m args meth c cs A nL cc own rt) {a0 a1 a2 a3 a4 a5 a6 a7 a8 a9 : Option Value} {x : Int} (d : decode cc pc = .ok (.astore 9, 2)) (kk : GG p l e R s m args below meth c Q cs A nL k n np ad T (pc + 2) (a0 :: a1 :: a2 :: a3 :: a4 :: a5 :: a6 :: a7 :: a8 :: some (grf ad x) :: lv) st) : GG p l e R s m args below meth c Q cs A nL k n np ad T pc (a0 :: a1 :: a2 :: a3 :: a4 :: a5 :: a6 :: a7 :: a8 :: a9 :: lv) (grf ad x :: st) := fun H locs ls hP hD hS hl => by
  have h9 := fun ls2 hq => kk H locs ls2 hP hD hS hq
  revert h9
  unfold grf
  cases gO ad x with
  | none => exact fun h9 => lv_astoreN C.1 C.2.1 d (gl_has hl) (show 9 < nL by rw [← hl.2.2.1]; simp) rfl (fun ls2 h2 => h9 ls2 (gl_back hl rfl h2 (fun _ q => q)))
  | some y => exact fun h9 => lv_astore C.1 C.2.1 d (gl_has hl) (show 9 < nL by rw [← hl.2.2.1]; simp) rfl (fun ls2 h2 => h9 ls2 (gl_back hl rfl h2 (fun _ q => q)))
theorem g_iinc_9 (C : gC p l s m args meth c cs A nL cc own rt) {a0 a1 a2 a3 a4 a5 a6 a7 a8 : Option Value} {x v : Int} (d : decode cc pc = .ok (.iinc 9 v, 3)) (kk : GG p l e R s m args below meth c Q cs A nL k n np ad T (pc + 3) (a0 :: a1 :: a2 :: a3 :: a4 :: a5 :: a6 :: a7 :: a8 :: some (.int (zI (x + v))) :: lv) st) : GG p l e R s m args below meth c Q cs A nL k n np ad T pc (a0 :: a1 :: a2 :: a3 :: a4 :: a5 :: a6 :: a7 :: a8 :: some (.int (zI x)) :: lv) st := fun H locs ls hP hD hS hl => by
  have hh : lv_has ls nL ((9, .int (zI x)) :: glp nL (a0 :: a1 :: a2 :: a3 :: a4 :: a5 :: a6 :: a7 :: a8 :: some (.int (zI x)) :: lv)) := ⟨hl.1, hl.2.1, fun q hq => (List.mem_cons.mp hq).elim (fun e => by rw [e]; exact gl_at hl rfl) (fun hq => (gl_has hl).2.2 q hq)⟩
  exact lv_iinc (v := zI (x + v)) C.1 C.2.1 d hh (k := 0) rfl (by rw [← zI_add]; rfl) (show 9 < nL by rw [← hl.2.2.1]; simp) rfl (fun ls2 h2 => kk H locs ls2 hP hD hS (gl_back hl rfl h2 (fun _ q => List.mem_cons_of_mem _ q)))
theorem g_iload_10 (C : gC p l s m args meth c cs A nL cc own rt) {a0 a1 a2 a3 a4 a5 a6 a7 a8 a9 : Option Value} {x : Int32} (d : decode cc pc = .ok (.iload 10, 2)) (kk : GG p l e R s m args below meth c Q cs A nL k n np ad T (pc + 2) (a0 :: a1 :: a2 :: a3 :: a4 :: a5 :: a6 :: a7 :: a8 :: a9 :: some (.int x) :: lv) (.int x :: st)) : GG p l e R s m args below meth c Q cs A nL k n np ad T pc (a0 :: a1 :: a2 :: a3 :: a4 :: a5 :: a6 :: a7 :: a8 :: a9 :: some (.int x) :: lv) st := fun H locs ls hP hD hS hl => lv_iload C.1 C.2.1 d (gl_at hl rfl) (kk H locs ls hP hD hS hl)
theorem g_aload_10 (C : gC p l s m args meth c cs A nL cc own rt) {a0 a1 a2 a3 a4 a5 a6 a7 a8 a9 : Option Value} {x : Nat} (d : decode cc pc = .ok (.aload 10, 2)) (kk : GG p l e R s m args below meth c Q cs A nL k n np ad T (pc + 2) (a0 :: a1 :: a2 :: a3 :: a4 :: a5 :: a6 :: a7 :: a8 :: a9 :: some (.ref x) :: lv) (.ref x :: st)) : GG p l e R s m args below meth c Q cs A nL k n np ad T pc (a0 :: a1 :: a2 :: a3 :: a4 :: a5 :: a6 :: a7 :: a8 :: a9 :: some (.ref x) :: lv) st := fun H locs ls hP hD hS hl => lv_aload C.1 C.2.1 d (gl_at hl rfl) (kk H locs ls hP hD hS hl)
theorem g_sload_10 (C : gC p l s m args meth c cs A nL cc own rt) {a0 a1 a2 a3 a4 a5 a6 a7 a8 a9 : Option Value} {x : Int} (d : decode cc pc = .ok (.aload 10, 2)) (kk : GG p l e R s m args below meth c Q cs A nL k n np ad T (pc + 2) (a0 :: a1 :: a2 :: a3 :: a4 :: a5 :: a6 :: a7 :: a8 :: a9 :: some (grf ad x) :: lv) (grf ad x :: st)) : GG p l e R s m args below meth c Q cs A nL k n np ad T pc (a0 :: a1 :: a2 :: a3 :: a4 :: a5 :: a6 :: a7 :: a8 :: a9 :: some (grf ad x) :: lv) st := fun H locs ls hP hD hS hl => by
  have h9 := kk H locs ls hP hD hS hl
  have h8 := gl_at hl (i := 10) rfl
  revert h9 h8
  unfold grf
  cases gO ad x with
  | none => exact fun h9 h8 => lv_aloadN C.1 C.2.1 d h8 h9
  | some y => exact fun h9 h8 => lv_aload C.1 C.2.1 d h8 h9
theorem g_istore_10 (C : gC p l s m args meth c cs A nL cc own rt) {a0 a1 a2 a3 a4 a5 a6 a7 a8 a9 a10 : Option Value} {x : Int32} (d : decode cc pc = .ok (.istore 10, 2)) (kk : GG p l e R s m args below meth c Q cs A nL k n np ad T (pc + 2) (a0 :: a1 :: a2 :: a3 :: a4 :: a5 :: a6 :: a7 :: a8 :: a9 :: some (.int x) :: lv) st) : GG p l e R s m args below meth c Q cs A nL k n np ad T pc (a0 :: a1 :: a2 :: a3 :: a4 :: a5 :: a6 :: a7 :: a8 :: a9 :: a10 :: lv) (.int x :: st) := fun H locs ls hP hD hS hl => lv_istore C.1 C.2.1 d (gl_has hl) (show 10 < nL by rw [← hl.2.2.1]; simp) rfl (fun ls2 h2 => kk H locs ls2 hP hD hS (gl_back hl rfl h2 (fun _ q => q)))
theorem g_astore_10 (C : gC p l s m args meth c cs A nL cc own rt) {a0 a1 a2 a3 a4 a5 a6 a7 a8 a9 a10 : Option Value} {x : Nat} (d : decode cc pc = .ok (.astore 10, 2)) (kk : GG p l e R s m args below meth c Q cs A nL k n np ad T (pc + 2) (a0 :: a1 :: a2 :: a3 :: a4 :: a5 :: a6 :: a7 :: a8 :: a9 :: some (.ref x) :: lv) st) : GG p l e R s m args below meth c Q cs A nL k n np ad T pc (a0 :: a1 :: a2 :: a3 :: a4 :: a5 :: a6 :: a7 :: a8 :: a9 :: a10 :: lv) (.ref x :: st) := fun H locs ls hP hD hS hl => lv_astore C.1 C.2.1 d (gl_has hl) (show 10 < nL by rw [← hl.2.2.1]; simp) rfl (fun ls2 h2 => kk H locs ls2 hP hD hS (gl_back hl rfl h2 (fun _ q => q)))
theorem g_sstore_10 (C : gC p l s m args meth c cs A nL cc own rt) {a0 a1 a2 a3 a4 a5 a6 a7 a8 a9 a10 : Option Value} {x : Int} (d : decode cc pc = .ok (.astore 10, 2)) (kk : GG p l e R s m args below meth c Q cs A nL k n np ad T (pc + 2) (a0 :: a1 :: a2 :: a3 :: a4 :: a5 :: a6 :: a7 :: a8 :: a9 :: some (grf ad x) :: lv) st) : GG p l e R s m args below meth c Q cs A nL k n np ad T pc (a0 :: a1 :: a2 :: a3 :: a4 :: a5 :: a6 :: a7 :: a8 :: a9 :: a10 :: lv) (grf ad x :: st) := fun H locs ls hP hD hS hl => by
  have h9 := fun ls2 hq => kk H locs ls2 hP hD hS hq
  revert h9
  unfold grf
  cases gO ad x with
  | none => exact fun h9 => lv_astoreN C.1 C.2.1 d (gl_has hl) (show 10 < nL by rw [← hl.2.2.1]; simp) rfl (fun ls2 h2 => h9 ls2 (gl_back hl rfl h2 (fun _ q => q)))
  | some y => exact fun h9 => lv_astore C.1 C.2.1 d (gl_has hl) (show 10 < nL by rw [← hl.2.2.1]; simp) rfl (fun ls2 h2 => h9 ls2 (gl_back hl rfl h2 (fun _ q => q)))
theorem g_iinc_10 (C : gC p l s m args meth c cs A nL cc own rt) {a0 a1 a2 a3 a4 a5 a6 a7 a8 a9 : Option Value} {x v : Int} (d : decode cc pc = .ok (.iinc 10 v, 3)) (kk : GG p l e R s m args below meth c Q cs A nL k n np ad T (pc + 3) (a0 :: a1 :: a2 :: a3 :: a4 :: a5 :: a6 :: a7 :: a8 :: a9 :: some (.int (zI (x + v))) :: lv) st) : GG p l e R s m args below meth c Q cs A nL k n np ad T pc (a0 :: a1 :: a2 :: a3 :: a4 :: a5 :: a6 :: a7 :: a8 :: a9 :: some (.int (zI x)) :: lv) st := fun H locs ls hP hD hS hl => by
  have hh : lv_has ls nL ((10, .int (zI x)) :: glp nL (a0 :: a1 :: a2 :: a3 :: a4 :: a5 :: a6 :: a7 :: a8 :: a9 :: some (.int (zI x)) :: lv)) := ⟨hl.1, hl.2.1, fun q hq => (List.mem_cons.mp hq).elim (fun e => by rw [e]; exact gl_at hl rfl) (fun hq => (gl_has hl).2.2 q hq)⟩
  exact lv_iinc (v := zI (x + v)) C.1 C.2.1 d hh (k := 0) rfl (by rw [← zI_add]; rfl) (show 10 < nL by rw [← hl.2.2.1]; simp) rfl (fun ls2 h2 => kk H locs ls2 hP hD hS (gl_back hl rfl h2 (fun _ q => List.mem_cons_of_mem _ q)))
end
end
section
theorem grf_ref {ad : Nat → Nat} {x : Int} (h : 0 ≤ x) : grf ad x = .ref (ad (x.toNat + 13)) := by
  unfold grf gO
  rw [if_neg (by omega)]
  rfl
theorem grf_null {ad : Nat → Nat} {x : Int} (h : x < 0) : grf ad x = .null := by
  unfold grf gO
  rw [if_pos h]
  rfl
theorem grf_cat {ad : Nat → Nat} {x : Int} : (grf ad x).category = 1 := by
  unfold grf
  cases gO ad x <;> rfl
section
variable {p : Program} {l : Launch} {e : Env} {R : Room} {s : State} {m : MethodId} {args : Array Value} {below : List Frame} {meth : Method} {c : Code} {Q : State → Prop} {cs : CSt} {A : Nat → Prop} {nL : Nat}
variable {cc : ByteArray} {own : String} {rt : Option FieldType} {k n np : Nat} {ad : Nat → Nat} {T T' : MT} {pc : Nat} {lv : List (Option Value)} {st : List Value}
/-- the same place in the code and the world, said otherwise -/
theorem g_eq {T2 : MT} {lv2 : List (Option Value)} {st2 : List Value} (hT : T = T2) (hl : lv = lv2) (hs : st = st2) (kk : GG p l e R s m args below meth c Q cs A nL k n np ad T2 pc lv2 st2) : GG p l e R s m args below meth c Q cs A nL k n np ad T pc lv st := by
  subst hT; subst hl; subst hs; exact kk
theorem g_getG (C : gC p l s m args meth c cs A nL cc own rt) {ci f idx : Nat} {Cn : String} {TT : u_T} {N : Nat} {fs : List Value} {v : Value} {q : Nat} (hq : 13 ≤ np ∧ (q < 4 ∨ 13 ≤ q) ∧ q < np) (he : cel cs ad T q = .inr (ci, fs)) (hc : vwCl[ci]? = some (Cn, TT, N)) (hin : ∀ w ∈ u_ws Cn TT N, w ∈ GW) (hf : f < N) (hlink : Cond.fieldLink own idx (TT f).1 (TT f).2.1 (TT f).2.2.1 ∈ GW) (hv : fs[f]? = some v) (d : decode cc pc = .ok (.getfield idx, 3)) (kk : GG p l e R s m args below meth c Q cs A nL k n np ad T (pc + 3) lv (v :: st)) : GG p l e R s m args below meth c Q cs A nL k n np ad T pc lv (.ref (ad q) :: st) := fun H locs ls hP hD hS hl =>
  va_get (D := cs.1) (ci := ci) (v := v) (C := Cn) (T := TT) (N := N) C.1 C.2.1 C.2.2.2.2.1 hin C.2.2.2.1 C.2.2.2.2.2.2.1 hP (gJ q) (by rw [gW_get hq, he]) hc f hf (C.2.2.2.2.1 _ hlink) (fun _ h9 => h9) hv d (kk H locs ls hP hD hS hl)
theorem g_putG (C : gC p l s m args meth c cs A nL cc own rt) {ci f idx : Nat} {Cn : String} {TT : u_T} {N : Nat} {fs : List Value} {v : Value} {q : Nat} {tyf : Nat → FieldType} {ty : FieldType} (hq : 13 ≤ np ∧ (q < 4 ∨ 13 ≤ q) ∧ q < np) (he : cel cs ad T q = .inr (ci, fs)) (hc : vwCl[ci]? = some (Cn, TT, N)) (hin : ∀ w ∈ u_ws Cn TT N, w ∈ GW) (hty : ∀ k, k < N → parseFieldDescriptor (TT k).2.2.1 = some (tyf k)) (hnm : ∀ a, a < N → ∀ b, b < N → a ≠ b → (TT a).2.1 ≠ (TT b).2.1) (hf : f < N) (hlink : Cond.fieldLink own idx (TT f).1 (TT f).2.1 (TT f).2.2.1 ∈ GW) (hfin : (TT f).2.2.2 = false) (hd : parseFieldDescriptor (TT f).2.2.1 = some ty) (hn : narrow ty v = v) (hfit : fits ty v = true) (hlen : f < fs.length) (he' : cel cs ad T' q = .inr (ci, fs.set f v)) (ho : ∀ j, j ≠ q → cel cs ad T' j = cel cs ad T j) (d : decode cc pc = .ok (.putfield idx, 3)) (kk : GG p l e R s m args below meth c Q cs A nL k n np ad T' (pc + 3) lv st) : GG p l e R s m args below meth c Q cs A nL k n np ad T pc lv (v :: .ref (ad q) :: st) := fun H locs ls hP hD hS hl =>
  va_put (D := cs.1) (ci := ci) (v := v) (ty := ty) (C := Cn) (T := TT) (N := N) C.1 C.2.1 C.2.2.2.2.1 hin tyf hty hnm C.2.2.2.1 C.2.2.2.2.2.2.1 hP hD hS (gJ q) (by rw [gW_get hq, he]) hc f hf (C.2.2.2.2.1 _ hlink) (fun _ h9 => h9) hfin hd hn hfit hlen d (fun H1 locs1 hP1 hD1 hS1 => by
    have e1 := gW_set (x := .inr (ci, fs.set f v)) hq he' ho
    rw [e1] at hP1 hD1
    exact kk H1 locs1 ls hP1 hD1 hS1 hl)
theorem g_putFG (C : gC p l s m args meth c cs A nL cc own rt) {ci f idx : Nat} {Cn : String} {TT : u_T} {N : Nat} {fs : List Value} {v : Value} {q : Nat} {tyf : Nat → FieldType} {ty : FieldType} (hq : 13 ≤ np ∧ (q < 4 ∨ 13 ≤ q) ∧ q < np) (he : cel cs ad T q = .inr (ci, fs)) (hc : vwCl[ci]? = some (Cn, TT, N)) (hin : ∀ w ∈ u_ws Cn TT N, w ∈ GW) (hty : ∀ k, k < N → parseFieldDescriptor (TT k).2.2.1 = some (tyf k)) (hnm : ∀ a, a < N → ∀ b, b < N → a ≠ b → (TT a).2.1 ≠ (TT b).2.1) (hf : f < N) (hlink : Cond.fieldLink own idx (TT f).1 (TT f).2.1 (TT f).2.2.1 ∈ GW) (hfin : (TT f).2.2.2 = true) (hin2 : meth.name = "<init>") (hdecl : (TT f).1 = own) (hd : parseFieldDescriptor (TT f).2.2.1 = some ty) (hn : narrow ty v = v) (hfit : fits ty v = true) (hlen : f < fs.length) (he' : cel cs ad T' q = .inr (ci, fs.set f v)) (ho : ∀ j, j ≠ q → cel cs ad T' j = cel cs ad T j) (d : decode cc pc = .ok (.putfield idx, 3)) (kk : GG p l e R s m args below meth c Q cs A nL k n np ad T' (pc + 3) lv st) : GG p l e R s m args below meth c Q cs A nL k n np ad T pc lv (v :: .ref (ad q) :: st) := fun H locs ls hP hD hS hl =>
  va_putF (D := cs.1) (ci := ci) (v := v) (ty := ty) (C := Cn) (T := TT) (N := N) C.1 C.2.1 C.2.2.2.2.1 hin tyf hty hnm C.2.2.2.1 C.2.2.2.2.2.2.1 hP hD hS (gJ q) (by rw [gW_get hq, he]) hc f hf (C.2.2.2.2.1 _ hlink) (fun _ h9 => h9) hfin hin2 hdecl hd hn hfit hlen d (fun H1 locs1 hP1 hD1 hS1 => by
    have e1 := gW_set (x := .inr (ci, fs.set f v)) hq he' ho
    rw [e1] at hP1 hD1
    exact kk H1 locs1 ls hP1 hD1 hS1 hl)
/-! arrays -/
theorem g_iald (C : gC p l s m args meth c cs A nL cc own rt) {q N : Nat} {i : Int} {f : Nat → Int32} (hq : 13 ≤ np ∧ (q < 4 ∨ 13 ≤ q) ∧ q < np) (he : cel cs ad T q = .inl (cs.2.1 0, N, .inl f)) (hi : 0 ≤ i ∧ i < N) (hN : N < 2147483648) (d : decode cc pc = .ok (.iaload, 1)) (kk : GG p l e R s m args below meth c Q cs A nL k n np ad T (pc + 1) lv (.int (f i.toNat) :: st)) : GG p l e R s m args below meth c Q cs A nL k n np ad T pc lv (.int (zI i) :: .ref (ad q) :: st) := fun H locs ls hP hD hS hl =>
  va_iald C.1 C.2.1 C.2.2.2.2.2.2.1 hP (gJ q) 0 (by rw [gW_get hq, he]) rfl (zI_in hi hN) d (by rw [zI_nat (by omega)]; exact kk H locs ls hP hD hS hl)
theorem g_aald (C : gC p l s m args meth c cs A nL cc own rt) (hq : 13 ≤ np) {i : Int} (hi : 0 ≤ i ∧ i < 60) (d : decode cc pc = .ok (.aaload, 1)) (kk : GG p l e R s m args below meth c Q cs A nL k n np ad T (pc + 1) lv (grf ad (mkd T i.toNat) :: st)) : GG p l e R s m args below meth c Q cs A nL k n np ad T pc lv (.int (zI i) :: .ref (ad 1) :: st) := fun H locs ls hP hD hS hl =>
  va_aldq (C := RX0) C.1 C.2.1 C.2.2.2.2.2.2.1 hP (gJ 1) 1 (by rw [gW_get (by omega)]; rfl) rfl (zI_in (n := 60) (by omega) (by decide)) d (by rw [zI_nat (by omega)]; exact kk H locs ls hP hD hS hl)
theorem upd_zI {T T' : MT} {r i : Nat} {z : Int} (h : T' = mst T r i z) : upd (fun j => zI (T r j)) i (zI z) = fun j => zI (T' r j) := by
  subst h
  funext j
  by_cases hj : j = i
  · subst hj
    rw [pk_us, mst_eq]
  · rw [pk_un hj, mst_i hj]
theorem g_iast (C : gC p l s m args meth c cs A nL cc own rt) {q N : Nat} {i z : Int} (hq : 13 ≤ np ∧ (q < 4 ∨ 13 ≤ q) ∧ q < np) (h13 : q < 13) (he : ∀ T : MT, cel cs ad T q = .inl (cs.2.1 0, N, .inl (fun j => zI (T q j)))) (hi : 0 ≤ i ∧ i < N) (hN : N < 2147483648) (d : decode cc pc = .ok (.iastore, 1)) (kk : GG p l e R s m args below meth c Q cs A nL k n np ad (mst T q i.toNat z) (pc + 1) lv st) : GG p l e R s m args below meth c Q cs A nL k n np ad T pc lv (.int (zI z) :: .int (zI i) :: .ref (ad q) :: st) := fun H locs ls hP hD hS hl =>
  va_iast C.1 C.2.1 C.2.2.2.2.2.2.1 hP hD hS (gJ q) 0 (by rw [gW_get hq, he T]) rfl (zI_in hi hN) d (fun H1 locs1 hP1 hD1 hS1 => by
    rw [zI_nat (by omega), upd_zI rfl] at hP1 hD1
    have e1 := gW_set (cs := cs) (ad := ad) (T := T) (T' := mst T q i.toNat z) hq (he _) (cel_reg q h13 (fun r j hr => mst_r hr))
    rw [e1] at hP1 hD1
    exact kk H1 locs1 ls hP1 hD1 hS1 hl)
theorem nar_bool {z : Int} (h : z = 0 ∨ z = 1) : vp_nar .boolean (zI z) = zI z := by
  rcases h with rfl | rfl <;> decide
/-- made[i] = null -/
theorem g_aastN (C : gC p l s m args meth c cs A nL cc own rt) {i : Int} (hq : 13 ≤ np) (hi : 0 ≤ i ∧ i < 60) (d : decode cc pc = .ok (.aastore, 1)) (kk : GG p l e R s m args below meth c Q cs A nL k n np ad (mst T 1 i.toNat 0) (pc + 1) lv st) : GG p l e R s m args below meth c Q cs A nL k n np ad T pc lv (.null :: .int (zI i) :: .ref (ad 1) :: st) := fun H locs ls hP hD hS hl =>
  va_astqN (C := RX0) C.1 C.2.1 C.2.2.2.2.2.2.1 hP hD hS (gJ 1) 1 (by rw [gW_get (by omega)]; rfl) rfl (zI_in (n := 60) (by omega) (by decide)) d (fun H1 locs1 hP1 hD1 hS1 => by
    have e0 : va_up (fun j => gO ad (mkd T j)) i.toNat none = fun j => gO ad (mkd (mst T 1 i.toNat 0) j) := by
      funext j
      by_cases hj : j = i.toNat
      · rw [hj, va_up_self]
        simp [mkd, mst, gO]
      · rw [va_up_ne _ _ hj]
        simp [mkd, mst, hj]
    rw [zI_nat (by omega), e0] at hP1 hD1
    have e1 := gW_set (cs := cs) (np := np) (ad := ad) (T := T) (T' := mst T 1 i.toNat 0) (k := 1) (by omega) rfl (cel_reg 1 (by decide) (fun r j hr => mst_r hr))
    exact kk H1 locs1 ls (by rw [← e1]; exact hP1) (by rw [← e1]; exact hD1) hS1 hl)
/-- made[i] = the span i -/
theorem g_aast (C : gC p l s m args meth c cs A nL cc own rt) {i : Int} (hq : i + 13 < np) (hi : 0 ≤ i ∧ i < 60) (d : decode cc pc = .ok (.aastore, 1)) (kk : GG p l e R s m args below meth c Q cs A nL k n np ad (mst T 1 i.toNat 1) (pc + 1) lv st) : GG p l e R s m args below meth c Q cs A nL k n np ad T pc lv (grf ad i :: .int (zI i) :: .ref (ad 1) :: st) := fun H locs ls hP hD hS hl => by
  rw [grf_ref hi.1]
  refine va_astq (r := (RX0, TX0, 5)) (ci := 0) C.1 C.2.1 C.2.2.2.2.2.2.1 hP hD hS (gJ 1) 1 (gJ (i.toNat + 13)) (by rw [gW_get (by omega)]; rfl) rfl (by rw [gW_get (by omega)]; rfl) rfl (zI_in (n := 60) (by omega) (by decide)) d (fun H1 locs1 hP1 hD1 hS1 => ?_)
  have e0 : va_up (fun j => gO ad (mkd T j)) i.toNat (some (ad (i.toNat + 13))) = fun j => gO ad (mkd (mst T 1 i.toNat 1) j) := by
      funext j
      by_cases hj : j = i.toNat
      · rw [hj, va_up_self]
        have h2 : mkd (mst T 1 i.toNat 1) i.toNat = (i.toNat : Int) := by simp [mkd, mst]
        rw [h2]
        unfold gO
        rw [if_neg (by omega), Int.toNat_natCast]
      · rw [va_up_ne _ _ hj]
        simp [mkd, mst, hj]
  rw [zI_nat (by omega), e0] at hP1 hD1
  have e1 := gW_set (cs := cs) (np := np) (ad := ad) (T := T) (T' := mst T 1 i.toNat 1) (k := 1) (by omega) rfl (cel_reg 1 (by decide) (fun r j hr => mst_r hr))
  exact kk H1 locs1 ls (by rw [← e1]; exact hP1) (by rw [← e1]; exact hD1) hS1 hl
theorem g_alen1 (C : gC p l s m args meth c cs A nL cc own rt) (hq : 13 ≤ np) (d : decode cc pc = .ok (.arraylength, 1)) (kk : GG p l e R s m args below meth c Q cs A nL k n np ad T (pc + 1) lv (.int (zI 60) :: st)) : GG p l e R s m args below meth c Q cs A nL k n np ad T pc lv (.ref (ad 1) :: st) := fun H locs ls hP hD hS hl =>
  va_alen C.1 C.2.1 C.2.2.2.2.2.2.1 hP (gJ 1) 1 (by rw [gW_get (by omega)]; rfl) rfl (show Int32.ofNat 60 = zI 60 by decide) d (kk H locs ls hP hD hS hl)
theorem g_alen2 (C : gC p l s m args meth c cs A nL cc own rt) (hq : 13 ≤ np) (d : decode cc pc = .ok (.arraylength, 1)) (kk : GG p l e R s m args below meth c Q cs A nL k n np ad T (pc + 1) lv (.int (zI 4096) :: st)) : GG p l e R s m args below meth c Q cs A nL k n np ad T pc lv (.ref (ad 2) :: st) := fun H locs ls hP hD hS hl =>
  va_alen C.1 C.2.1 C.2.2.2.2.2.2.1 hP (gJ 2) 0 (by rw [gW_get (by omega)]; rfl) rfl (show Int32.ofNat 4096 = zI 4096 by decide) d (kk H locs ls hP hD hS hl)
theorem g_alen3 (C : gC p l s m args meth c cs A nL cc own rt) (hq : 13 ≤ np) (d : decode cc pc = .ok (.arraylength, 1)) (kk : GG p l e R s m args below meth c Q cs A nL k n np ad T (pc + 1) lv (.int (zI 4096) :: st)) : GG p l e R s m args below meth c Q cs A nL k n np ad T pc lv (.ref (ad 3) :: st) := fun H locs ls hP hD hS hl =>
  va_alen C.1 C.2.1 C.2.2.2.2.2.2.1 hP (gJ 3) 0 (by rw [gW_get (by omega)]; rfl) rfl (show Int32.ofNat 4096 = zI 4096 by decide) d (kk H locs ls hP hD hS hl)
/-! references to spans -/
theorem g_ifnull (C : gC p l s m args meth c cs A nL cc own rt) {x off : Int} {tgt : Nat} (d : decode cc pc = .ok (.ifnull off, 3)) (ht : (pc : Int) + off = (tgt : Int)) (kt : x < 0 → GG p l e R s m args below meth c Q cs A nL k n np ad T tgt lv st) (kf : 0 ≤ x → GG p l e R s m args below meth c Q cs A nL k n np ad T (pc + 3) lv st) : GG p l e R s m args below meth c Q cs A nL k n np ad T pc lv (grf ad x :: st) := fun H locs ls hP hD hS hl => by
  by_cases h : x < 0
  · rw [grf_null h]
    exact lv_ifnullN C.1 C.2.1 d ht (kt h H locs ls hP hD hS hl)
  · rw [grf_ref (by omega)]
    exact lv_ifnull C.1 C.2.1 d (kf (by omega) H locs ls hP hD hS hl)
theorem g_ifnonnull (C : gC p l s m args meth c cs A nL cc own rt) {x off : Int} {tgt : Nat} (d : decode cc pc = .ok (.ifnonnull off, 3)) (ht : (pc : Int) + off = (tgt : Int)) (kt : 0 ≤ x → GG p l e R s m args below meth c Q cs A nL k n np ad T tgt lv st) (kf : x < 0 → GG p l e R s m args below meth c Q cs A nL k n np ad T (pc + 3) lv st) : GG p l e R s m args below meth c Q cs A nL k n np ad T pc lv (grf ad x :: st) := fun H locs ls hP hD hS hl => by
  by_cases h : x < 0
  · rw [grf_null h]
    exact lv_ifnonnullN C.1 C.2.1 d (kf h H locs ls hP hD hS hl)
  · rw [grf_ref (by omega)]
    exact lv_ifnonnull C.1 C.2.1 d ht (kt (by omega) H locs ls hP hD hS hl)
theorem gO_inj {cs : CSt} {A : Nat → Prop} {np : Nat} {ad : Nat → Nat} {T : MT} (hD : va_D A (gW cs np ad T)) {x y : Int} (hx : -1 ≤ x ∧ x + 13 < np) (hy : -1 ≤ y ∧ y + 13 < np) : gO ad x = gO ad y ↔ x = y := by
  constructor
  · intro h
    unfold gO at h
    by_cases h1 : x < 0 <;> by_cases h2 : y < 0
    · omega
    · rw [if_pos h1, if_neg h2] at h; cases h
    · rw [if_neg h1, if_pos h2] at h; cases h
    · rw [if_neg h1, if_neg h2] at h
      have h3 := Option.some.inj h
      have h4 := hD.1 (gJ (x.toNat + 13)) (gJ (y.toNat + 13)) _ _ (gW_get (by omega)) (gW_get (by omega)) h3
      have h5 : ∀ z : Nat, gJ (z + 13) = z + 4 := fun z => by unfold gJ; rw [if_neg (by omega)]; omega
      rw [h5, h5] at h4
      omega
  · intro h; rw [h]
theorem g_acmp_ne (C : gC p l s m args meth c cs A nL cc own rt) {x y off : Int} {tgt : Nat} (d : decode cc pc = .ok (.if_acmp .ne off, 3)) (ht : (pc : Int) + off = (tgt : Int)) (hx : -1 ≤ x ∧ x + 13 < np) (hy : -1 ≤ y ∧ y + 13 < np) (kt : x ≠ y → GG p l e R s m args below meth c Q cs A nL k n np ad T tgt lv st) (kf : x = y → GG p l e R s m args below meth c Q cs A nL k n np ad T (pc + 3) lv st) : GG p l e R s m args below meth c Q cs A nL k n np ad T pc lv (grf ad y :: grf ad x :: st) := fun H locs ls hP hD hS hl =>
  lv_acmp_ne C.1 C.2.1 d ht (fun h => kt (fun q => h ((gO_inj hD hx hy).mpr q)) H locs ls hP hD hS hl) (fun h => kf ((gO_inj hD hx hy).mp h) H locs ls hP hD hS hl)
theorem g_acmp_eq (C : gC p l s m args meth c cs A nL cc own rt) {x y off : Int} {tgt : Nat} (d : decode cc pc = .ok (.if_acmp .eq off, 3)) (ht : (pc : Int) + off = (tgt : Int)) (hx : -1 ≤ x ∧ x + 13 < np) (hy : -1 ≤ y ∧ y + 13 < np) (kt : x = y → GG p l e R s m args below meth c Q cs A nL k n np ad T tgt lv st) (kf : x ≠ y → GG p l e R s m args below meth c Q cs A nL k n np ad T (pc + 3) lv st) : GG p l e R s m args below meth c Q cs A nL k n np ad T pc lv (grf ad y :: grf ad x :: st) := fun H locs ls hP hD hS hl =>
  lv_acmp_eq C.1 C.2.1 d ht (fun h => kt ((gO_inj hD hx hy).mp h) H locs ls hP hD hS hl) (fun h => kf (fun q => h ((gO_inj hD hx hy).mpr q)) H locs ls hP hD hS hl)
end
end
section
theorem gX_at {cs : CSt} {A A1 : Nat → Prop} {s U : State} {H : Heap} {locs : List Loc} (h : gX cs A s s.heap) (hS : va_S A s.heap H locs) (h1 : ∀ q, A1 q → A q) (hU : U.heap = H) (hW : s.WarmedH U.vm) : gX cs A1 U U.heap := by
  refine ⟨?_, ?_, fun q hq => vk_R.warm hW (h.2.2.1 q hq), gBd_warm hW h.2.2.2.1, fun q hq => va_Nc.moved hW.alike (h.2.2.2.2 q hq)⟩
  · rw [hU]
    exact vx_Zq.moved hW.alike ((h.1.kept hS.2.1).narrow h1)
  · rw [hU]
    exact vx_Zq.moved hW.alike ((h.2.1.kept hS.2.1).narrow h1)
theorem gB_blind {cs : CSt} {np : Nat} {ad : Nat → Nat} {T : MT} {sz : Nat} {av : List Value} : FrameBlind (va_Pc av (gB cs np ad T sz)) := fun a U g mk h => by
  obtain ⟨h0, h1, h2, h3, h4, h5, h6, h7, h8, h9⟩ := h
  exact ⟨h0, h1, h2, va_K.moved (u := U) (U := U.calling g mk a) (Vm.Alike.refl U.vm) h3, h4, vx_Zq.moved (u := U) (U := U.calling g mk a) (Vm.Alike.refl U.vm) h5, vx_Zq.moved (u := U) (U := U.calling g mk a) (Vm.Alike.refl U.vm) h6, fun q hq => vk_R.same rfl (h7 q hq), fun w hw => va_Nw.same (u := U) (U := U.calling g mk a) (gBd_ot w hw) rfl (h8 w hw), fun q hq => va_Nc.moved (u := U) (U := U.calling g mk a) (Vm.Alike.refl U.vm) (h9 q hq)⟩
theorem GW_good {x : Cond} {w : Cond} (h : w ∈ GW) : w ∈ x :: GW ∧ ((w.onTables && w.keeps) = true ∨ ∃ ty, w = .arrayClass ty) := ⟨List.mem_cons_of_mem _ h, good_of_word (List.mem_filter.mp h).2⟩
theorem GW_in {ws : List Cond} (h : ∀ w ∈ ws, w ∈ GW) : GoodIn GW ws := fun w hw => ⟨h w hw, good_of_word (List.mem_filter.mp (h w hw)).2⟩
theorem GW_V {own C : String} {idx maxL : Nat} {y : MethodName} {b : ByteArray} {ret : Option FieldType} (h1 : Cond.methodLink own idx y ∈ GW) (h2 : Cond.instanceMethod y ∈ GW) (h3 : Cond.selects C y y ∈ GW) (h4 : Cond.initialized C ∈ GW) (h5 : Cond.code y b maxL ret ∈ GW) : GoodIn GW (wsV own idx C y (Cond.code y b maxL ret :: GW)) := GW_in fun w hw => by
  simp only [wsV, List.cons_append, List.nil_append, List.mem_cons] at hw
  rcases hw with rfl | rfl | rfl | rfl | rfl | hw
  · exact h1
  · exact h2
  · exact h3
  · exact h4
  · exact h5
  · exact hw
theorem GW_S {own : String} {idx maxL : Nat} {y : MethodName} {b : ByteArray} {ret : Option FieldType} (h1 : Cond.methodLink own idx y ∈ GW) (h2 : Cond.static y ∈ GW) (h4 : Cond.initialized y.cls ∈ GW) (h5 : Cond.code y b maxL ret ∈ GW) : GoodIn GW (va_wsS own idx y (Cond.code y b maxL ret :: GW)) := GW_in fun w hw => by
  simp only [va_wsS, List.cons_append, List.nil_append, List.mem_cons] at hw
  rcases hw with rfl | rfl | rfl | rfl | hw
  · exact h1
  · exact h2
  · exact h4
  · exact h5
  · exact hw
section
variable {p : Program} {l : Launch} {e : Env} {R : Room} {s : State} {m : MethodId} {args : Array Value} {below : List Frame} {meth : Method} {c : Code} {Q : State → Prop} {cs : CSt} {A : Nat → Prop} {nL : Nat}
variable {cc : ByteArray} {own : String} {rt : Option FieldType} {k n np : Nat} {ad : Nat → Nat} {T : MT} {pc : Nat} {lv : List (Option Value)} {st : List Value}
variable {PR : Option Value → St3 → Prop} {PX : String → St3 → Prop} {mc ms : Nat}
/-- what a body owes at its end -/
def kQ (cs : CSt) (A : Nat → Prop) (PR : Option Value → St3 → Prop) (PX : String → St3 → Prop) (below : List Frame) (args : Array Value) (s : State) (mc ms : Nat) : State → Prop := vx_MQ below (gQ cs A PR) (gXC cs A PX) args s mc ms A
theorem KC_of {y : MethodName} {d : Nat} {av : List Value} (hy : plainName y.cls = true) (hc : ∀ v ∈ av, v.category = 1) (hn : av.length ≤ nL)
    (body : ∀ p e s m args below meth c A, gC p l s m args meth c cs A nL cc y.cls rt → (∀ x ∈ c.exceptionTable.toList, False) → meth.name = y.name → GG p l e (rmL d mc ms) s m args below meth c (kQ cs A PR PX below args s mc ms) cs A nL 0 0 np ad T 0 (av.map some ++ List.replicate (nL - av.length) none) []) :
    KC l cs y (Cond.code y cc nL rt :: GW) d mc ms av np ad T PR PX := by
  intro hl sz
  refine vx_ofW (cc := cc) (maxL := nL) (ret := rt) hy rfl ?_
  intro p e s m args below meth c s₁ B hml hexc hv
  obtain ⟨rfl, hsz, hP, hK, hD0, hX⟩ := hv
  subst hsz
  have hD := hD0.self (sz := s.heap.size)
  have hts := atoms_spec (ws := Cond.code y cc nL rt :: GW) B.pre
  rw [lg_entry_eq]
  exact body p e s m _ below meth c (va_A (gW cs np ad T) s.heap.size) ⟨B.exec, B.bytes, hml, findClass_of_methodNamed B.named, fun w hw => hts w (List.mem_cons_of_mem _ hw), B.notSynchronized, hK, fun q h => Or.inr h, hX, hl, B.returns⟩ hexc (name_of_methodNamed B.named B.method).1 s.heap [] _ hP hD va_S.rf (gl_entry av hc hn)
theorem g_end {v : Option Value} (hpr : PR v (np, ad, T)) {H : Heap} {locs : List Loc} (hP : va_P cs.1 vwCl (gW cs np ad T) H) (hD : va_D A (gW cs np ad T)) (hS : va_S A s.heap H locs) : ∀ t : State, t.heap = H → s.WarmedH t.vm → gQ cs A PR args s (.returned v) t := fun t ht hW =>
  ⟨⟨v, (np, ad, T), rfl, hpr, by rw [ht]; exact hP, hD⟩, hS.F ht⟩
theorem g_iret (C : gC p l s m args meth c cs A nL cc own (some .int)) {v : Int32} (hk : k ≤ mc) (hn : n ≤ ms) (d : decode cc pc = .ok (.ireturn, 1)) (kk : PR (some (.int v)) (np, ad, T)) : GG p l e R s m args below meth c (kQ cs A PR PX below args s mc ms) cs A nL k n np ad T pc lv [.int v] := fun H locs ls hP hD hS hl =>
  vx_ret (W.widen hk hn (W.iret C.1 C.2.1 C.2.2.2.2.2.2.2.2.2.2 (g_end kk hP hD hS) hS.2.2 d C.2.2.2.2.2.1))
theorem g_zret (C : gC p l s m args meth c cs A nL cc own (some .boolean)) {v : Int} (hv : v = 0 ∨ v = 1) (hk : k ≤ mc) (hn : n ≤ ms) (d : decode cc pc = .ok (.ireturn, 1)) (kk : PR (some (.int (zI v))) (np, ad, T)) : GG p l e R s m args below meth c (kQ cs A PR PX below args s mc ms) cs A nL k n np ad T pc lv [.int (zI v)] := fun H locs ls hP hD hS hl =>
  vx_ret (W.widen hk hn (W.zret C.1 C.2.1 C.2.2.2.2.2.2.2.2.2.2 (by rcases hv with rfl | rfl <;> decide) (g_end kk hP hD hS) hS.2.2 d C.2.2.2.2.2.1))
theorem g_vret (C : gC p l s m args meth c cs A nL cc own none) (hk : k ≤ mc) (hn : n ≤ ms) (d : decode cc pc = .ok (.return_, 1)) (kk : PR none (np, ad, T)) : GG p l e R s m args below meth c (kQ cs A PR PX below args s mc ms) cs A nL k n np ad T pc lv [] := fun H locs ls hP hD hS hl =>
  vx_ret (W.widen hk hn (W.vret C.1 C.2.1 C.2.2.2.2.2.2.2.2.2.2 (g_end kk hP hD hS) hS.2.2 d C.2.2.2.2.2.1))
theorem g_aret (C : gC p l s m args meth c cs A nL cc own (some (.object "PrefixYard$Span"))) {v : Value} (hv : v = .null ∨ ∃ a, v = .ref a) (hk : k ≤ mc) (hn : n ≤ ms) (d : decode cc pc = .ok (.areturn, 1)) (kk : PR (some v) (np, ad, T)) : GG p l e R s m args below meth c (kQ cs A PR PX below args s mc ms) cs A nL k n np ad T pc lv [v] := fun H locs ls hP hD hS hl =>
  vx_ret (W.widen hk hn (W.aret C.1 C.2.1 C.2.2.2.2.2.2.2.2.2.2 (Or.inl ⟨_, rfl⟩) hv (g_end kk hP hD hS) hS.2.2 d C.2.2.2.2.2.1))
theorem grf_or {ad : Nat → Nat} {x : Int} : grf ad x = .null ∨ ∃ a, grf ad x = .ref a := va_rf_or _
/-- behind a call -/
theorem g_call0 (C : gC p l s m args meth c cs A nL cc own rt) {PR' : Option Value → St3 → Prop} {PX' : String → St3 → Prop} {mc' ms' : Nat} {a : Array Value} {rest st0 : List Value}
    (hr : ∀ (H : Heap) (locs : List Loc) (ls : Array Slot), va_P cs.1 vwCl (gW cs np ad T) H → va_D A (gW cs np ad T) → va_S A s.heap H locs → gl ls nL lv → vx_Run p l e R s m args below meth c H locs k n mc' ms' (F0 m pc ls st0) rest (gQ cs (va_A (gW cs np ad T) H.size) PR' a) (gXC cs (va_A (gW cs np ad T) H.size) PX') (va_A (gW cs np ad T) H.size))
    (kx : ∀ (E : String) (u : St3), PX' E u → ∀ (H : Heap) (locs : List Loc) (ls : Array Slot) (q : Addr) (ce : Cell), va_P cs.1 vwCl (gW cs u.1 u.2.1 u.2.2) H → va_D A (gW cs u.1 u.2.1 u.2.2) → va_S A s.heap H locs → gl ls nL lv → H[q]? = some ce → ce.vm = .none → s.vm.findClass E = some ce.cls → vx_W p l e R s m args below meth c H locs (k + mc') (n + ms') Q (F0 m pc ls rest) q)
    (kk : ∀ (v : Option Value) (u : St3), PR' v u → GG p l e R s m args below meth c Q cs A nL (k + mc') (n + ms') u.1 u.2.1 u.2.2 (pc + 3) lv (v.toList ++ rest)) : GG p l e R s m args below meth c Q cs A nL k n np ad T pc lv st0 := by
  intro H locs ls hP hD hS hl T0 hT X
  have hA1 : ∀ q, va_A (gW cs np ad T) H.size q → A q := fun q h => by
    rcases h with ⟨j, e9, h⟩ | h
    · exact hD.2 j _ h
    · exact C.2.2.2.2.2.2.2.1 q (Nat.le_trans hS.1 h)
  rcases hr H locs ls hP hD hS hl T0 hT X with ⟨v, st₀, t, T', L, h0, X', hL, e1, e2, ⟨⟨v', u, hv, hp, hb⟩, hF⟩, st⟩ | ⟨q, st₀, t, T', L, E, ce, h0, X', hL, e1, e2, ⟨u, hp, hb, hF⟩, hce, hcv, hcl, st⟩
  · cases hv
    obtain ⟨k1, k2, k3⟩ := vx_keep h0 e1 hS (fun q _ h => hA1 q h) hA1 hL hF
    obtain ⟨t2, a1, b1⟩ := kk v u hp T'.heap (locs ++ L) ls (by rw [e1]; exact hb.1) (hb.2.weaken (fun _ q _ h => hA1 q.1 h)) k3 hl T' rfl X'
    exact ⟨t2, st t2 a1, b1⟩
  · obtain ⟨k1, k2, k3⟩ := vx_keep h0 e1 hS (fun q _ h => hA1 q h) hA1 hL hF
    obtain ⟨t2, a1, b1⟩ := kx E u hp T'.heap (locs ++ L) ls q ce (by rw [e1]; exact hb.1) (hb.2.weaken (fun _ q _ h => hA1 q.1 h)) k3 hl (by rw [e1]; exact hce) hcv hcl T' rfl X'
    exact ⟨t2, st.trans a1, b1⟩
/-- an exception of a callee leaves this method too -/
theorem g_pass (C : gC p l s m args meth c cs A nL cc own rt) (hE : ∀ x ∈ c.exceptionTable.toList, False) {PX' : String → St3 → Prop} (hx : ∀ E u, PX' E u → PX E u) {rest : List Value} (hk : k ≤ mc) (hn : n ≤ ms) :
    ∀ (E : String) (u : St3), PX' E u → ∀ (H : Heap) (locs : List Loc) (ls : Array Slot) (q : Addr) (ce : Cell), va_P cs.1 vwCl (gW cs u.1 u.2.1 u.2.2) H → va_D A (gW cs u.1 u.2.1 u.2.2) → va_S A s.heap H locs → gl ls nL lv → H[q]? = some ce → ce.vm = .none → s.vm.findClass E = some ce.cls → vx_W p l e R s m args below meth c H locs k n (kQ cs A PR PX below args s mc ms) (F0 m pc ls rest) q := fun E u hp H locs ls q ce hP hD hS hl hce hcv hcl =>
  vx_out (fun x hx9 => (hE x hx9).elim) C.2.2.2.2.2.1 hce hcv hcl (fun t ht _ => ⟨u, hx E u hp, ⟨by rw [ht]; exact hP, hD⟩, hS.F ht⟩) hS.2.2 hk hn
/-- what a call starts with -/
theorem g_pre (C : gC p l s m args meth c cs A nL cc own rt) {H : Heap} {locs : List Loc} (hP : va_P cs.1 vwCl (gW cs np ad T) H) (hD : va_D A (gW cs np ad T)) (hS : va_S A s.heap H locs) (av : List Value) : ∀ U : State, U.heap = H → s.WarmedH U.vm → va_Pc av (gB cs np ad T H.size) av.toArray U := fun U hU hW => by
  have hA1 : ∀ q, va_A (gW cs np ad T) H.size q → A q := fun q h => by
    rcases h with ⟨j, e9, h⟩ | h
    · exact hD.2 j _ h
    · exact C.2.2.2.2.2.2.2.1 q (Nat.le_trans hS.1 h)
  exact ⟨rfl, by rw [hU], by rw [hU]; exact hP, va_K.moved hW.alike C.2.2.2.2.2.2.1, hD.weaken (fun _ _ _ _ => trivial), gX_at C.2.2.2.2.2.2.2.2.1 hS hA1 hU hW⟩
theorem g_runV (C : gC p l s m args meth c cs A nL cc own rt) {y : MethodName} {b : ByteArray} {maxL : Nat} {ret : Option FieldType} {d mc' ms' idx ci q N : Nat} {Cn : String} {TT : u_T} {fs As rest : List Value} {PR' : Option Value → St3 → Prop} {PX' : String → St3 → Prop}
    (K : KC l cs y (Cond.code y b maxL ret :: GW) d mc' ms' (.ref (ad q) :: As) np ad T PR' PX') (hG : GoodIn GW (wsV own idx Cn y (Cond.code y b maxL ret :: GW)))
    (hd : y.cls = Cn ∧ y.cls ≠ "java/lang/invoke/MethodHandle" ∧ y.cls ≠ "java/lang/invoke/VarHandle" ∧ (parseMethodDescriptor y.desc).map (fun d => d.parameters.length) = some As.length) (hR : d + 1 ≤ R.frames ∧ 8 + (maxL + 11) + 40 * d ≤ R.locals) (hq : 13 ≤ np ∧ (q < 4 ∨ 13 ≤ q) ∧ q < np) (he : cel cs ad T q = .inr (ci, fs)) (hc : vwCl[ci]? = some (Cn, TT, N))
    (hW : (rest.map fun v => v.category).sum ≤ 8) (hf : k + mc' ≤ R.cells ∧ n + ms' ≤ R.slots) (dd : decode cc pc = .ok (.invokevirtual idx, 3)) :
    ∀ (H : Heap) (locs : List Loc) (ls : Array Slot), va_P cs.1 vwCl (gW cs np ad T) H → va_D A (gW cs np ad T) → va_S A s.heap H locs → gl ls nL lv → vx_Run p l e R s m args below meth c H locs k n mc' ms' (F0 m pc ls (As.reverse ++ .ref (ad q) :: rest)) rest (gQ cs (va_A (gW cs np ad T) H.size) PR' (Value.ref (ad q) :: As).toArray) (gXC cs (va_A (gW cs np ad T) H.size) PX') (va_A (gW cs np ad T) H.size) := fun H locs ls hP hD hS hl =>
  vx_runV (own := own) (C := Cn) (Ts := GW) ⟨C.1, C.2.1, C.2.2.1, C.2.2.2.1, C.2.2.2.2.1⟩ (K C.2.2.2.2.2.2.2.2.2.1 H.size) (cwV As.length C.2.2.2.2.1 hG rfl rfl rfl hd hR) ⟨gB_blind, va_recv C.2.2.2.2.2.2.1 hP hc (by rw [gW_get hq, he]), g_pre C hP hD hS _⟩ rfl rfl hl.1 rfl (lv_room hW) dd hf
theorem g_runS (C : gC p l s m args meth c cs A nL cc own rt) {y : MethodName} {b : ByteArray} {maxL : Nat} {ret : Option FieldType} {d mc' ms' idx : Nat} {As rest : List Value} {PR' : Option Value → St3 → Prop} {PX' : String → St3 → Prop}
    (K : KC l cs y (Cond.code y b maxL ret :: GW) d mc' ms' As np ad T PR' PX') (hG : GoodIn GW (va_wsS own idx y (Cond.code y b maxL ret :: GW)))
    (hd : y.cls ≠ "java/lang/invoke/MethodHandle" ∧ y.cls ≠ "java/lang/invoke/VarHandle" ∧ (parseMethodDescriptor y.desc).map (fun d => d.parameters.length) = some As.length) (hR : d + 1 ≤ R.frames ∧ 8 + (maxL + 11) + 40 * d ≤ R.locals)
    (hW : (rest.map fun v => v.category).sum ≤ 8) (hf : k + mc' ≤ R.cells ∧ n + ms' ≤ R.slots) (dd : decode cc pc = .ok (.invokestatic idx, 3)) :
    ∀ (H : Heap) (locs : List Loc) (ls : Array Slot), va_P cs.1 vwCl (gW cs np ad T) H → va_D A (gW cs np ad T) → va_S A s.heap H locs → gl ls nL lv → vx_Run p l e R s m args below meth c H locs k n mc' ms' (F0 m pc ls (As.reverse ++ rest)) rest (gQ cs (va_A (gW cs np ad T) H.size) PR' As.toArray) (gXC cs (va_A (gW cs np ad T) H.size) PX') (va_A (gW cs np ad T) H.size) := fun H locs ls hP hD hS hl =>
  vx_runS (own := own) (Ts := GW) ⟨C.1, C.2.1, C.2.2.1, C.2.2.2.1, C.2.2.2.2.1⟩ (K C.2.2.2.2.2.2.2.2.2.1 H.size) (va_cwS As.length C.2.2.2.2.1 hG rfl rfl rfl hd hR) ⟨gB_blind, g_pre C hP hD hS _⟩ rfl rfl hl.1 rfl (lv_room hW) dd hf
end
end
section
def xn (x : Nat) : String := match x with
  | 1 => "java/lang/IndexOutOfBoundsException"
  | 2 => "java/lang/IllegalArgumentException"
  | _ => "java/lang/IllegalStateException"
def dRt (ex : Nat) (v0 : Option Value) (u0 : St3) : Option Value → St3 → Prop := fun v u => ex = 0 ∧ v = v0 ∧ u = u0
def dEx (ex : Nat) (u0 : St3) : String → St3 → Prop := fun E u => ex ≠ 0 ∧ E = xn ex ∧ u = u0
/-- a method whose end is known: it throws xn ex and nothing has changed, or answers v0 with the memory T' -/
abbrev KD (l : Launch) (cs : CSt) (y : MethodName) (ws : List Cond) (d mc ms : Nat) (av : List Value) (np : Nat) (ad : Nat → Nat) (T : MT) (ex : Nat) (v0 : Option Value) (u0 : St3) : Prop := KC l cs y ws d mc ms av np ad T (dRt ex v0 u0) (dEx ex (np, ad, T))
def CGV (own : String) (idx : Nat) (Cn : String) (y : MethodName) (b : ByteArray) (maxL : Nat) (ret : Option FieldType) (na : Nat) : Prop := GoodIn GW (wsV own idx Cn y (Cond.code y b maxL ret :: GW)) ∧ (y.cls = Cn ∧ y.cls ≠ "java/lang/invoke/MethodHandle" ∧ y.cls ≠ "java/lang/invoke/VarHandle" ∧ (parseMethodDescriptor y.desc).map (fun d => d.parameters.length) = some na)
def CGS (own : String) (idx : Nat) (y : MethodName) (b : ByteArray) (maxL : Nat) (ret : Option FieldType) (na : Nat) : Prop := GoodIn GW (va_wsS own idx y (Cond.code y b maxL ret :: GW)) ∧ (y.cls ≠ "java/lang/invoke/MethodHandle" ∧ y.cls ≠ "java/lang/invoke/VarHandle" ∧ (parseMethodDescriptor y.desc).map (fun d => d.parameters.length) = some na)
section
variable {p : Program} {l : Launch} {e : Env} {R : Room} {s : State} {m : MethodId} {args : Array Value} {below : List Frame} {meth : Method} {c : Code} {Q : State → Prop} {cs : CSt} {A : Nat → Prop} {nL : Nat}
variable {cc : ByteArray} {own : String} {rt : Option FieldType} {k n np : Nat} {ad : Nat → Nat} {T : MT} {pc : Nat} {lv : List (Option Value)} {st : List Value}
variable {PR : Option Value → St3 → Prop} {PX : String → St3 → Prop} {mc ms : Nat}
theorem g_throw (C : gC p l s m args meth c cs A nL cc own rt) (hE : ∀ x ∈ c.exceptionTable.toList, False) (hown : own = RX1) {cls text : String} {ik is ic : Nat}
    (hcls : Bundle.fit cls = true) (hk : Cond.classLink RX1 ik cls ∈ GW) (hini : Cond.initialized cls ∈ GW) (hstr : (is, text) ∈ gStr) (hat : ∀ w ∈ vx_atS RX1 ic cls ["java/lang/RuntimeException", "java/lang/Exception"], w ∈ GW ∨ w ∈ gBd)
    (d0 : decode cc pc = .ok (.new ik, 3)) (d3 : decode cc (pc + 3) = .ok (.dup, 1)) (d4 : decode cc (pc + 4) = .ok (.ldc is, 2)) (d6 : decode cc (pc + 6) = .ok (.invokespecial ic, 3)) (d9 : decode cc (pc + 9) = .ok (.athrow, 1))
    (hR : 5 < R.frames ∧ 90 ≤ R.locals ∧ k + 1 ≤ R.cells ∧ n + 6 ≤ R.slots) (hmc : k + 1 ≤ mc ∧ n + 6 ≤ ms) (kk : PX cls (np, ad, T)) : GG p l e R s m args below meth c (kQ cs A PR PX below args s mc ms) cs A nL k n np ad T pc lv [] := fun H locs ls hP hD hS hl => by
  subst hown
  have hg : ∀ w ∈ Cond.classLink RX1 ik cls :: Cond.initialized cls :: vx_atS RX1 ic cls ["java/lang/RuntimeException", "java/lang/Exception"], w ∈ GW ∨ w ∈ gBd := fun w hw => by
    rcases List.mem_cons.mp hw with rfl | hw
    · exact Or.inl hk
    · rcases List.mem_cons.mp hw with rfl | hw
      · exact Or.inl hini
      · exact hat w hw
  have hX := C.2.2.2.2.2.2.2.2.1
  refine vx_throwS (own := RX1) (cls := cls) (text := text) (names := ["java/lang/RuntimeException", "java/lang/Exception"]) (ik := ik) (is := is) (ic := ic) (sa := cs.2.2 is) (A := A) C.1 C.2.1 C.2.2.2.2.2.2.2.2.2.1 C.2.2.2.1 hcls (by decide +kernel) (C.2.2.2.2.1 _ hk) (C.2.2.2.2.1 _ hini) (hX.2.2.1 (is, text) hstr) (fun w hw => (hat w hw).elim (fun h => C.2.2.2.2.1 _ h) (fun h => va_Nw.use (gBd_ot w h) (hX.2.2.2.1 w h))) (fun w hw => ?_) hX.1 hX.2.1 hS (by rw [hl.1, C.2.2.1]) d0 d3 d4 d6 d9 (fun x hx => (hE x hx).elim) hR.1 (by simp; omega) hR.2.2.1 hR.2.2.2 C.2.2.2.2.2.1 ?_ hS.2.2 hmc.1 hmc.2
  · show (w.onTables || goodWord w) = true
    rcases hg w hw with h | h
    · rw [(List.mem_filter.mp h).2, Bool.or_true]
    · rw [gBd_ot w h, Bool.true_or]
  · intro t _ hz hq
    exact ⟨(np, ad, T), kk, ⟨hP.kept (fun j x hx => hq x.1 ((hP j x hx).lt)), hD⟩, Nat.le_trans hS.1 hz, fun q h1 h2 => (hq q (Nat.lt_of_lt_of_le h1 hS.1)).trans (hS.2.1 q h1 h2)⟩
theorem g_min (C : gC p l s m args meth c cs A nL cc own rt) {idx : Nat} {a b : Int} (hl : Cond.methodLink own idx Lib.Math.min.name ∈ GW) (hini : Cond.initialized "java/lang/Math" ∈ GW) (hR : 1 ≤ R.frames ∧ (st.map fun v => v.category).sum + 13 ≤ R.locals ∧ k ≤ R.cells ∧ n ≤ R.slots) (ha : -2147483648 ≤ a ∧ a < 2147483648) (hb : -2147483648 ≤ b ∧ b < 2147483648) (d : decode cc pc = .ok (.invokestatic idx, 3)) (kk : GG p l e R s m args below meth c Q cs A nL k n np ad T (pc + 3) lv (.int (zI (min a b)) :: st)) : GG p l e R s m args below meth c Q cs A nL k n np ad T pc lv (.int (zI b) :: .int (zI a) :: st) := fun H locs ls hP hD hS hl9 =>
  va_mmin C.1 C.2.1 (by rw [hl9.1, C.2.2.1]) C.2.2.2.1 (C.2.2.2.2.1 _ hl) (C.2.2.2.2.1 _ mm_t) (C.2.2.2.2.1 _ hini) (C.2.2.2.2.1 _ mm_c) hR.1 hR.2.1 hR.2.2.1 hR.2.2.2 d (by
    have e9 : (if zI b < zI a then zI b else zI a) = zI (min a b) := by
      by_cases h : b < a
      · rw [if_pos ((zI_lt hb ha).mpr h), Int.min_eq_right (by omega)]
      · rw [if_neg (fun q => h ((zI_lt hb ha).mp q)), Int.min_eq_left (by omega)]
    rw [e9]
    exact kk H locs ls hP hD hS hl9)
theorem g_cY0Pv (C : gC p l s m args meth c cs A nL cc own rt) {w : Value} {y : MethodName} {b : ByteArray} {maxL : Nat} {ret : Option FieldType} {d mc' ms' idx np' : Nat} {ad' : Nat → Nat} {T' : MT} {rest : List Value} (hG : CGV own idx RX1 y b maxL ret 0) (K : KD l cs y (Cond.code y b maxL ret :: GW) d mc' ms' [.ref (ad 0)] np ad T 0 (some w) (np', ad', T')) (hR : d + 1 ≤ R.frames ∧ 8 + (maxL + 11) + 40 * d ≤ R.locals) (hq : 13 ≤ np) (hW : (rest.map fun v => v.category).sum ≤ 8) (hf : k + mc' ≤ R.cells ∧ n + ms' ≤ R.slots) (dd : decode cc pc = .ok (.invokevirtual idx, 3)) (kk : GG p l e R s m args below meth c Q cs A nL (k + mc') (n + ms') np' ad' T' (pc + 3) lv (w :: rest)) : GG p l e R s m args below meth c Q cs A nL k n np ad T pc lv (.ref (ad 0) :: rest) := by
  exact g_call0 C (g_runV C (ci := 1) (q := 0) (Cn := RX1) (TT := TX1) (N := 8) (As := []) K hG.1 hG.2 hR (by omega) rfl rfl hW hf dd) (fun E u h => absurd rfl h.1) (fun v u h => by obtain ⟨-, rfl, rfl⟩ := h; exact kk)
theorem g_cY0Pn (C : gC p l s m args meth c cs A nL cc own rt) {y : MethodName} {b : ByteArray} {maxL : Nat} {ret : Option FieldType} {d mc' ms' idx np' : Nat} {ad' : Nat → Nat} {T' : MT} {rest : List Value} (hG : CGV own idx RX1 y b maxL ret 0) (K : KD l cs y (Cond.code y b maxL ret :: GW) d mc' ms' [.ref (ad 0)] np ad T 0 none (np', ad', T')) (hR : d + 1 ≤ R.frames ∧ 8 + (maxL + 11) + 40 * d ≤ R.locals) (hq : 13 ≤ np) (hW : (rest.map fun v => v.category).sum ≤ 8) (hf : k + mc' ≤ R.cells ∧ n + ms' ≤ R.slots) (dd : decode cc pc = .ok (.invokevirtual idx, 3)) (kk : GG p l e R s m args below meth c Q cs A nL (k + mc') (n + ms') np' ad' T' (pc + 3) lv rest) : GG p l e R s m args below meth c Q cs A nL k n np ad T pc lv (.ref (ad 0) :: rest) := by
  exact g_call0 C (g_runV C (ci := 1) (q := 0) (Cn := RX1) (TT := TX1) (N := 8) (As := []) K hG.1 hG.2 hR (by omega) rfl rfl hW hf dd) (fun E u h => absurd rfl h.1) (fun v u h => by obtain ⟨-, rfl, rfl⟩ := h; exact kk)
theorem g_cY0Dv (C : gC p l s m args meth c cs A nL cc own rt) {w : Value} {ex : Nat} {y : MethodName} {b : ByteArray} {maxL : Nat} {ret : Option FieldType} {d mc' ms' idx np' : Nat} {ad' : Nat → Nat} {T' : MT} {rest : List Value} (hE : ∀ x ∈ c.exceptionTable.toList, False) (hG : CGV own idx RX1 y b maxL ret 0) (K : KD l cs y (Cond.code y b maxL ret :: GW) d mc' ms' [.ref (ad 0)] np ad T ex (some w) (np', ad', T')) (hR : d + 1 ≤ R.frames ∧ 8 + (maxL + 11) + 40 * d ≤ R.locals) (hq : 13 ≤ np) (hW : (rest.map fun v => v.category).sum ≤ 8) (hf : k + mc' ≤ R.cells ∧ n + ms' ≤ R.slots) (hm : k + mc' ≤ mc ∧ n + ms' ≤ ms) (hx : ex ≠ 0 → PX (xn ex) (np, ad, T)) (dd : decode cc pc = .ok (.invokevirtual idx, 3)) (kk : ex = 0 → GG p l e R s m args below meth c (kQ cs A PR PX below args s mc ms) cs A nL (k + mc') (n + ms') np' ad' T' (pc + 3) lv (w :: rest)) : GG p l e R s m args below meth c (kQ cs A PR PX below args s mc ms) cs A nL k n np ad T pc lv (.ref (ad 0) :: rest) := by
  exact g_call0 C (g_runV C (ci := 1) (q := 0) (Cn := RX1) (TT := TX1) (N := 8) (As := []) K hG.1 hG.2 hR (by omega) rfl rfl hW hf dd) (g_pass C hE (fun E u h => by obtain ⟨h1, rfl, rfl⟩ := h; exact hx h1) hm.1 hm.2) (fun v u h => by obtain ⟨h1, rfl, rfl⟩ := h; exact kk h1)
theorem g_cY0Dn (C : gC p l s m args meth c cs A nL cc own rt) {ex : Nat} {y : MethodName} {b : ByteArray} {maxL : Nat} {ret : Option FieldType} {d mc' ms' idx np' : Nat} {ad' : Nat → Nat} {T' : MT} {rest : List Value} (hE : ∀ x ∈ c.exceptionTable.toList, False) (hG : CGV own idx RX1 y b maxL ret 0) (K : KD l cs y (Cond.code y b maxL ret :: GW) d mc' ms' [.ref (ad 0)] np ad T ex none (np', ad', T')) (hR : d + 1 ≤ R.frames ∧ 8 + (maxL + 11) + 40 * d ≤ R.locals) (hq : 13 ≤ np) (hW : (rest.map fun v => v.category).sum ≤ 8) (hf : k + mc' ≤ R.cells ∧ n + ms' ≤ R.slots) (hm : k + mc' ≤ mc ∧ n + ms' ≤ ms) (hx : ex ≠ 0 → PX (xn ex) (np, ad, T)) (dd : decode cc pc = .ok (.invokevirtual idx, 3)) (kk : ex = 0 → GG p l e R s m args below meth c (kQ cs A PR PX below args s mc ms) cs A nL (k + mc') (n + ms') np' ad' T' (pc + 3) lv rest) : GG p l e R s m args below meth c (kQ cs A PR PX below args s mc ms) cs A nL k n np ad T pc lv (.ref (ad 0) :: rest) := by
  exact g_call0 C (g_runV C (ci := 1) (q := 0) (Cn := RX1) (TT := TX1) (N := 8) (As := []) K hG.1 hG.2 hR (by omega) rfl rfl hW hf dd) (g_pass C hE (fun E u h => by obtain ⟨h1, rfl, rfl⟩ := h; exact hx h1) hm.1 hm.2) (fun v u h => by obtain ⟨h1, rfl, rfl⟩ := h; exact kk h1)
theorem g_cY1Pv (C : gC p l s m args meth c cs A nL cc own rt) {a1 : Value} {w : Value} {y : MethodName} {b : ByteArray} {maxL : Nat} {ret : Option FieldType} {d mc' ms' idx np' : Nat} {ad' : Nat → Nat} {T' : MT} {rest : List Value} (hG : CGV own idx RX1 y b maxL ret 1) (K : KD l cs y (Cond.code y b maxL ret :: GW) d mc' ms' [.ref (ad 0), a1] np ad T 0 (some w) (np', ad', T')) (hR : d + 1 ≤ R.frames ∧ 8 + (maxL + 11) + 40 * d ≤ R.locals) (hq : 13 ≤ np) (hW : (rest.map fun v => v.category).sum ≤ 8) (hf : k + mc' ≤ R.cells ∧ n + ms' ≤ R.slots) (dd : decode cc pc = .ok (.invokevirtual idx, 3)) (kk : GG p l e R s m args below meth c Q cs A nL (k + mc') (n + ms') np' ad' T' (pc + 3) lv (w :: rest)) : GG p l e R s m args below meth c Q cs A nL k n np ad T pc lv (a1 :: .ref (ad 0) :: rest) := by
  exact g_call0 C (g_runV C (ci := 1) (q := 0) (Cn := RX1) (TT := TX1) (N := 8) (As := [a1]) K hG.1 hG.2 hR (by omega) rfl rfl hW hf dd) (fun E u h => absurd rfl h.1) (fun v u h => by obtain ⟨-, rfl, rfl⟩ := h; exact kk)
theorem g_cY1Pn (C : gC p l s m args meth c cs A nL cc own rt) {a1 : Value} {y : MethodName} {b : ByteArray} {maxL : Nat} {ret : Option FieldType} {d mc' ms' idx np' : Nat} {ad' : Nat → Nat} {T' : MT} {rest : List Value} (hG : CGV own idx RX1 y b maxL ret 1) (K : KD l cs y (Cond.code y b maxL ret :: GW) d mc' ms' [.ref (ad 0), a1] np ad T 0 none (np', ad', T')) (hR : d + 1 ≤ R.frames ∧ 8 + (maxL + 11) + 40 * d ≤ R.locals) (hq : 13 ≤ np) (hW : (rest.map fun v => v.category).sum ≤ 8) (hf : k + mc' ≤ R.cells ∧ n + ms' ≤ R.slots) (dd : decode cc pc = .ok (.invokevirtual idx, 3)) (kk : GG p l e R s m args below meth c Q cs A nL (k + mc') (n + ms') np' ad' T' (pc + 3) lv rest) : GG p l e R s m args below meth c Q cs A nL k n np ad T pc lv (a1 :: .ref (ad 0) :: rest) := by
  exact g_call0 C (g_runV C (ci := 1) (q := 0) (Cn := RX1) (TT := TX1) (N := 8) (As := [a1]) K hG.1 hG.2 hR (by omega) rfl rfl hW hf dd) (fun E u h => absurd rfl h.1) (fun v u h => by obtain ⟨-, rfl, rfl⟩ := h; exact kk)
theorem g_cY1Dv (C : gC p l s m args meth c cs A nL cc own rt) {a1 : Value} {w : Value} {ex : Nat} {y : MethodName} {b : ByteArray} {maxL : Nat} {ret : Option FieldType} {d mc' ms' idx np' : Nat} {ad' : Nat → Nat} {T' : MT} {rest : List Value} (hE : ∀ x ∈ c.exceptionTable.toList, False) (hG : CGV own idx RX1 y b maxL ret 1) (K : KD l cs y (Cond.code y b maxL ret :: GW) d mc' ms' [.ref (ad 0), a1] np ad T ex (some w) (np', ad', T')) (hR : d + 1 ≤ R.frames ∧ 8 + (maxL + 11) + 40 * d ≤ R.locals) (hq : 13 ≤ np) (hW : (rest.map fun v => v.category).sum ≤ 8) (hf : k + mc' ≤ R.cells ∧ n + ms' ≤ R.slots) (hm : k + mc' ≤ mc ∧ n + ms' ≤ ms) (hx : ex ≠ 0 → PX (xn ex) (np, ad, T)) (dd : decode cc pc = .ok (.invokevirtual idx, 3)) (kk : ex = 0 → GG p l e R s m args below meth c (kQ cs A PR PX below args s mc ms) cs A nL (k + mc') (n + ms') np' ad' T' (pc + 3) lv (w :: rest)) : GG p l e R s m args below meth c (kQ cs A PR PX below args s mc ms) cs A nL k n np ad T pc lv (a1 :: .ref (ad 0) :: rest) := by
  exact g_call0 C (g_runV C (ci := 1) (q := 0) (Cn := RX1) (TT := TX1) (N := 8) (As := [a1]) K hG.1 hG.2 hR (by omega) rfl rfl hW hf dd) (g_pass C hE (fun E u h => by obtain ⟨h1, rfl, rfl⟩ := h; exact hx h1) hm.1 hm.2) (fun v u h => by obtain ⟨h1, rfl, rfl⟩ := h; exact kk h1)
theorem g_cY1Dn (C : gC p l s m args meth c cs A nL cc own rt) {a1 : Value} {ex : Nat} {y : MethodName} {b : ByteArray} {maxL : Nat} {ret : Option FieldType} {d mc' ms' idx np' : Nat} {ad' : Nat → Nat} {T' : MT} {rest : List Value} (hE : ∀ x ∈ c.exceptionTable.toList, False) (hG : CGV own idx RX1 y b maxL ret 1) (K : KD l cs y (Cond.code y b maxL ret :: GW) d mc' ms' [.ref (ad 0), a1] np ad T ex none (np', ad', T')) (hR : d + 1 ≤ R.frames ∧ 8 + (maxL + 11) + 40 * d ≤ R.locals) (hq : 13 ≤ np) (hW : (rest.map fun v => v.category).sum ≤ 8) (hf : k + mc' ≤ R.cells ∧ n + ms' ≤ R.slots) (hm : k + mc' ≤ mc ∧ n + ms' ≤ ms) (hx : ex ≠ 0 → PX (xn ex) (np, ad, T)) (dd : decode cc pc = .ok (.invokevirtual idx, 3)) (kk : ex = 0 → GG p l e R s m args below meth c (kQ cs A PR PX below args s mc ms) cs A nL (k + mc') (n + ms') np' ad' T' (pc + 3) lv rest) : GG p l e R s m args below meth c (kQ cs A PR PX below args s mc ms) cs A nL k n np ad T pc lv (a1 :: .ref (ad 0) :: rest) := by
  exact g_call0 C (g_runV C (ci := 1) (q := 0) (Cn := RX1) (TT := TX1) (N := 8) (As := [a1]) K hG.1 hG.2 hR (by omega) rfl rfl hW hf dd) (g_pass C hE (fun E u h => by obtain ⟨h1, rfl, rfl⟩ := h; exact hx h1) hm.1 hm.2) (fun v u h => by obtain ⟨h1, rfl, rfl⟩ := h; exact kk h1)
theorem g_cY2Pv (C : gC p l s m args meth c cs A nL cc own rt) {a1 a2 : Value} {w : Value} {y : MethodName} {b : ByteArray} {maxL : Nat} {ret : Option FieldType} {d mc' ms' idx np' : Nat} {ad' : Nat → Nat} {T' : MT} {rest : List Value} (hG : CGV own idx RX1 y b maxL ret 2) (K : KD l cs y (Cond.code y b maxL ret :: GW) d mc' ms' [.ref (ad 0), a1, a2] np ad T 0 (some w) (np', ad', T')) (hR : d + 1 ≤ R.frames ∧ 8 + (maxL + 11) + 40 * d ≤ R.locals) (hq : 13 ≤ np) (hW : (rest.map fun v => v.category).sum ≤ 8) (hf : k + mc' ≤ R.cells ∧ n + ms' ≤ R.slots) (dd : decode cc pc = .ok (.invokevirtual idx, 3)) (kk : GG p l e R s m args below meth c Q cs A nL (k + mc') (n + ms') np' ad' T' (pc + 3) lv (w :: rest)) : GG p l e R s m args below meth c Q cs A nL k n np ad T pc lv (a2 :: a1 :: .ref (ad 0) :: rest) := by
  exact g_call0 C (g_runV C (ci := 1) (q := 0) (Cn := RX1) (TT := TX1) (N := 8) (As := [a1, a2]) K hG.1 hG.2 hR (by omega) rfl rfl hW hf dd) (fun E u h => absurd rfl h.1) (fun v u h => by obtain ⟨-, rfl, rfl⟩ := h; exact kk)
theorem g_cY2Pn (C : gC p l s m args meth c cs A nL cc own rt) {a1 a2 : Value} {y : MethodName} {b : ByteArray} {maxL : Nat} {ret : Option FieldType} {d mc' ms' idx np' : Nat} {ad' : Nat → Nat} {T' : MT} {rest : List Value} (hG : CGV own idx RX1 y b maxL ret 2) (K : KD l cs y (Cond.code y b maxL ret :: GW) d mc' ms' [.ref (ad 0), a1, a2] np ad T 0 none (np', ad', T')) (hR : d + 1 ≤ R.frames ∧ 8 + (maxL + 11) + 40 * d ≤ R.locals) (hq : 13 ≤ np) (hW : (rest.map fun v => v.category).sum ≤ 8) (hf : k + mc' ≤ R.cells ∧ n + ms' ≤ R.slots) (dd : decode cc pc = .ok (.invokevirtual idx, 3)) (kk : GG p l e R s m args below meth c Q cs A nL (k + mc') (n + ms') np' ad' T' (pc + 3) lv rest) : GG p l e R s m args below meth c Q cs A nL k n np ad T pc lv (a2 :: a1 :: .ref (ad 0) :: rest) := by
  exact g_call0 C (g_runV C (ci := 1) (q := 0) (Cn := RX1) (TT := TX1) (N := 8) (As := [a1, a2]) K hG.1 hG.2 hR (by omega) rfl rfl hW hf dd) (fun E u h => absurd rfl h.1) (fun v u h => by obtain ⟨-, rfl, rfl⟩ := h; exact kk)
theorem g_cY2Dv (C : gC p l s m args meth c cs A nL cc own rt) {a1 a2 : Value} {w : Value} {ex : Nat} {y : MethodName} {b : ByteArray} {maxL : Nat} {ret : Option FieldType} {d mc' ms' idx np' : Nat} {ad' : Nat → Nat} {T' : MT} {rest : List Value} (hE : ∀ x ∈ c.exceptionTable.toList, False) (hG : CGV own idx RX1 y b maxL ret 2) (K : KD l cs y (Cond.code y b maxL ret :: GW) d mc' ms' [.ref (ad 0), a1, a2] np ad T ex (some w) (np', ad', T')) (hR : d + 1 ≤ R.frames ∧ 8 + (maxL + 11) + 40 * d ≤ R.locals) (hq : 13 ≤ np) (hW : (rest.map fun v => v.category).sum ≤ 8) (hf : k + mc' ≤ R.cells ∧ n + ms' ≤ R.slots) (hm : k + mc' ≤ mc ∧ n + ms' ≤ ms) (hx : ex ≠ 0 → PX (xn ex) (np, ad, T)) (dd : decode cc pc = .ok (.invokevirtual idx, 3)) (kk : ex = 0 → GG p l e R s m args below meth c (kQ cs A PR PX below args s mc ms) cs A nL (k + mc') (n + ms') np' ad' T' (pc + 3) lv (w :: rest)) : GG p l e R s m args below meth c (kQ cs A PR PX below args s mc ms) cs A nL k n np ad T pc lv (a2 :: a1 :: .ref (ad 0) :: rest) := by
  exact g_call0 C (g_runV C (ci := 1) (q := 0) (Cn := RX1) (TT := TX1) (N := 8) (As := [a1, a2]) K hG.1 hG.2 hR (by omega) rfl rfl hW hf dd) (g_pass C hE (fun E u h => by obtain ⟨h1, rfl, rfl⟩ := h; exact hx h1) hm.1 hm.2) (fun v u h => by obtain ⟨h1, rfl, rfl⟩ := h; exact kk h1)
theorem g_cY2Dn (C : gC p l s m args meth c cs A nL cc own rt) {a1 a2 : Value} {ex : Nat} {y : MethodName} {b : ByteArray} {maxL : Nat} {ret : Option FieldType} {d mc' ms' idx np' : Nat} {ad' : Nat → Nat} {T' : MT} {rest : List Value} (hE : ∀ x ∈ c.exceptionTable.toList, False) (hG : CGV own idx RX1 y b maxL ret 2) (K : KD l cs y (Cond.code y b maxL ret :: GW) d mc' ms' [.ref (ad 0), a1, a2] np ad T ex none (np', ad', T')) (hR : d + 1 ≤ R.frames ∧ 8 + (maxL + 11) + 40 * d ≤ R.locals) (hq : 13 ≤ np) (hW : (rest.map fun v => v.category).sum ≤ 8) (hf : k + mc' ≤ R.cells ∧ n + ms' ≤ R.slots) (hm : k + mc' ≤ mc ∧ n + ms' ≤ ms) (hx : ex ≠ 0 → PX (xn ex) (np, ad, T)) (dd : decode cc pc = .ok (.invokevirtual idx, 3)) (kk : ex = 0 → GG p l e R s m args below meth c (kQ cs A PR PX below args s mc ms) cs A nL (k + mc') (n + ms') np' ad' T' (pc + 3) lv rest) : GG p l e R s m args below meth c (kQ cs A PR PX below args s mc ms) cs A nL k n np ad T pc lv (a2 :: a1 :: .ref (ad 0) :: rest) := by
  exact g_call0 C (g_runV C (ci := 1) (q := 0) (Cn := RX1) (TT := TX1) (N := 8) (As := [a1, a2]) K hG.1 hG.2 hR (by omega) rfl rfl hW hf dd) (g_pass C hE (fun E u h => by obtain ⟨h1, rfl, rfl⟩ := h; exact hx h1) hm.1 hm.2) (fun v u h => by obtain ⟨h1, rfl, rfl⟩ := h; exact kk h1)
theorem g_cY3Pv (C : gC p l s m args meth c cs A nL cc own rt) {a1 a2 a3 : Value} {w : Value} {y : MethodName} {b : ByteArray} {maxL : Nat} {ret : Option FieldType} {d mc' ms' idx np' : Nat} {ad' : Nat → Nat} {T' : MT} {rest : List Value} (hG : CGV own idx RX1 y b maxL ret 3) (K : KD l cs y (Cond.code y b maxL ret :: GW) d mc' ms' [.ref (ad 0), a1, a2, a3] np ad T 0 (some w) (np', ad', T')) (hR : d + 1 ≤ R.frames ∧ 8 + (maxL + 11) + 40 * d ≤ R.locals) (hq : 13 ≤ np) (hW : (rest.map fun v => v.category).sum ≤ 8) (hf : k + mc' ≤ R.cells ∧ n + ms' ≤ R.slots) (dd : decode cc pc = .ok (.invokevirtual idx, 3)) (kk : GG p l e R s m args below meth c Q cs A nL (k + mc') (n + ms') np' ad' T' (pc + 3) lv (w :: rest)) : GG p l e R s m args below meth c Q cs A nL k n np ad T pc lv (a3 :: a2 :: a1 :: .ref (ad 0) :: rest) := by
  exact g_call0 C (g_runV C (ci := 1) (q := 0) (Cn := RX1) (TT := TX1) (N := 8) (As := [a1, a2, a3]) K hG.1 hG.2 hR (by omega) rfl rfl hW hf dd) (fun E u h => absurd rfl h.1) (fun v u h => by obtain ⟨-, rfl, rfl⟩ := h; exact kk)
theorem g_cY3Pn (C : gC p l s m args meth c cs A nL cc own rt) {a1 a2 a3 : Value} {y : MethodName} {b : ByteArray} {maxL : Nat} {ret : Option FieldType} {d mc' ms' idx np' : Nat} {ad' : Nat → Nat} {T' : MT} {rest : List Value} (hG : CGV own idx RX1 y b maxL ret 3) (K : KD l cs y (Cond.code y b maxL ret :: GW) d mc' ms' [.ref (ad 0), a1, a2, a3] np ad T 0 none (np', ad', T')) (hR : d + 1 ≤ R.frames ∧ 8 + (maxL + 11) + 40 * d ≤ R.locals) (hq : 13 ≤ np) (hW : (rest.map fun v => v.category).sum ≤ 8) (hf : k + mc' ≤ R.cells ∧ n + ms' ≤ R.slots) (dd : decode cc pc = .ok (.invokevirtual idx, 3)) (kk : GG p l e R s m args below meth c Q cs A nL (k + mc') (n + ms') np' ad' T' (pc + 3) lv rest) : GG p l e R s m args below meth c Q cs A nL k n np ad T pc lv (a3 :: a2 :: a1 :: .ref (ad 0) :: rest) := by
  exact g_call0 C (g_runV C (ci := 1) (q := 0) (Cn := RX1) (TT := TX1) (N := 8) (As := [a1, a2, a3]) K hG.1 hG.2 hR (by omega) rfl rfl hW hf dd) (fun E u h => absurd rfl h.1) (fun v u h => by obtain ⟨-, rfl, rfl⟩ := h; exact kk)
theorem g_cY3Dv (C : gC p l s m args meth c cs A nL cc own rt) {a1 a2 a3 : Value} {w : Value} {ex : Nat} {y : MethodName} {b : ByteArray} {maxL : Nat} {ret : Option FieldType} {d mc' ms' idx np' : Nat} {ad' : Nat → Nat} {T' : MT} {rest : List Value} (hE : ∀ x ∈ c.exceptionTable.toList, False) (hG : CGV own idx RX1 y b maxL ret 3) (K : KD l cs y (Cond.code y b maxL ret :: GW) d mc' ms' [.ref (ad 0), a1, a2, a3] np ad T ex (some w) (np', ad', T')) (hR : d + 1 ≤ R.frames ∧ 8 + (maxL + 11) + 40 * d ≤ R.locals) (hq : 13 ≤ np) (hW : (rest.map fun v => v.category).sum ≤ 8) (hf : k + mc' ≤ R.cells ∧ n + ms' ≤ R.slots) (hm : k + mc' ≤ mc ∧ n + ms' ≤ ms) (hx : ex ≠ 0 → PX (xn ex) (np, ad, T)) (dd : decode cc pc = .ok (.invokevirtual idx, 3)) (kk : ex = 0 → GG p l e R s m args below meth c (kQ cs A PR PX below args s mc ms) cs A nL (k + mc') (n + ms') np' ad' T' (pc + 3) lv (w :: rest)) : GG p l e R s m args below meth c (kQ cs A PR PX below args s mc ms) cs A nL k n np ad T pc lv (a3 :: a2 :: a1 :: .ref (ad 0) :: rest) := by
  exact g_call0 C (g_runV C (ci := 1) (q := 0) (Cn := RX1) (TT := TX1) (N := 8) (As := [a1, a2, a3]) K hG.1 hG.2 hR (by omega) rfl rfl hW hf dd) (g_pass C hE (fun E u h => by obtain ⟨h1, rfl, rfl⟩ := h; exact hx h1) hm.1 hm.2) (fun v u h => by obtain ⟨h1, rfl, rfl⟩ := h; exact kk h1)
theorem g_cY3Dn (C : gC p l s m args meth c cs A nL cc own rt) {a1 a2 a3 : Value} {ex : Nat} {y : MethodName} {b : ByteArray} {maxL : Nat} {ret : Option FieldType} {d mc' ms' idx np' : Nat} {ad' : Nat → Nat} {T' : MT} {rest : List Value} (hE : ∀ x ∈ c.exceptionTable.toList, False) (hG : CGV own idx RX1 y b maxL ret 3) (K : KD l cs y (Cond.code y b maxL ret :: GW) d mc' ms' [.ref (ad 0), a1, a2, a3] np ad T ex none (np', ad', T')) (hR : d + 1 ≤ R.frames ∧ 8 + (maxL + 11) + 40 * d ≤ R.locals) (hq : 13 ≤ np) (hW : (rest.map fun v => v.category).sum ≤ 8) (hf : k + mc' ≤ R.cells ∧ n + ms' ≤ R.slots) (hm : k + mc' ≤ mc ∧ n + ms' ≤ ms) (hx : ex ≠ 0 → PX (xn ex) (np, ad, T)) (dd : decode cc pc = .ok (.invokevirtual idx, 3)) (kk : ex = 0 → GG p l e R s m args below meth c (kQ cs A PR PX below args s mc ms) cs A nL (k + mc') (n + ms') np' ad' T' (pc + 3) lv rest) : GG p l e R s m args below meth c (kQ cs A PR PX below args s mc ms) cs A nL k n np ad T pc lv (a3 :: a2 :: a1 :: .ref (ad 0) :: rest) := by
  exact g_call0 C (g_runV C (ci := 1) (q := 0) (Cn := RX1) (TT := TX1) (N := 8) (As := [a1, a2, a3]) K hG.1 hG.2 hR (by omega) rfl rfl hW hf dd) (g_pass C hE (fun E u h => by obtain ⟨h1, rfl, rfl⟩ := h; exact hx h1) hm.1 hm.2) (fun v u h => by obtain ⟨h1, rfl, rfl⟩ := h; exact kk h1)
theorem g_cY4Pv (C : gC p l s m args meth c cs A nL cc own rt) {a1 a2 a3 a4 : Value} {w : Value} {y : MethodName} {b : ByteArray} {maxL : Nat} {ret : Option FieldType} {d mc' ms' idx np' : Nat} {ad' : Nat → Nat} {T' : MT} {rest : List Value} (hG : CGV own idx RX1 y b maxL ret 4) (K : KD l cs y (Cond.code y b maxL ret :: GW) d mc' ms' [.ref (ad 0), a1, a2, a3, a4] np ad T 0 (some w) (np', ad', T')) (hR : d + 1 ≤ R.frames ∧ 8 + (maxL + 11) + 40 * d ≤ R.locals) (hq : 13 ≤ np) (hW : (rest.map fun v => v.category).sum ≤ 8) (hf : k + mc' ≤ R.cells ∧ n + ms' ≤ R.slots) (dd : decode cc pc = .ok (.invokevirtual idx, 3)) (kk : GG p l e R s m args below meth c Q cs A nL (k + mc') (n + ms') np' ad' T' (pc + 3) lv (w :: rest)) : GG p l e R s m args below meth c Q cs A nL k n np ad T pc lv (a4 :: a3 :: a2 :: a1 :: .ref (ad 0) :: rest) := by
  exact g_call0 C (g_runV C (ci := 1) (q := 0) (Cn := RX1) (TT := TX1) (N := 8) (As := [a1, a2, a3, a4]) K hG.1 hG.2 hR (by omega) rfl rfl hW hf dd) (fun E u h => absurd rfl h.1) (fun v u h => by obtain ⟨-, rfl, rfl⟩ := h; exact kk)
theorem g_cY4Pn (C : gC p l s m args meth c cs A nL cc own rt) {a1 a2 a3 a4 : Value} {y : MethodName} {b : ByteArray} {maxL : Nat} {ret : Option FieldType} {d mc' ms' idx np' : Nat} {ad' : Nat → Nat} {T' : MT} {rest : List Value} (hG : CGV own idx RX1 y b maxL ret 4) (K : KD l cs y (Cond.code y b maxL ret :: GW) d mc' ms' [.ref (ad 0), a1, a2, a3, a4] np ad T 0 none (np', ad', T')) (hR : d + 1 ≤ R.frames ∧ 8 + (maxL + 11) + 40 * d ≤ R.locals) (hq : 13 ≤ np) (hW : (rest.map fun v => v.category).sum ≤ 8) (hf : k + mc' ≤ R.cells ∧ n + ms' ≤ R.slots) (dd : decode cc pc = .ok (.invokevirtual idx, 3)) (kk : GG p l e R s m args below meth c Q cs A nL (k + mc') (n + ms') np' ad' T' (pc + 3) lv rest) : GG p l e R s m args below meth c Q cs A nL k n np ad T pc lv (a4 :: a3 :: a2 :: a1 :: .ref (ad 0) :: rest) := by
  exact g_call0 C (g_runV C (ci := 1) (q := 0) (Cn := RX1) (TT := TX1) (N := 8) (As := [a1, a2, a3, a4]) K hG.1 hG.2 hR (by omega) rfl rfl hW hf dd) (fun E u h => absurd rfl h.1) (fun v u h => by obtain ⟨-, rfl, rfl⟩ := h; exact kk)
theorem g_cY4Dv (C : gC p l s m args meth c cs A nL cc own rt) {a1 a2 a3 a4 : Value} {w : Value} {ex : Nat} {y : MethodName} {b : ByteArray} {maxL : Nat} {ret : Option FieldType} {d mc' ms' idx np' : Nat} {ad' : Nat → Nat} {T' : MT} {rest : List Value} (hE : ∀ x ∈ c.exceptionTable.toList, False) (hG : CGV own idx RX1 y b maxL ret 4) (K : KD l cs y (Cond.code y b maxL ret :: GW) d mc' ms' [.ref (ad 0), a1, a2, a3, a4] np ad T ex (some w) (np', ad', T')) (hR : d + 1 ≤ R.frames ∧ 8 + (maxL + 11) + 40 * d ≤ R.locals) (hq : 13 ≤ np) (hW : (rest.map fun v => v.category).sum ≤ 8) (hf : k + mc' ≤ R.cells ∧ n + ms' ≤ R.slots) (hm : k + mc' ≤ mc ∧ n + ms' ≤ ms) (hx : ex ≠ 0 → PX (xn ex) (np, ad, T)) (dd : decode cc pc = .ok (.invokevirtual idx, 3)) (kk : ex = 0 → GG p l e R s m args below meth c (kQ cs A PR PX below args s mc ms) cs A nL (k + mc') (n + ms') np' ad' T' (pc + 3) lv (w :: rest)) : GG p l e R s m args below meth c (kQ cs A PR PX below args s mc ms) cs A nL k n np ad T pc lv (a4 :: a3 :: a2 :: a1 :: .ref (ad 0) :: rest) := by
  exact g_call0 C (g_runV C (ci := 1) (q := 0) (Cn := RX1) (TT := TX1) (N := 8) (As := [a1, a2, a3, a4]) K hG.1 hG.2 hR (by omega) rfl rfl hW hf dd) (g_pass C hE (fun E u h => by obtain ⟨h1, rfl, rfl⟩ := h; exact hx h1) hm.1 hm.2) (fun v u h => by obtain ⟨h1, rfl, rfl⟩ := h; exact kk h1)
theorem g_cY4Dn (C : gC p l s m args meth c cs A nL cc own rt) {a1 a2 a3 a4 : Value} {ex : Nat} {y : MethodName} {b : ByteArray} {maxL : Nat} {ret : Option FieldType} {d mc' ms' idx np' : Nat} {ad' : Nat → Nat} {T' : MT} {rest : List Value} (hE : ∀ x ∈ c.exceptionTable.toList, False) (hG : CGV own idx RX1 y b maxL ret 4) (K : KD l cs y (Cond.code y b maxL ret :: GW) d mc' ms' [.ref (ad 0), a1, a2, a3, a4] np ad T ex none (np', ad', T')) (hR : d + 1 ≤ R.frames ∧ 8 + (maxL + 11) + 40 * d ≤ R.locals) (hq : 13 ≤ np) (hW : (rest.map fun v => v.category).sum ≤ 8) (hf : k + mc' ≤ R.cells ∧ n + ms' ≤ R.slots) (hm : k + mc' ≤ mc ∧ n + ms' ≤ ms) (hx : ex ≠ 0 → PX (xn ex) (np, ad, T)) (dd : decode cc pc = .ok (.invokevirtual idx, 3)) (kk : ex = 0 → GG p l e R s m args below meth c (kQ cs A PR PX below args s mc ms) cs A nL (k + mc') (n + ms') np' ad' T' (pc + 3) lv rest) : GG p l e R s m args below meth c (kQ cs A PR PX below args s mc ms) cs A nL k n np ad T pc lv (a4 :: a3 :: a2 :: a1 :: .ref (ad 0) :: rest) := by
  exact g_call0 C (g_runV C (ci := 1) (q := 0) (Cn := RX1) (TT := TX1) (N := 8) (As := [a1, a2, a3, a4]) K hG.1 hG.2 hR (by omega) rfl rfl hW hf dd) (g_pass C hE (fun E u h => by obtain ⟨h1, rfl, rfl⟩ := h; exact hx h1) hm.1 hm.2) (fun v u h => by obtain ⟨h1, rfl, rfl⟩ := h; exact kk h1)
theorem g_cY5Pv (C : gC p l s m args meth c cs A nL cc own rt) {a1 a2 a3 a4 a5 : Value} {w : Value} {y : MethodName} {b : ByteArray} {maxL : Nat} {ret : Option FieldType} {d mc' ms' idx np' : Nat} {ad' : Nat → Nat} {T' : MT} {rest : List Value} (hG : CGV own idx RX1 y b maxL ret 5) (K : KD l cs y (Cond.code y b maxL ret :: GW) d mc' ms' [.ref (ad 0), a1, a2, a3, a4, a5] np ad T 0 (some w) (np', ad', T')) (hR : d + 1 ≤ R.frames ∧ 8 + (maxL + 11) + 40 * d ≤ R.locals) (hq : 13 ≤ np) (hW : (rest.map fun v => v.category).sum ≤ 8) (hf : k + mc' ≤ R.cells ∧ n + ms' ≤ R.slots) (dd : decode cc pc = .ok (.invokevirtual idx, 3)) (kk : GG p l e R s m args below meth c Q cs A nL (k + mc') (n + ms') np' ad' T' (pc + 3) lv (w :: rest)) : GG p l e R s m args below meth c Q cs A nL k n np ad T pc lv (a5 :: a4 :: a3 :: a2 :: a1 :: .ref (ad 0) :: rest) := by
  exact g_call0 C (g_runV C (ci := 1) (q := 0) (Cn := RX1) (TT := TX1) (N := 8) (As := [a1, a2, a3, a4, a5]) K hG.1 hG.2 hR (by omega) rfl rfl hW hf dd) (fun E u h => absurd rfl h.1) (fun v u h => by obtain ⟨-, rfl, rfl⟩ := h; exact kk)
theorem g_cY5Pn (C : gC p l s m args meth c cs A nL cc own rt) {a1 a2 a3 a4 a5 : Value} {y : MethodName} {b : ByteArray} {maxL : Nat} {ret : Option FieldType} {d mc' ms' idx np' : Nat} {ad' : Nat → Nat} {T' : MT} {rest : List Value} (hG : CGV own idx RX1 y b maxL ret 5) (K : KD l cs y (Cond.code y b maxL ret :: GW) d mc' ms' [.ref (ad 0), a1, a2, a3, a4, a5] np ad T 0 none (np', ad', T')) (hR : d + 1 ≤ R.frames ∧ 8 + (maxL + 11) + 40 * d ≤ R.locals) (hq : 13 ≤ np) (hW : (rest.map fun v => v.category).sum ≤ 8) (hf : k + mc' ≤ R.cells ∧ n + ms' ≤ R.slots) (dd : decode cc pc = .ok (.invokevirtual idx, 3)) (kk : GG p l e R s m args below meth c Q cs A nL (k + mc') (n + ms') np' ad' T' (pc + 3) lv rest) : GG p l e R s m args below meth c Q cs A nL k n np ad T pc lv (a5 :: a4 :: a3 :: a2 :: a1 :: .ref (ad 0) :: rest) := by
  exact g_call0 C (g_runV C (ci := 1) (q := 0) (Cn := RX1) (TT := TX1) (N := 8) (As := [a1, a2, a3, a4, a5]) K hG.1 hG.2 hR (by omega) rfl rfl hW hf dd) (fun E u h => absurd rfl h.1) (fun v u h => by obtain ⟨-, rfl, rfl⟩ := h; exact kk)
theorem g_cY5Dv (C : gC p l s m args meth c cs A nL cc own rt) {a1 a2 a3 a4 a5 : Value} {w : Value} {ex : Nat} {y : MethodName} {b : ByteArray} {maxL : Nat} {ret : Option FieldType} {d mc' ms' idx np' : Nat} {ad' : Nat → Nat} {T' : MT} {rest : List Value} (hE : ∀ x ∈ c.exceptionTable.toList, False) (hG : CGV own idx RX1 y b maxL ret 5) (K : KD l cs y (Cond.code y b maxL ret :: GW) d mc' ms' [.ref (ad 0), a1, a2, a3, a4, a5] np ad T ex (some w) (np', ad', T')) (hR : d + 1 ≤ R.frames ∧ 8 + (maxL + 11) + 40 * d ≤ R.locals) (hq : 13 ≤ np) (hW : (rest.map fun v => v.category).sum ≤ 8) (hf : k + mc' ≤ R.cells ∧ n + ms' ≤ R.slots) (hm : k + mc' ≤ mc ∧ n + ms' ≤ ms) (hx : ex ≠ 0 → PX (xn ex) (np, ad, T)) (dd : decode cc pc = .ok (.invokevirtual idx, 3)) (kk : ex = 0 → GG p l e R s m args below meth c (kQ cs A PR PX below args s mc ms) cs A nL (k + mc') (n + ms') np' ad' T' (pc + 3) lv (w :: rest)) : GG p l e R s m args below meth c (kQ cs A PR PX below args s mc ms) cs A nL k n np ad T pc lv (a5 :: a4 :: a3 :: a2 :: a1 :: .ref (ad 0) :: rest) := by
  exact g_call0 C (g_runV C (ci := 1) (q := 0) (Cn := RX1) (TT := TX1) (N := 8) (As := [a1, a2, a3, a4, a5]) K hG.1 hG.2 hR (by omega) rfl rfl hW hf dd) (g_pass C hE (fun E u h => by obtain ⟨h1, rfl, rfl⟩ := h; exact hx h1) hm.1 hm.2) (fun v u h => by obtain ⟨h1, rfl, rfl⟩ := h; exact kk h1)
theorem g_cY5Dn (C : gC p l s m args meth c cs A nL cc own rt) {a1 a2 a3 a4 a5 : Value} {ex : Nat} {y : MethodName} {b : ByteArray} {maxL : Nat} {ret : Option FieldType} {d mc' ms' idx np' : Nat} {ad' : Nat → Nat} {T' : MT} {rest : List Value} (hE : ∀ x ∈ c.exceptionTable.toList, False) (hG : CGV own idx RX1 y b maxL ret 5) (K : KD l cs y (Cond.code y b maxL ret :: GW) d mc' ms' [.ref (ad 0), a1, a2, a3, a4, a5] np ad T ex none (np', ad', T')) (hR : d + 1 ≤ R.frames ∧ 8 + (maxL + 11) + 40 * d ≤ R.locals) (hq : 13 ≤ np) (hW : (rest.map fun v => v.category).sum ≤ 8) (hf : k + mc' ≤ R.cells ∧ n + ms' ≤ R.slots) (hm : k + mc' ≤ mc ∧ n + ms' ≤ ms) (hx : ex ≠ 0 → PX (xn ex) (np, ad, T)) (dd : decode cc pc = .ok (.invokevirtual idx, 3)) (kk : ex = 0 → GG p l e R s m args below meth c (kQ cs A PR PX below args s mc ms) cs A nL (k + mc') (n + ms') np' ad' T' (pc + 3) lv rest) : GG p l e R s m args below meth c (kQ cs A PR PX below args s mc ms) cs A nL k n np ad T pc lv (a5 :: a4 :: a3 :: a2 :: a1 :: .ref (ad 0) :: rest) := by
  exact g_call0 C (g_runV C (ci := 1) (q := 0) (Cn := RX1) (TT := TX1) (N := 8) (As := [a1, a2, a3, a4, a5]) K hG.1 hG.2 hR (by omega) rfl rfl hW hf dd) (g_pass C hE (fun E u h => by obtain ⟨h1, rfl, rfl⟩ := h; exact hx h1) hm.1 hm.2) (fun v u h => by obtain ⟨h1, rfl, rfl⟩ := h; exact kk h1)
theorem g_cY6Pv (C : gC p l s m args meth c cs A nL cc own rt) {a1 a2 a3 a4 a5 a6 : Value} {w : Value} {y : MethodName} {b : ByteArray} {maxL : Nat} {ret : Option FieldType} {d mc' ms' idx np' : Nat} {ad' : Nat → Nat} {T' : MT} {rest : List Value} (hG : CGV own idx RX1 y b maxL ret 6) (K : KD l cs y (Cond.code y b maxL ret :: GW) d mc' ms' [.ref (ad 0), a1, a2, a3, a4, a5, a6] np ad T 0 (some w) (np', ad', T')) (hR : d + 1 ≤ R.frames ∧ 8 + (maxL + 11) + 40 * d ≤ R.locals) (hq : 13 ≤ np) (hW : (rest.map fun v => v.category).sum ≤ 8) (hf : k + mc' ≤ R.cells ∧ n + ms' ≤ R.slots) (dd : decode cc pc = .ok (.invokevirtual idx, 3)) (kk : GG p l e R s m args below meth c Q cs A nL (k + mc') (n + ms') np' ad' T' (pc + 3) lv (w :: rest)) : GG p l e R s m args below meth c Q cs A nL k n np ad T pc lv (a6 :: a5 :: a4 :: a3 :: a2 :: a1 :: .ref (ad 0) :: rest) := by
  exact g_call0 C (g_runV C (ci := 1) (q := 0) (Cn := RX1) (TT := TX1) (N := 8) (As := [a1, a2, a3, a4, a5, a6]) K hG.1 hG.2 hR (by omega) rfl rfl hW hf dd) (fun E u h => absurd rfl h.1) (fun v u h => by obtain ⟨-, rfl, rfl⟩ := h; exact kk)
theorem g_cY6Pn (C : gC p l s m args meth c cs A nL cc own rt) {a1 a2 a3 a4 a5 a6 : Value} {y : MethodName} {b : ByteArray} {maxL : Nat} {ret : Option FieldType} {d mc' ms' idx np' : Nat} {ad' : Nat → Nat} {T' : MT} {rest : List Value} (hG : CGV own idx RX1 y b maxL ret 6) (K : KD l cs y (Cond.code y b maxL ret :: GW) d mc' ms' [.ref (ad 0), a1, a2, a3, a4, a5, a6] np ad T 0 none (np', ad', T')) (hR : d + 1 ≤ R.frames ∧ 8 + (maxL + 11) + 40 * d ≤ R.locals) (hq : 13 ≤ np) (hW : (rest.map fun v => v.category).sum ≤ 8) (hf : k + mc' ≤ R.cells ∧ n + ms' ≤ R.slots) (dd : decode cc pc = .ok (.invokevirtual idx, 3)) (kk : GG p l e R s m args below meth c Q cs A nL (k + mc') (n + ms') np' ad' T' (pc + 3) lv rest) : GG p l e R s m args below meth c Q cs A nL k n np ad T pc lv (a6 :: a5 :: a4 :: a3 :: a2 :: a1 :: .ref (ad 0) :: rest) := by
  exact g_call0 C (g_runV C (ci := 1) (q := 0) (Cn := RX1) (TT := TX1) (N := 8) (As := [a1, a2, a3, a4, a5, a6]) K hG.1 hG.2 hR (by omega) rfl rfl hW hf dd) (fun E u h => absurd rfl h.1) (fun v u h => by obtain ⟨-, rfl, rfl⟩ := h; exact kk)
theorem g_cY6Dv (C : gC p l s m args meth c cs A nL cc own rt) {a1 a2 a3 a4 a5 a6 : Value} {w : Value} {ex : Nat} {y : MethodName} {b : ByteArray} {maxL : Nat} {ret : Option FieldType} {d mc' ms' idx np' : Nat} {ad' : Nat → Nat} {T' : MT} {rest : List Value} (hE : ∀ x ∈ c.exceptionTable.toList, False) (hG : CGV own idx RX1 y b maxL ret 6) (K : KD l cs y (Cond.code y b maxL ret :: GW) d mc' ms' [.ref (ad 0), a1, a2, a3, a4, a5, a6] np ad T ex (some w) (np', ad', T')) (hR : d + 1 ≤ R.frames ∧ 8 + (maxL + 11) + 40 * d ≤ R.locals) (hq : 13 ≤ np) (hW : (rest.map fun v => v.category).sum ≤ 8) (hf : k + mc' ≤ R.cells ∧ n + ms' ≤ R.slots) (hm : k + mc' ≤ mc ∧ n + ms' ≤ ms) (hx : ex ≠ 0 → PX (xn ex) (np, ad, T)) (dd : decode cc pc = .ok (.invokevirtual idx, 3)) (kk : ex = 0 → GG p l e R s m args below meth c (kQ cs A PR PX below args s mc ms) cs A nL (k + mc') (n + ms') np' ad' T' (pc + 3) lv (w :: rest)) : GG p l e R s m args below meth c (kQ cs A PR PX below args s mc ms) cs A nL k n np ad T pc lv (a6 :: a5 :: a4 :: a3 :: a2 :: a1 :: .ref (ad 0) :: rest) := by
  exact g_call0 C (g_runV C (ci := 1) (q := 0) (Cn := RX1) (TT := TX1) (N := 8) (As := [a1, a2, a3, a4, a5, a6]) K hG.1 hG.2 hR (by omega) rfl rfl hW hf dd) (g_pass C hE (fun E u h => by obtain ⟨h1, rfl, rfl⟩ := h; exact hx h1) hm.1 hm.2) (fun v u h => by obtain ⟨h1, rfl, rfl⟩ := h; exact kk h1)
theorem g_cY6Dn (C : gC p l s m args meth c cs A nL cc own rt) {a1 a2 a3 a4 a5 a6 : Value} {ex : Nat} {y : MethodName} {b : ByteArray} {maxL : Nat} {ret : Option FieldType} {d mc' ms' idx np' : Nat} {ad' : Nat → Nat} {T' : MT} {rest : List Value} (hE : ∀ x ∈ c.exceptionTable.toList, False) (hG : CGV own idx RX1 y b maxL ret 6) (K : KD l cs y (Cond.code y b maxL ret :: GW) d mc' ms' [.ref (ad 0), a1, a2, a3, a4, a5, a6] np ad T ex none (np', ad', T')) (hR : d + 1 ≤ R.frames ∧ 8 + (maxL + 11) + 40 * d ≤ R.locals) (hq : 13 ≤ np) (hW : (rest.map fun v => v.category).sum ≤ 8) (hf : k + mc' ≤ R.cells ∧ n + ms' ≤ R.slots) (hm : k + mc' ≤ mc ∧ n + ms' ≤ ms) (hx : ex ≠ 0 → PX (xn ex) (np, ad, T)) (dd : decode cc pc = .ok (.invokevirtual idx, 3)) (kk : ex = 0 → GG p l e R s m args below meth c (kQ cs A PR PX below args s mc ms) cs A nL (k + mc') (n + ms') np' ad' T' (pc + 3) lv rest) : GG p l e R s m args below meth c (kQ cs A PR PX below args s mc ms) cs A nL k n np ad T pc lv (a6 :: a5 :: a4 :: a3 :: a2 :: a1 :: .ref (ad 0) :: rest) := by
  exact g_call0 C (g_runV C (ci := 1) (q := 0) (Cn := RX1) (TT := TX1) (N := 8) (As := [a1, a2, a3, a4, a5, a6]) K hG.1 hG.2 hR (by omega) rfl rfl hW hf dd) (g_pass C hE (fun E u h => by obtain ⟨h1, rfl, rfl⟩ := h; exact hx h1) hm.1 hm.2) (fun v u h => by obtain ⟨h1, rfl, rfl⟩ := h; exact kk h1)
theorem g_cS0Pv (C : gC p l s m args meth c cs A nL cc own rt) {w : Value} {x : Int} {y : MethodName} {b : ByteArray} {maxL : Nat} {ret : Option FieldType} {d mc' ms' idx np' : Nat} {ad' : Nat → Nat} {T' : MT} {rest : List Value} (hG : CGV own idx RX0 y b maxL ret 0) (K : KD l cs y (Cond.code y b maxL ret :: GW) d mc' ms' [grf ad x] np ad T 0 (some w) (np', ad', T')) (hR : d + 1 ≤ R.frames ∧ 8 + (maxL + 11) + 40 * d ≤ R.locals) (hq : 0 ≤ x ∧ x + 13 < np) (hW : (rest.map fun v => v.category).sum ≤ 8) (hf : k + mc' ≤ R.cells ∧ n + ms' ≤ R.slots) (dd : decode cc pc = .ok (.invokevirtual idx, 3)) (kk : GG p l e R s m args below meth c Q cs A nL (k + mc') (n + ms') np' ad' T' (pc + 3) lv (w :: rest)) : GG p l e R s m args below meth c Q cs A nL k n np ad T pc lv (grf ad x :: rest) := by
  rw [grf_ref hq.1] at K ⊢
  exact g_call0 C (g_runV C (ci := 0) (q := (x.toNat + 13)) (Cn := RX0) (TT := TX0) (N := 5) (As := []) K hG.1 hG.2 hR (by omega) rfl rfl hW hf dd) (fun E u h => absurd rfl h.1) (fun v u h => by obtain ⟨-, rfl, rfl⟩ := h; exact kk)
theorem g_cS0Pn (C : gC p l s m args meth c cs A nL cc own rt) {x : Int} {y : MethodName} {b : ByteArray} {maxL : Nat} {ret : Option FieldType} {d mc' ms' idx np' : Nat} {ad' : Nat → Nat} {T' : MT} {rest : List Value} (hG : CGV own idx RX0 y b maxL ret 0) (K : KD l cs y (Cond.code y b maxL ret :: GW) d mc' ms' [grf ad x] np ad T 0 none (np', ad', T')) (hR : d + 1 ≤ R.frames ∧ 8 + (maxL + 11) + 40 * d ≤ R.locals) (hq : 0 ≤ x ∧ x + 13 < np) (hW : (rest.map fun v => v.category).sum ≤ 8) (hf : k + mc' ≤ R.cells ∧ n + ms' ≤ R.slots) (dd : decode cc pc = .ok (.invokevirtual idx, 3)) (kk : GG p l e R s m args below meth c Q cs A nL (k + mc') (n + ms') np' ad' T' (pc + 3) lv rest) : GG p l e R s m args below meth c Q cs A nL k n np ad T pc lv (grf ad x :: rest) := by
  rw [grf_ref hq.1] at K ⊢
  exact g_call0 C (g_runV C (ci := 0) (q := (x.toNat + 13)) (Cn := RX0) (TT := TX0) (N := 5) (As := []) K hG.1 hG.2 hR (by omega) rfl rfl hW hf dd) (fun E u h => absurd rfl h.1) (fun v u h => by obtain ⟨-, rfl, rfl⟩ := h; exact kk)
theorem g_cS0Dv (C : gC p l s m args meth c cs A nL cc own rt) {w : Value} {ex : Nat} {x : Int} {y : MethodName} {b : ByteArray} {maxL : Nat} {ret : Option FieldType} {d mc' ms' idx np' : Nat} {ad' : Nat → Nat} {T' : MT} {rest : List Value} (hE : ∀ x ∈ c.exceptionTable.toList, False) (hG : CGV own idx RX0 y b maxL ret 0) (K : KD l cs y (Cond.code y b maxL ret :: GW) d mc' ms' [grf ad x] np ad T ex (some w) (np', ad', T')) (hR : d + 1 ≤ R.frames ∧ 8 + (maxL + 11) + 40 * d ≤ R.locals) (hq : 0 ≤ x ∧ x + 13 < np) (hW : (rest.map fun v => v.category).sum ≤ 8) (hf : k + mc' ≤ R.cells ∧ n + ms' ≤ R.slots) (hm : k + mc' ≤ mc ∧ n + ms' ≤ ms) (hx : ex ≠ 0 → PX (xn ex) (np, ad, T)) (dd : decode cc pc = .ok (.invokevirtual idx, 3)) (kk : ex = 0 → GG p l e R s m args below meth c (kQ cs A PR PX below args s mc ms) cs A nL (k + mc') (n + ms') np' ad' T' (pc + 3) lv (w :: rest)) : GG p l e R s m args below meth c (kQ cs A PR PX below args s mc ms) cs A nL k n np ad T pc lv (grf ad x :: rest) := by
  rw [grf_ref hq.1] at K ⊢
  exact g_call0 C (g_runV C (ci := 0) (q := (x.toNat + 13)) (Cn := RX0) (TT := TX0) (N := 5) (As := []) K hG.1 hG.2 hR (by omega) rfl rfl hW hf dd) (g_pass C hE (fun E u h => by obtain ⟨h1, rfl, rfl⟩ := h; exact hx h1) hm.1 hm.2) (fun v u h => by obtain ⟨h1, rfl, rfl⟩ := h; exact kk h1)
theorem g_cS0Dn (C : gC p l s m args meth c cs A nL cc own rt) {ex : Nat} {x : Int} {y : MethodName} {b : ByteArray} {maxL : Nat} {ret : Option FieldType} {d mc' ms' idx np' : Nat} {ad' : Nat → Nat} {T' : MT} {rest : List Value} (hE : ∀ x ∈ c.exceptionTable.toList, False) (hG : CGV own idx RX0 y b maxL ret 0) (K : KD l cs y (Cond.code y b maxL ret :: GW) d mc' ms' [grf ad x] np ad T ex none (np', ad', T')) (hR : d + 1 ≤ R.frames ∧ 8 + (maxL + 11) + 40 * d ≤ R.locals) (hq : 0 ≤ x ∧ x + 13 < np) (hW : (rest.map fun v => v.category).sum ≤ 8) (hf : k + mc' ≤ R.cells ∧ n + ms' ≤ R.slots) (hm : k + mc' ≤ mc ∧ n + ms' ≤ ms) (hx : ex ≠ 0 → PX (xn ex) (np, ad, T)) (dd : decode cc pc = .ok (.invokevirtual idx, 3)) (kk : ex = 0 → GG p l e R s m args below meth c (kQ cs A PR PX below args s mc ms) cs A nL (k + mc') (n + ms') np' ad' T' (pc + 3) lv rest) : GG p l e R s m args below meth c (kQ cs A PR PX below args s mc ms) cs A nL k n np ad T pc lv (grf ad x :: rest) := by
  rw [grf_ref hq.1] at K ⊢
  exact g_call0 C (g_runV C (ci := 0) (q := (x.toNat + 13)) (Cn := RX0) (TT := TX0) (N := 5) (As := []) K hG.1 hG.2 hR (by omega) rfl rfl hW hf dd) (g_pass C hE (fun E u h => by obtain ⟨h1, rfl, rfl⟩ := h; exact hx h1) hm.1 hm.2) (fun v u h => by obtain ⟨h1, rfl, rfl⟩ := h; exact kk h1)
theorem g_cS1Pv (C : gC p l s m args meth c cs A nL cc own rt) {a1 : Value} {w : Value} {x : Int} {y : MethodName} {b : ByteArray} {maxL : Nat} {ret : Option FieldType} {d mc' ms' idx np' : Nat} {ad' : Nat → Nat} {T' : MT} {rest : List Value} (hG : CGV own idx RX0 y b maxL ret 1) (K : KD l cs y (Cond.code y b maxL ret :: GW) d mc' ms' [grf ad x, a1] np ad T 0 (some w) (np', ad', T')) (hR : d + 1 ≤ R.frames ∧ 8 + (maxL + 11) + 40 * d ≤ R.locals) (hq : 0 ≤ x ∧ x + 13 < np) (hW : (rest.map fun v => v.category).sum ≤ 8) (hf : k + mc' ≤ R.cells ∧ n + ms' ≤ R.slots) (dd : decode cc pc = .ok (.invokevirtual idx, 3)) (kk : GG p l e R s m args below meth c Q cs A nL (k + mc') (n + ms') np' ad' T' (pc + 3) lv (w :: rest)) : GG p l e R s m args below meth c Q cs A nL k n np ad T pc lv (a1 :: grf ad x :: rest) := by
  rw [grf_ref hq.1] at K ⊢
  exact g_call0 C (g_runV C (ci := 0) (q := (x.toNat + 13)) (Cn := RX0) (TT := TX0) (N := 5) (As := [a1]) K hG.1 hG.2 hR (by omega) rfl rfl hW hf dd) (fun E u h => absurd rfl h.1) (fun v u h => by obtain ⟨-, rfl, rfl⟩ := h; exact kk)
theorem g_cS1Pn (C : gC p l s m args meth c cs A nL cc own rt) {a1 : Value} {x : Int} {y : MethodName} {b : ByteArray} {maxL : Nat} {ret : Option FieldType} {d mc' ms' idx np' : Nat} {ad' : Nat → Nat} {T' : MT} {rest : List Value} (hG : CGV own idx RX0 y b maxL ret 1) (K : KD l cs y (Cond.code y b maxL ret :: GW) d mc' ms' [grf ad x, a1] np ad T 0 none (np', ad', T')) (hR : d + 1 ≤ R.frames ∧ 8 + (maxL + 11) + 40 * d ≤ R.locals) (hq : 0 ≤ x ∧ x + 13 < np) (hW : (rest.map fun v => v.category).sum ≤ 8) (hf : k + mc' ≤ R.cells ∧ n + ms' ≤ R.slots) (dd : decode cc pc = .ok (.invokevirtual idx, 3)) (kk : GG p l e R s m args below meth c Q cs A nL (k + mc') (n + ms') np' ad' T' (pc + 3) lv rest) : GG p l e R s m args below meth c Q cs A nL k n np ad T pc lv (a1 :: grf ad x :: rest) := by
  rw [grf_ref hq.1] at K ⊢
  exact g_call0 C (g_runV C (ci := 0) (q := (x.toNat + 13)) (Cn := RX0) (TT := TX0) (N := 5) (As := [a1]) K hG.1 hG.2 hR (by omega) rfl rfl hW hf dd) (fun E u h => absurd rfl h.1) (fun v u h => by obtain ⟨-, rfl, rfl⟩ := h; exact kk)
theorem g_cS1Dv (C : gC p l s m args meth c cs A nL cc own rt) {a1 : Value} {w : Value} {ex : Nat} {x : Int} {y : MethodName} {b : ByteArray} {maxL : Nat} {ret : Option FieldType} {d mc' ms' idx np' : Nat} {ad' : Nat → Nat} {T' : MT} {rest : List Value} (hE : ∀ x ∈ c.exceptionTable.toList, False) (hG : CGV own idx RX0 y b maxL ret 1) (K : KD l cs y (Cond.code y b maxL ret :: GW) d mc' ms' [grf ad x, a1] np ad T ex (some w) (np', ad', T')) (hR : d + 1 ≤ R.frames ∧ 8 + (maxL + 11) + 40 * d ≤ R.locals) (hq : 0 ≤ x ∧ x + 13 < np) (hW : (rest.map fun v => v.category).sum ≤ 8) (hf : k + mc' ≤ R.cells ∧ n + ms' ≤ R.slots) (hm : k + mc' ≤ mc ∧ n + ms' ≤ ms) (hx : ex ≠ 0 → PX (xn ex) (np, ad, T)) (dd : decode cc pc = .ok (.invokevirtual idx, 3)) (kk : ex = 0 → GG p l e R s m args below meth c (kQ cs A PR PX below args s mc ms) cs A nL (k + mc') (n + ms') np' ad' T' (pc + 3) lv (w :: rest)) : GG p l e R s m args below meth c (kQ cs A PR PX below args s mc ms) cs A nL k n np ad T pc lv (a1 :: grf ad x :: rest) := by
  rw [grf_ref hq.1] at K ⊢
  exact g_call0 C (g_runV C (ci := 0) (q := (x.toNat + 13)) (Cn := RX0) (TT := TX0) (N := 5) (As := [a1]) K hG.1 hG.2 hR (by omega) rfl rfl hW hf dd) (g_pass C hE (fun E u h => by obtain ⟨h1, rfl, rfl⟩ := h; exact hx h1) hm.1 hm.2) (fun v u h => by obtain ⟨h1, rfl, rfl⟩ := h; exact kk h1)
theorem g_cS1Dn (C : gC p l s m args meth c cs A nL cc own rt) {a1 : Value} {ex : Nat} {x : Int} {y : MethodName} {b : ByteArray} {maxL : Nat} {ret : Option FieldType} {d mc' ms' idx np' : Nat} {ad' : Nat → Nat} {T' : MT} {rest : List Value} (hE : ∀ x ∈ c.exceptionTable.toList, False) (hG : CGV own idx RX0 y b maxL ret 1) (K : KD l cs y (Cond.code y b maxL ret :: GW) d mc' ms' [grf ad x, a1] np ad T ex none (np', ad', T')) (hR : d + 1 ≤ R.frames ∧ 8 + (maxL + 11) + 40 * d ≤ R.locals) (hq : 0 ≤ x ∧ x + 13 < np) (hW : (rest.map fun v => v.category).sum ≤ 8) (hf : k + mc' ≤ R.cells ∧ n + ms' ≤ R.slots) (hm : k + mc' ≤ mc ∧ n + ms' ≤ ms) (hx : ex ≠ 0 → PX (xn ex) (np, ad, T)) (dd : decode cc pc = .ok (.invokevirtual idx, 3)) (kk : ex = 0 → GG p l e R s m args below meth c (kQ cs A PR PX below args s mc ms) cs A nL (k + mc') (n + ms') np' ad' T' (pc + 3) lv rest) : GG p l e R s m args below meth c (kQ cs A PR PX below args s mc ms) cs A nL k n np ad T pc lv (a1 :: grf ad x :: rest) := by
  rw [grf_ref hq.1] at K ⊢
  exact g_call0 C (g_runV C (ci := 0) (q := (x.toNat + 13)) (Cn := RX0) (TT := TX0) (N := 5) (As := [a1]) K hG.1 hG.2 hR (by omega) rfl rfl hW hf dd) (g_pass C hE (fun E u h => by obtain ⟨h1, rfl, rfl⟩ := h; exact hx h1) hm.1 hm.2) (fun v u h => by obtain ⟨h1, rfl, rfl⟩ := h; exact kk h1)
theorem g_cS2Pv (C : gC p l s m args meth c cs A nL cc own rt) {a1 a2 : Value} {w : Value} {x : Int} {y : MethodName} {b : ByteArray} {maxL : Nat} {ret : Option FieldType} {d mc' ms' idx np' : Nat} {ad' : Nat → Nat} {T' : MT} {rest : List Value} (hG : CGV own idx RX0 y b maxL ret 2) (K : KD l cs y (Cond.code y b maxL ret :: GW) d mc' ms' [grf ad x, a1, a2] np ad T 0 (some w) (np', ad', T')) (hR : d + 1 ≤ R.frames ∧ 8 + (maxL + 11) + 40 * d ≤ R.locals) (hq : 0 ≤ x ∧ x + 13 < np) (hW : (rest.map fun v => v.category).sum ≤ 8) (hf : k + mc' ≤ R.cells ∧ n + ms' ≤ R.slots) (dd : decode cc pc = .ok (.invokevirtual idx, 3)) (kk : GG p l e R s m args below meth c Q cs A nL (k + mc') (n + ms') np' ad' T' (pc + 3) lv (w :: rest)) : GG p l e R s m args below meth c Q cs A nL k n np ad T pc lv (a2 :: a1 :: grf ad x :: rest) := by
  rw [grf_ref hq.1] at K ⊢
  exact g_call0 C (g_runV C (ci := 0) (q := (x.toNat + 13)) (Cn := RX0) (TT := TX0) (N := 5) (As := [a1, a2]) K hG.1 hG.2 hR (by omega) rfl rfl hW hf dd) (fun E u h => absurd rfl h.1) (fun v u h => by obtain ⟨-, rfl, rfl⟩ := h; exact kk)
theorem g_cS2Pn (C : gC p l s m args meth c cs A nL cc own rt) {a1 a2 : Value} {x : Int} {y : MethodName} {b : ByteArray} {maxL : Nat} {ret : Option FieldType} {d mc' ms' idx np' : Nat} {ad' : Nat → Nat} {T' : MT} {rest : List Value} (hG : CGV own idx RX0 y b maxL ret 2) (K : KD l cs y (Cond.code y b maxL ret :: GW) d mc' ms' [grf ad x, a1, a2] np ad T 0 none (np', ad', T')) (hR : d + 1 ≤ R.frames ∧ 8 + (maxL + 11) + 40 * d ≤ R.locals) (hq : 0 ≤ x ∧ x + 13 < np) (hW : (rest.map fun v => v.category).sum ≤ 8) (hf : k + mc' ≤ R.cells ∧ n + ms' ≤ R.slots) (dd : decode cc pc = .ok (.invokevirtual idx, 3)) (kk : GG p l e R s m args below meth c Q cs A nL (k + mc') (n + ms') np' ad' T' (pc + 3) lv rest) : GG p l e R s m args below meth c Q cs A nL k n np ad T pc lv (a2 :: a1 :: grf ad x :: rest) := by
  rw [grf_ref hq.1] at K ⊢
  exact g_call0 C (g_runV C (ci := 0) (q := (x.toNat + 13)) (Cn := RX0) (TT := TX0) (N := 5) (As := [a1, a2]) K hG.1 hG.2 hR (by omega) rfl rfl hW hf dd) (fun E u h => absurd rfl h.1) (fun v u h => by obtain ⟨-, rfl, rfl⟩ := h; exact kk)
theorem g_cS2Dv (C : gC p l s m args meth c cs A nL cc own rt) {a1 a2 : Value} {w : Value} {ex : Nat} {x : Int} {y : MethodName} {b : ByteArray} {maxL : Nat} {ret : Option FieldType} {d mc' ms' idx np' : Nat} {ad' : Nat → Nat} {T' : MT} {rest : List Value} (hE : ∀ x ∈ c.exceptionTable.toList, False) (hG : CGV own idx RX0 y b maxL ret 2) (K : KD l cs y (Cond.code y b maxL ret :: GW) d mc' ms' [grf ad x, a1, a2] np ad T ex (some w) (np', ad', T')) (hR : d + 1 ≤ R.frames ∧ 8 + (maxL + 11) + 40 * d ≤ R.locals) (hq : 0 ≤ x ∧ x + 13 < np) (hW : (rest.map fun v => v.category).sum ≤ 8) (hf : k + mc' ≤ R.cells ∧ n + ms' ≤ R.slots) (hm : k + mc' ≤ mc ∧ n + ms' ≤ ms) (hx : ex ≠ 0 → PX (xn ex) (np, ad, T)) (dd : decode cc pc = .ok (.invokevirtual idx, 3)) (kk : ex = 0 → GG p l e R s m args below meth c (kQ cs A PR PX below args s mc ms) cs A nL (k + mc') (n + ms') np' ad' T' (pc + 3) lv (w :: rest)) : GG p l e R s m args below meth c (kQ cs A PR PX below args s mc ms) cs A nL k n np ad T pc lv (a2 :: a1 :: grf ad x :: rest) := by
  rw [grf_ref hq.1] at K ⊢
  exact g_call0 C (g_runV C (ci := 0) (q := (x.toNat + 13)) (Cn := RX0) (TT := TX0) (N := 5) (As := [a1, a2]) K hG.1 hG.2 hR (by omega) rfl rfl hW hf dd) (g_pass C hE (fun E u h => by obtain ⟨h1, rfl, rfl⟩ := h; exact hx h1) hm.1 hm.2) (fun v u h => by obtain ⟨h1, rfl, rfl⟩ := h; exact kk h1)
theorem g_cS2Dn (C : gC p l s m args meth c cs A nL cc own rt) {a1 a2 : Value} {ex : Nat} {x : Int} {y : MethodName} {b : ByteArray} {maxL : Nat} {ret : Option FieldType} {d mc' ms' idx np' : Nat} {ad' : Nat → Nat} {T' : MT} {rest : List Value} (hE : ∀ x ∈ c.exceptionTable.toList, False) (hG : CGV own idx RX0 y b maxL ret 2) (K : KD l cs y (Cond.code y b maxL ret :: GW) d mc' ms' [grf ad x, a1, a2] np ad T ex none (np', ad', T')) (hR : d + 1 ≤ R.frames ∧ 8 + (maxL + 11) + 40 * d ≤ R.locals) (hq : 0 ≤ x ∧ x + 13 < np) (hW : (rest.map fun v => v.category).sum ≤ 8) (hf : k + mc' ≤ R.cells ∧ n + ms' ≤ R.slots) (hm : k + mc' ≤ mc ∧ n + ms' ≤ ms) (hx : ex ≠ 0 → PX (xn ex) (np, ad, T)) (dd : decode cc pc = .ok (.invokevirtual idx, 3)) (kk : ex = 0 → GG p l e R s m args below meth c (kQ cs A PR PX below args s mc ms) cs A nL (k + mc') (n + ms') np' ad' T' (pc + 3) lv rest) : GG p l e R s m args below meth c (kQ cs A PR PX below args s mc ms) cs A nL k n np ad T pc lv (a2 :: a1 :: grf ad x :: rest) := by
  rw [grf_ref hq.1] at K ⊢
  exact g_call0 C (g_runV C (ci := 0) (q := (x.toNat + 13)) (Cn := RX0) (TT := TX0) (N := 5) (As := [a1, a2]) K hG.1 hG.2 hR (by omega) rfl rfl hW hf dd) (g_pass C hE (fun E u h => by obtain ⟨h1, rfl, rfl⟩ := h; exact hx h1) hm.1 hm.2) (fun v u h => by obtain ⟨h1, rfl, rfl⟩ := h; exact kk h1)
theorem g_cS3Pv (C : gC p l s m args meth c cs A nL cc own rt) {a1 a2 a3 : Value} {w : Value} {x : Int} {y : MethodName} {b : ByteArray} {maxL : Nat} {ret : Option FieldType} {d mc' ms' idx np' : Nat} {ad' : Nat → Nat} {T' : MT} {rest : List Value} (hG : CGV own idx RX0 y b maxL ret 3) (K : KD l cs y (Cond.code y b maxL ret :: GW) d mc' ms' [grf ad x, a1, a2, a3] np ad T 0 (some w) (np', ad', T')) (hR : d + 1 ≤ R.frames ∧ 8 + (maxL + 11) + 40 * d ≤ R.locals) (hq : 0 ≤ x ∧ x + 13 < np) (hW : (rest.map fun v => v.category).sum ≤ 8) (hf : k + mc' ≤ R.cells ∧ n + ms' ≤ R.slots) (dd : decode cc pc = .ok (.invokevirtual idx, 3)) (kk : GG p l e R s m args below meth c Q cs A nL (k + mc') (n + ms') np' ad' T' (pc + 3) lv (w :: rest)) : GG p l e R s m args below meth c Q cs A nL k n np ad T pc lv (a3 :: a2 :: a1 :: grf ad x :: rest) := by
  rw [grf_ref hq.1] at K ⊢
  exact g_call0 C (g_runV C (ci := 0) (q := (x.toNat + 13)) (Cn := RX0) (TT := TX0) (N := 5) (As := [a1, a2, a3]) K hG.1 hG.2 hR (by omega) rfl rfl hW hf dd) (fun E u h => absurd rfl h.1) (fun v u h => by obtain ⟨-, rfl, rfl⟩ := h; exact kk)
theorem g_cS3Pn (C : gC p l s m args meth c cs A nL cc own rt) {a1 a2 a3 : Value} {x : Int} {y : MethodName} {b : ByteArray} {maxL : Nat} {ret : Option FieldType} {d mc' ms' idx np' : Nat} {ad' : Nat → Nat} {T' : MT} {rest : List Value} (hG : CGV own idx RX0 y b maxL ret 3) (K : KD l cs y (Cond.code y b maxL ret :: GW) d mc' ms' [grf ad x, a1, a2, a3] np ad T 0 none (np', ad', T')) (hR : d + 1 ≤ R.frames ∧ 8 + (maxL + 11) + 40 * d ≤ R.locals) (hq : 0 ≤ x ∧ x + 13 < np) (hW : (rest.map fun v => v.category).sum ≤ 8) (hf : k + mc' ≤ R.cells ∧ n + ms' ≤ R.slots) (dd : decode cc pc = .ok (.invokevirtual idx, 3)) (kk : GG p l e R s m args below meth c Q cs A nL (k + mc') (n + ms') np' ad' T' (pc + 3) lv rest) : GG p l e R s m args below meth c Q cs A nL k n np ad T pc lv (a3 :: a2 :: a1 :: grf ad x :: rest) := by
  rw [grf_ref hq.1] at K ⊢
  exact g_call0 C (g_runV C (ci := 0) (q := (x.toNat + 13)) (Cn := RX0) (TT := TX0) (N := 5) (As := [a1, a2, a3]) K hG.1 hG.2 hR (by omega) rfl rfl hW hf dd) (fun E u h => absurd rfl h.1) (fun v u h => by obtain ⟨-, rfl, rfl⟩ := h; exact kk)
theorem g_cS3Dv (C : gC p l s m args meth c cs A nL cc own rt) {a1 a2 a3 : Value} {w : Value} {ex : Nat} {x : Int} {y : MethodName} {b : ByteArray} {maxL : Nat} {ret : Option FieldType} {d mc' ms' idx np' : Nat} {ad' : Nat → Nat} {T' : MT} {rest : List Value} (hE : ∀ x ∈ c.exceptionTable.toList, False) (hG : CGV own idx RX0 y b maxL ret 3) (K : KD l cs y (Cond.code y b maxL ret :: GW) d mc' ms' [grf ad x, a1, a2, a3] np ad T ex (some w) (np', ad', T')) (hR : d + 1 ≤ R.frames ∧ 8 + (maxL + 11) + 40 * d ≤ R.locals) (hq : 0 ≤ x ∧ x + 13 < np) (hW : (rest.map fun v => v.category).sum ≤ 8) (hf : k + mc' ≤ R.cells ∧ n + ms' ≤ R.slots) (hm : k + mc' ≤ mc ∧ n + ms' ≤ ms) (hx : ex ≠ 0 → PX (xn ex) (np, ad, T)) (dd : decode cc pc = .ok (.invokevirtual idx, 3)) (kk : ex = 0 → GG p l e R s m args below meth c (kQ cs A PR PX below args s mc ms) cs A nL (k + mc') (n + ms') np' ad' T' (pc + 3) lv (w :: rest)) : GG p l e R s m args below meth c (kQ cs A PR PX below args s mc ms) cs A nL k n np ad T pc lv (a3 :: a2 :: a1 :: grf ad x :: rest) := by
  rw [grf_ref hq.1] at K ⊢
  exact g_call0 C (g_runV C (ci := 0) (q := (x.toNat + 13)) (Cn := RX0) (TT := TX0) (N := 5) (As := [a1, a2, a3]) K hG.1 hG.2 hR (by omega) rfl rfl hW hf dd) (g_pass C hE (fun E u h => by obtain ⟨h1, rfl, rfl⟩ := h; exact hx h1) hm.1 hm.2) (fun v u h => by obtain ⟨h1, rfl, rfl⟩ := h; exact kk h1)
theorem g_cS3Dn (C : gC p l s m args meth c cs A nL cc own rt) {a1 a2 a3 : Value} {ex : Nat} {x : Int} {y : MethodName} {b : ByteArray} {maxL : Nat} {ret : Option FieldType} {d mc' ms' idx np' : Nat} {ad' : Nat → Nat} {T' : MT} {rest : List Value} (hE : ∀ x ∈ c.exceptionTable.toList, False) (hG : CGV own idx RX0 y b maxL ret 3) (K : KD l cs y (Cond.code y b maxL ret :: GW) d mc' ms' [grf ad x, a1, a2, a3] np ad T ex none (np', ad', T')) (hR : d + 1 ≤ R.frames ∧ 8 + (maxL + 11) + 40 * d ≤ R.locals) (hq : 0 ≤ x ∧ x + 13 < np) (hW : (rest.map fun v => v.category).sum ≤ 8) (hf : k + mc' ≤ R.cells ∧ n + ms' ≤ R.slots) (hm : k + mc' ≤ mc ∧ n + ms' ≤ ms) (hx : ex ≠ 0 → PX (xn ex) (np, ad, T)) (dd : decode cc pc = .ok (.invokevirtual idx, 3)) (kk : ex = 0 → GG p l e R s m args below meth c (kQ cs A PR PX below args s mc ms) cs A nL (k + mc') (n + ms') np' ad' T' (pc + 3) lv rest) : GG p l e R s m args below meth c (kQ cs A PR PX below args s mc ms) cs A nL k n np ad T pc lv (a3 :: a2 :: a1 :: grf ad x :: rest) := by
  rw [grf_ref hq.1] at K ⊢
  exact g_call0 C (g_runV C (ci := 0) (q := (x.toNat + 13)) (Cn := RX0) (TT := TX0) (N := 5) (As := [a1, a2, a3]) K hG.1 hG.2 hR (by omega) rfl rfl hW hf dd) (g_pass C hE (fun E u h => by obtain ⟨h1, rfl, rfl⟩ := h; exact hx h1) hm.1 hm.2) (fun v u h => by obtain ⟨h1, rfl, rfl⟩ := h; exact kk h1)
theorem g_cS4Pv (C : gC p l s m args meth c cs A nL cc own rt) {a1 a2 a3 a4 : Value} {w : Value} {x : Int} {y : MethodName} {b : ByteArray} {maxL : Nat} {ret : Option FieldType} {d mc' ms' idx np' : Nat} {ad' : Nat → Nat} {T' : MT} {rest : List Value} (hG : CGV own idx RX0 y b maxL ret 4) (K : KD l cs y (Cond.code y b maxL ret :: GW) d mc' ms' [grf ad x, a1, a2, a3, a4] np ad T 0 (some w) (np', ad', T')) (hR : d + 1 ≤ R.frames ∧ 8 + (maxL + 11) + 40 * d ≤ R.locals) (hq : 0 ≤ x ∧ x + 13 < np) (hW : (rest.map fun v => v.category).sum ≤ 8) (hf : k + mc' ≤ R.cells ∧ n + ms' ≤ R.slots) (dd : decode cc pc = .ok (.invokevirtual idx, 3)) (kk : GG p l e R s m args below meth c Q cs A nL (k + mc') (n + ms') np' ad' T' (pc + 3) lv (w :: rest)) : GG p l e R s m args below meth c Q cs A nL k n np ad T pc lv (a4 :: a3 :: a2 :: a1 :: grf ad x :: rest) := by
  rw [grf_ref hq.1] at K ⊢
  exact g_call0 C (g_runV C (ci := 0) (q := (x.toNat + 13)) (Cn := RX0) (TT := TX0) (N := 5) (As := [a1, a2, a3, a4]) K hG.1 hG.2 hR (by omega) rfl rfl hW hf dd) (fun E u h => absurd rfl h.1) (fun v u h => by obtain ⟨-, rfl, rfl⟩ := h; exact kk)
theorem g_cS4Pn (C : gC p l s m args meth c cs A nL cc own rt) {a1 a2 a3 a4 : Value} {x : Int} {y : MethodName} {b : ByteArray} {maxL : Nat} {ret : Option FieldType} {d mc' ms' idx np' : Nat} {ad' : Nat → Nat} {T' : MT} {rest : List Value} (hG : CGV own idx RX0 y b maxL ret 4) (K : KD l cs y (Cond.code y b maxL ret :: GW) d mc' ms' [grf ad x, a1, a2, a3, a4] np ad T 0 none (np', ad', T')) (hR : d + 1 ≤ R.frames ∧ 8 + (maxL + 11) + 40 * d ≤ R.locals) (hq : 0 ≤ x ∧ x + 13 < np) (hW : (rest.map fun v => v.category).sum ≤ 8) (hf : k + mc' ≤ R.cells ∧ n + ms' ≤ R.slots) (dd : decode cc pc = .ok (.invokevirtual idx, 3)) (kk : GG p l e R s m args below meth c Q cs A nL (k + mc') (n + ms') np' ad' T' (pc + 3) lv rest) : GG p l e R s m args below meth c Q cs A nL k n np ad T pc lv (a4 :: a3 :: a2 :: a1 :: grf ad x :: rest) := by
  rw [grf_ref hq.1] at K ⊢
  exact g_call0 C (g_runV C (ci := 0) (q := (x.toNat + 13)) (Cn := RX0) (TT := TX0) (N := 5) (As := [a1, a2, a3, a4]) K hG.1 hG.2 hR (by omega) rfl rfl hW hf dd) (fun E u h => absurd rfl h.1) (fun v u h => by obtain ⟨-, rfl, rfl⟩ := h; exact kk)
theorem g_cS4Dv (C : gC p l s m args meth c cs A nL cc own rt) {a1 a2 a3 a4 : Value} {w : Value} {ex : Nat} {x : Int} {y : MethodName} {b : ByteArray} {maxL : Nat} {ret : Option FieldType} {d mc' ms' idx np' : Nat} {ad' : Nat → Nat} {T' : MT} {rest : List Value} (hE : ∀ x ∈ c.exceptionTable.toList, False) (hG : CGV own idx RX0 y b maxL ret 4) (K : KD l cs y (Cond.code y b maxL ret :: GW) d mc' ms' [grf ad x, a1, a2, a3, a4] np ad T ex (some w) (np', ad', T')) (hR : d + 1 ≤ R.frames ∧ 8 + (maxL + 11) + 40 * d ≤ R.locals) (hq : 0 ≤ x ∧ x + 13 < np) (hW : (rest.map fun v => v.category).sum ≤ 8) (hf : k + mc' ≤ R.cells ∧ n + ms' ≤ R.slots) (hm : k + mc' ≤ mc ∧ n + ms' ≤ ms) (hx : ex ≠ 0 → PX (xn ex) (np, ad, T)) (dd : decode cc pc = .ok (.invokevirtual idx, 3)) (kk : ex = 0 → GG p l e R s m args below meth c (kQ cs A PR PX below args s mc ms) cs A nL (k + mc') (n + ms') np' ad' T' (pc + 3) lv (w :: rest)) : GG p l e R s m args below meth c (kQ cs A PR PX below args s mc ms) cs A nL k n np ad T pc lv (a4 :: a3 :: a2 :: a1 :: grf ad x :: rest) := by
  rw [grf_ref hq.1] at K ⊢
  exact g_call0 C (g_runV C (ci := 0) (q := (x.toNat + 13)) (Cn := RX0) (TT := TX0) (N := 5) (As := [a1, a2, a3, a4]) K hG.1 hG.2 hR (by omega) rfl rfl hW hf dd) (g_pass C hE (fun E u h => by obtain ⟨h1, rfl, rfl⟩ := h; exact hx h1) hm.1 hm.2) (fun v u h => by obtain ⟨h1, rfl, rfl⟩ := h; exact kk h1)
theorem g_cS4Dn (C : gC p l s m args meth c cs A nL cc own rt) {a1 a2 a3 a4 : Value} {ex : Nat} {x : Int} {y : MethodName} {b : ByteArray} {maxL : Nat} {ret : Option FieldType} {d mc' ms' idx np' : Nat} {ad' : Nat → Nat} {T' : MT} {rest : List Value} (hE : ∀ x ∈ c.exceptionTable.toList, False) (hG : CGV own idx RX0 y b maxL ret 4) (K : KD l cs y (Cond.code y b maxL ret :: GW) d mc' ms' [grf ad x, a1, a2, a3, a4] np ad T ex none (np', ad', T')) (hR : d + 1 ≤ R.frames ∧ 8 + (maxL + 11) + 40 * d ≤ R.locals) (hq : 0 ≤ x ∧ x + 13 < np) (hW : (rest.map fun v => v.category).sum ≤ 8) (hf : k + mc' ≤ R.cells ∧ n + ms' ≤ R.slots) (hm : k + mc' ≤ mc ∧ n + ms' ≤ ms) (hx : ex ≠ 0 → PX (xn ex) (np, ad, T)) (dd : decode cc pc = .ok (.invokevirtual idx, 3)) (kk : ex = 0 → GG p l e R s m args below meth c (kQ cs A PR PX below args s mc ms) cs A nL (k + mc') (n + ms') np' ad' T' (pc + 3) lv rest) : GG p l e R s m args below meth c (kQ cs A PR PX below args s mc ms) cs A nL k n np ad T pc lv (a4 :: a3 :: a2 :: a1 :: grf ad x :: rest) := by
  rw [grf_ref hq.1] at K ⊢
  exact g_call0 C (g_runV C (ci := 0) (q := (x.toNat + 13)) (Cn := RX0) (TT := TX0) (N := 5) (As := [a1, a2, a3, a4]) K hG.1 hG.2 hR (by omega) rfl rfl hW hf dd) (g_pass C hE (fun E u h => by obtain ⟨h1, rfl, rfl⟩ := h; exact hx h1) hm.1 hm.2) (fun v u h => by obtain ⟨h1, rfl, rfl⟩ := h; exact kk h1)
theorem g_cS5Pv (C : gC p l s m args meth c cs A nL cc own rt) {a1 a2 a3 a4 a5 : Value} {w : Value} {x : Int} {y : MethodName} {b : ByteArray} {maxL : Nat} {ret : Option FieldType} {d mc' ms' idx np' : Nat} {ad' : Nat → Nat} {T' : MT} {rest : List Value} (hG : CGV own idx RX0 y b maxL ret 5) (K : KD l cs y (Cond.code y b maxL ret :: GW) d mc' ms' [grf ad x, a1, a2, a3, a4, a5] np ad T 0 (some w) (np', ad', T')) (hR : d + 1 ≤ R.frames ∧ 8 + (maxL + 11) + 40 * d ≤ R.locals) (hq : 0 ≤ x ∧ x + 13 < np) (hW : (rest.map fun v => v.category).sum ≤ 8) (hf : k + mc' ≤ R.cells ∧ n + ms' ≤ R.slots) (dd : decode cc pc = .ok (.invokevirtual idx, 3)) (kk : GG p l e R s m args below meth c Q cs A nL (k + mc') (n + ms') np' ad' T' (pc + 3) lv (w :: rest)) : GG p l e R s m args below meth c Q cs A nL k n np ad T pc lv (a5 :: a4 :: a3 :: a2 :: a1 :: grf ad x :: rest) := by
  rw [grf_ref hq.1] at K ⊢
  exact g_call0 C (g_runV C (ci := 0) (q := (x.toNat + 13)) (Cn := RX0) (TT := TX0) (N := 5) (As := [a1, a2, a3, a4, a5]) K hG.1 hG.2 hR (by omega) rfl rfl hW hf dd) (fun E u h => absurd rfl h.1) (fun v u h => by obtain ⟨-, rfl, rfl⟩ := h; exact kk)
theorem g_cS5Pn (C : gC p l s m args meth c cs A nL cc own rt) {a1 a2 a3 a4 a5 : Value} {x : Int} {y : MethodName} {b : ByteArray} {maxL : Nat} {ret : Option FieldType} {d mc' ms' idx np' : Nat} {ad' : Nat → Nat} {T' : MT} {rest : List Value} (hG : CGV own idx RX0 y b maxL ret 5) (K : KD l cs y (Cond.code y b maxL ret :: GW) d mc' ms' [grf ad x, a1, a2, a3, a4, a5] np ad T 0 none (np', ad', T')) (hR : d + 1 ≤ R.frames ∧ 8 + (maxL + 11) + 40 * d ≤ R.locals) (hq : 0 ≤ x ∧ x + 13 < np) (hW : (rest.map fun v => v.category).sum ≤ 8) (hf : k + mc' ≤ R.cells ∧ n + ms' ≤ R.slots) (dd : decode cc pc = .ok (.invokevirtual idx, 3)) (kk : GG p l e R s m args below meth c Q cs A nL (k + mc') (n + ms') np' ad' T' (pc + 3) lv rest) : GG p l e R s m args below meth c Q cs A nL k n np ad T pc lv (a5 :: a4 :: a3 :: a2 :: a1 :: grf ad x :: rest) := by
  rw [grf_ref hq.1] at K ⊢
  exact g_call0 C (g_runV C (ci := 0) (q := (x.toNat + 13)) (Cn := RX0) (TT := TX0) (N := 5) (As := [a1, a2, a3, a4, a5]) K hG.1 hG.2 hR (by omega) rfl rfl hW hf dd) (fun E u h => absurd rfl h.1) (fun v u h => by obtain ⟨-, rfl, rfl⟩ := h; exact kk)
theorem g_cS5Dv (C : gC p l s m args meth c cs A nL cc own rt) {a1 a2 a3 a4 a5 : Value} {w : Value} {ex : Nat} {x : Int} {y : MethodName} {b : ByteArray} {maxL : Nat} {ret : Option FieldType} {d mc' ms' idx np' : Nat} {ad' : Nat → Nat} {T' : MT} {rest : List Value} (hE : ∀ x ∈ c.exceptionTable.toList, False) (hG : CGV own idx RX0 y b maxL ret 5) (K : KD l cs y (Cond.code y b maxL ret :: GW) d mc' ms' [grf ad x, a1, a2, a3, a4, a5] np ad T ex (some w) (np', ad', T')) (hR : d + 1 ≤ R.frames ∧ 8 + (maxL + 11) + 40 * d ≤ R.locals) (hq : 0 ≤ x ∧ x + 13 < np) (hW : (rest.map fun v => v.category).sum ≤ 8) (hf : k + mc' ≤ R.cells ∧ n + ms' ≤ R.slots) (hm : k + mc' ≤ mc ∧ n + ms' ≤ ms) (hx : ex ≠ 0 → PX (xn ex) (np, ad, T)) (dd : decode cc pc = .ok (.invokevirtual idx, 3)) (kk : ex = 0 → GG p l e R s m args below meth c (kQ cs A PR PX below args s mc ms) cs A nL (k + mc') (n + ms') np' ad' T' (pc + 3) lv (w :: rest)) : GG p l e R s m args below meth c (kQ cs A PR PX below args s mc ms) cs A nL k n np ad T pc lv (a5 :: a4 :: a3 :: a2 :: a1 :: grf ad x :: rest) := by
  rw [grf_ref hq.1] at K ⊢
  exact g_call0 C (g_runV C (ci := 0) (q := (x.toNat + 13)) (Cn := RX0) (TT := TX0) (N := 5) (As := [a1, a2, a3, a4, a5]) K hG.1 hG.2 hR (by omega) rfl rfl hW hf dd) (g_pass C hE (fun E u h => by obtain ⟨h1, rfl, rfl⟩ := h; exact hx h1) hm.1 hm.2) (fun v u h => by obtain ⟨h1, rfl, rfl⟩ := h; exact kk h1)
theorem g_cS5Dn (C : gC p l s m args meth c cs A nL cc own rt) {a1 a2 a3 a4 a5 : Value} {ex : Nat} {x : Int} {y : MethodName} {b : ByteArray} {maxL : Nat} {ret : Option FieldType} {d mc' ms' idx np' : Nat} {ad' : Nat → Nat} {T' : MT} {rest : List Value} (hE : ∀ x ∈ c.exceptionTable.toList, False) (hG : CGV own idx RX0 y b maxL ret 5) (K : KD l cs y (Cond.code y b maxL ret :: GW) d mc' ms' [grf ad x, a1, a2, a3, a4, a5] np ad T ex none (np', ad', T')) (hR : d + 1 ≤ R.frames ∧ 8 + (maxL + 11) + 40 * d ≤ R.locals) (hq : 0 ≤ x ∧ x + 13 < np) (hW : (rest.map fun v => v.category).sum ≤ 8) (hf : k + mc' ≤ R.cells ∧ n + ms' ≤ R.slots) (hm : k + mc' ≤ mc ∧ n + ms' ≤ ms) (hx : ex ≠ 0 → PX (xn ex) (np, ad, T)) (dd : decode cc pc = .ok (.invokevirtual idx, 3)) (kk : ex = 0 → GG p l e R s m args below meth c (kQ cs A PR PX below args s mc ms) cs A nL (k + mc') (n + ms') np' ad' T' (pc + 3) lv rest) : GG p l e R s m args below meth c (kQ cs A PR PX below args s mc ms) cs A nL k n np ad T pc lv (a5 :: a4 :: a3 :: a2 :: a1 :: grf ad x :: rest) := by
  rw [grf_ref hq.1] at K ⊢
  exact g_call0 C (g_runV C (ci := 0) (q := (x.toNat + 13)) (Cn := RX0) (TT := TX0) (N := 5) (As := [a1, a2, a3, a4, a5]) K hG.1 hG.2 hR (by omega) rfl rfl hW hf dd) (g_pass C hE (fun E u h => by obtain ⟨h1, rfl, rfl⟩ := h; exact hx h1) hm.1 hm.2) (fun v u h => by obtain ⟨h1, rfl, rfl⟩ := h; exact kk h1)
theorem g_cS6Pv (C : gC p l s m args meth c cs A nL cc own rt) {a1 a2 a3 a4 a5 a6 : Value} {w : Value} {x : Int} {y : MethodName} {b : ByteArray} {maxL : Nat} {ret : Option FieldType} {d mc' ms' idx np' : Nat} {ad' : Nat → Nat} {T' : MT} {rest : List Value} (hG : CGV own idx RX0 y b maxL ret 6) (K : KD l cs y (Cond.code y b maxL ret :: GW) d mc' ms' [grf ad x, a1, a2, a3, a4, a5, a6] np ad T 0 (some w) (np', ad', T')) (hR : d + 1 ≤ R.frames ∧ 8 + (maxL + 11) + 40 * d ≤ R.locals) (hq : 0 ≤ x ∧ x + 13 < np) (hW : (rest.map fun v => v.category).sum ≤ 8) (hf : k + mc' ≤ R.cells ∧ n + ms' ≤ R.slots) (dd : decode cc pc = .ok (.invokevirtual idx, 3)) (kk : GG p l e R s m args below meth c Q cs A nL (k + mc') (n + ms') np' ad' T' (pc + 3) lv (w :: rest)) : GG p l e R s m args below meth c Q cs A nL k n np ad T pc lv (a6 :: a5 :: a4 :: a3 :: a2 :: a1 :: grf ad x :: rest) := by
  rw [grf_ref hq.1] at K ⊢
  exact g_call0 C (g_runV C (ci := 0) (q := (x.toNat + 13)) (Cn := RX0) (TT := TX0) (N := 5) (As := [a1, a2, a3, a4, a5, a6]) K hG.1 hG.2 hR (by omega) rfl rfl hW hf dd) (fun E u h => absurd rfl h.1) (fun v u h => by obtain ⟨-, rfl, rfl⟩ := h; exact kk)
theorem g_cS6Pn (C : gC p l s m args meth c cs A nL cc own rt) {a1 a2 a3 a4 a5 a6 : Value} {x : Int} {y : MethodName} {b : ByteArray} {maxL : Nat} {ret : Option FieldType} {d mc' ms' idx np' : Nat} {ad' : Nat → Nat} {T' : MT} {rest : List Value} (hG : CGV own idx RX0 y b maxL ret 6) (K : KD l cs y (Cond.code y b maxL ret :: GW) d mc' ms' [grf ad x, a1, a2, a3, a4, a5, a6] np ad T 0 none (np', ad', T')) (hR : d + 1 ≤ R.frames ∧ 8 + (maxL + 11) + 40 * d ≤ R.locals) (hq : 0 ≤ x ∧ x + 13 < np) (hW : (rest.map fun v => v.category).sum ≤ 8) (hf : k + mc' ≤ R.cells ∧ n + ms' ≤ R.slots) (dd : decode cc pc = .ok (.invokevirtual idx, 3)) (kk : GG p l e R s m args below meth c Q cs A nL (k + mc') (n + ms') np' ad' T' (pc + 3) lv rest) : GG p l e R s m args below meth c Q cs A nL k n np ad T pc lv (a6 :: a5 :: a4 :: a3 :: a2 :: a1 :: grf ad x :: rest) := by
  rw [grf_ref hq.1] at K ⊢
  exact g_call0 C (g_runV C (ci := 0) (q := (x.toNat + 13)) (Cn := RX0) (TT := TX0) (N := 5) (As := [a1, a2, a3, a4, a5, a6]) K hG.1 hG.2 hR (by omega) rfl rfl hW hf dd) (fun E u h => absurd rfl h.1) (fun v u h => by obtain ⟨-, rfl, rfl⟩ := h; exact kk)
theorem g_cS6Dv (C : gC p l s m args meth c cs A nL cc own rt) {a1 a2 a3 a4 a5 a6 : Value} {w : Value} {ex : Nat} {x : Int} {y : MethodName} {b : ByteArray} {maxL : Nat} {ret : Option FieldType} {d mc' ms' idx np' : Nat} {ad' : Nat → Nat} {T' : MT} {rest : List Value} (hE : ∀ x ∈ c.exceptionTable.toList, False) (hG : CGV own idx RX0 y b maxL ret 6) (K : KD l cs y (Cond.code y b maxL ret :: GW) d mc' ms' [grf ad x, a1, a2, a3, a4, a5, a6] np ad T ex (some w) (np', ad', T')) (hR : d + 1 ≤ R.frames ∧ 8 + (maxL + 11) + 40 * d ≤ R.locals) (hq : 0 ≤ x ∧ x + 13 < np) (hW : (rest.map fun v => v.category).sum ≤ 8) (hf : k + mc' ≤ R.cells ∧ n + ms' ≤ R.slots) (hm : k + mc' ≤ mc ∧ n + ms' ≤ ms) (hx : ex ≠ 0 → PX (xn ex) (np, ad, T)) (dd : decode cc pc = .ok (.invokevirtual idx, 3)) (kk : ex = 0 → GG p l e R s m args below meth c (kQ cs A PR PX below args s mc ms) cs A nL (k + mc') (n + ms') np' ad' T' (pc + 3) lv (w :: rest)) : GG p l e R s m args below meth c (kQ cs A PR PX below args s mc ms) cs A nL k n np ad T pc lv (a6 :: a5 :: a4 :: a3 :: a2 :: a1 :: grf ad x :: rest) := by
  rw [grf_ref hq.1] at K ⊢
  exact g_call0 C (g_runV C (ci := 0) (q := (x.toNat + 13)) (Cn := RX0) (TT := TX0) (N := 5) (As := [a1, a2, a3, a4, a5, a6]) K hG.1 hG.2 hR (by omega) rfl rfl hW hf dd) (g_pass C hE (fun E u h => by obtain ⟨h1, rfl, rfl⟩ := h; exact hx h1) hm.1 hm.2) (fun v u h => by obtain ⟨h1, rfl, rfl⟩ := h; exact kk h1)
theorem g_cS6Dn (C : gC p l s m args meth c cs A nL cc own rt) {a1 a2 a3 a4 a5 a6 : Value} {ex : Nat} {x : Int} {y : MethodName} {b : ByteArray} {maxL : Nat} {ret : Option FieldType} {d mc' ms' idx np' : Nat} {ad' : Nat → Nat} {T' : MT} {rest : List Value} (hE : ∀ x ∈ c.exceptionTable.toList, False) (hG : CGV own idx RX0 y b maxL ret 6) (K : KD l cs y (Cond.code y b maxL ret :: GW) d mc' ms' [grf ad x, a1, a2, a3, a4, a5, a6] np ad T ex none (np', ad', T')) (hR : d + 1 ≤ R.frames ∧ 8 + (maxL + 11) + 40 * d ≤ R.locals) (hq : 0 ≤ x ∧ x + 13 < np) (hW : (rest.map fun v => v.category).sum ≤ 8) (hf : k + mc' ≤ R.cells ∧ n + ms' ≤ R.slots) (hm : k + mc' ≤ mc ∧ n + ms' ≤ ms) (hx : ex ≠ 0 → PX (xn ex) (np, ad, T)) (dd : decode cc pc = .ok (.invokevirtual idx, 3)) (kk : ex = 0 → GG p l e R s m args below meth c (kQ cs A PR PX below args s mc ms) cs A nL (k + mc') (n + ms') np' ad' T' (pc + 3) lv rest) : GG p l e R s m args below meth c (kQ cs A PR PX below args s mc ms) cs A nL k n np ad T pc lv (a6 :: a5 :: a4 :: a3 :: a2 :: a1 :: grf ad x :: rest) := by
  rw [grf_ref hq.1] at K ⊢
  exact g_call0 C (g_runV C (ci := 0) (q := (x.toNat + 13)) (Cn := RX0) (TT := TX0) (N := 5) (As := [a1, a2, a3, a4, a5, a6]) K hG.1 hG.2 hR (by omega) rfl rfl hW hf dd) (g_pass C hE (fun E u h => by obtain ⟨h1, rfl, rfl⟩ := h; exact hx h1) hm.1 hm.2) (fun v u h => by obtain ⟨h1, rfl, rfl⟩ := h; exact kk h1)
theorem g_cT0Pv (C : gC p l s m args meth c cs A nL cc own rt) {w : Value} {y : MethodName} {b : ByteArray} {maxL : Nat} {ret : Option FieldType} {d mc' ms' idx np' : Nat} {ad' : Nat → Nat} {T' : MT} {rest : List Value} (hG : CGS own idx y b maxL ret 0) (K : KD l cs y (Cond.code y b maxL ret :: GW) d mc' ms' [] np ad T 0 (some w) (np', ad', T')) (hR : d + 1 ≤ R.frames ∧ 8 + (maxL + 11) + 40 * d ≤ R.locals) (hW : (rest.map fun v => v.category).sum ≤ 8) (hf : k + mc' ≤ R.cells ∧ n + ms' ≤ R.slots) (dd : decode cc pc = .ok (.invokestatic idx, 3)) (kk : GG p l e R s m args below meth c Q cs A nL (k + mc') (n + ms') np' ad' T' (pc + 3) lv (w :: rest)) : GG p l e R s m args below meth c Q cs A nL k n np ad T pc lv (rest) := by
  exact g_call0 C (g_runS C (As := []) K hG.1 hG.2 hR hW hf dd) (fun E u h => absurd rfl h.1) (fun v u h => by obtain ⟨-, rfl, rfl⟩ := h; exact kk)
theorem g_cT0Pn (C : gC p l s m args meth c cs A nL cc own rt) {y : MethodName} {b : ByteArray} {maxL : Nat} {ret : Option FieldType} {d mc' ms' idx np' : Nat} {ad' : Nat → Nat} {T' : MT} {rest : List Value} (hG : CGS own idx y b maxL ret 0) (K : KD l cs y (Cond.code y b maxL ret :: GW) d mc' ms' [] np ad T 0 none (np', ad', T')) (hR : d + 1 ≤ R.frames ∧ 8 + (maxL + 11) + 40 * d ≤ R.locals) (hW : (rest.map fun v => v.category).sum ≤ 8) (hf : k + mc' ≤ R.cells ∧ n + ms' ≤ R.slots) (dd : decode cc pc = .ok (.invokestatic idx, 3)) (kk : GG p l e R s m args below meth c Q cs A nL (k + mc') (n + ms') np' ad' T' (pc + 3) lv rest) : GG p l e R s m args below meth c Q cs A nL k n np ad T pc lv (rest) := by
  exact g_call0 C (g_runS C (As := []) K hG.1 hG.2 hR hW hf dd) (fun E u h => absurd rfl h.1) (fun v u h => by obtain ⟨-, rfl, rfl⟩ := h; exact kk)
theorem g_cT0Dv (C : gC p l s m args meth c cs A nL cc own rt) {w : Value} {ex : Nat} {y : MethodName} {b : ByteArray} {maxL : Nat} {ret : Option FieldType} {d mc' ms' idx np' : Nat} {ad' : Nat → Nat} {T' : MT} {rest : List Value} (hE : ∀ x ∈ c.exceptionTable.toList, False) (hG : CGS own idx y b maxL ret 0) (K : KD l cs y (Cond.code y b maxL ret :: GW) d mc' ms' [] np ad T ex (some w) (np', ad', T')) (hR : d + 1 ≤ R.frames ∧ 8 + (maxL + 11) + 40 * d ≤ R.locals) (hW : (rest.map fun v => v.category).sum ≤ 8) (hf : k + mc' ≤ R.cells ∧ n + ms' ≤ R.slots) (hm : k + mc' ≤ mc ∧ n + ms' ≤ ms) (hx : ex ≠ 0 → PX (xn ex) (np, ad, T)) (dd : decode cc pc = .ok (.invokestatic idx, 3)) (kk : ex = 0 → GG p l e R s m args below meth c (kQ cs A PR PX below args s mc ms) cs A nL (k + mc') (n + ms') np' ad' T' (pc + 3) lv (w :: rest)) : GG p l e R s m args below meth c (kQ cs A PR PX below args s mc ms) cs A nL k n np ad T pc lv (rest) := by
  exact g_call0 C (g_runS C (As := []) K hG.1 hG.2 hR hW hf dd) (g_pass C hE (fun E u h => by obtain ⟨h1, rfl, rfl⟩ := h; exact hx h1) hm.1 hm.2) (fun v u h => by obtain ⟨h1, rfl, rfl⟩ := h; exact kk h1)
theorem g_cT0Dn (C : gC p l s m args meth c cs A nL cc own rt) {ex : Nat} {y : MethodName} {b : ByteArray} {maxL : Nat} {ret : Option FieldType} {d mc' ms' idx np' : Nat} {ad' : Nat → Nat} {T' : MT} {rest : List Value} (hE : ∀ x ∈ c.exceptionTable.toList, False) (hG : CGS own idx y b maxL ret 0) (K : KD l cs y (Cond.code y b maxL ret :: GW) d mc' ms' [] np ad T ex none (np', ad', T')) (hR : d + 1 ≤ R.frames ∧ 8 + (maxL + 11) + 40 * d ≤ R.locals) (hW : (rest.map fun v => v.category).sum ≤ 8) (hf : k + mc' ≤ R.cells ∧ n + ms' ≤ R.slots) (hm : k + mc' ≤ mc ∧ n + ms' ≤ ms) (hx : ex ≠ 0 → PX (xn ex) (np, ad, T)) (dd : decode cc pc = .ok (.invokestatic idx, 3)) (kk : ex = 0 → GG p l e R s m args below meth c (kQ cs A PR PX below args s mc ms) cs A nL (k + mc') (n + ms') np' ad' T' (pc + 3) lv rest) : GG p l e R s m args below meth c (kQ cs A PR PX below args s mc ms) cs A nL k n np ad T pc lv (rest) := by
  exact g_call0 C (g_runS C (As := []) K hG.1 hG.2 hR hW hf dd) (g_pass C hE (fun E u h => by obtain ⟨h1, rfl, rfl⟩ := h; exact hx h1) hm.1 hm.2) (fun v u h => by obtain ⟨h1, rfl, rfl⟩ := h; exact kk h1)
theorem g_cT1Pv (C : gC p l s m args meth c cs A nL cc own rt) {a1 : Value} {w : Value} {y : MethodName} {b : ByteArray} {maxL : Nat} {ret : Option FieldType} {d mc' ms' idx np' : Nat} {ad' : Nat → Nat} {T' : MT} {rest : List Value} (hG : CGS own idx y b maxL ret 1) (K : KD l cs y (Cond.code y b maxL ret :: GW) d mc' ms' [a1] np ad T 0 (some w) (np', ad', T')) (hR : d + 1 ≤ R.frames ∧ 8 + (maxL + 11) + 40 * d ≤ R.locals) (hW : (rest.map fun v => v.category).sum ≤ 8) (hf : k + mc' ≤ R.cells ∧ n + ms' ≤ R.slots) (dd : decode cc pc = .ok (.invokestatic idx, 3)) (kk : GG p l e R s m args below meth c Q cs A nL (k + mc') (n + ms') np' ad' T' (pc + 3) lv (w :: rest)) : GG p l e R s m args below meth c Q cs A nL k n np ad T pc lv (a1 :: rest) := by
  exact g_call0 C (g_runS C (As := [a1]) K hG.1 hG.2 hR hW hf dd) (fun E u h => absurd rfl h.1) (fun v u h => by obtain ⟨-, rfl, rfl⟩ := h; exact kk)
theorem g_cT1Pn (C : gC p l s m args meth c cs A nL cc own rt) {a1 : Value} {y : MethodName} {b : ByteArray} {maxL : Nat} {ret : Option FieldType} {d mc' ms' idx np' : Nat} {ad' : Nat → Nat} {T' : MT} {rest : List Value} (hG : CGS own idx y b maxL ret 1) (K : KD l cs y (Cond.code y b maxL ret :: GW) d mc' ms' [a1] np ad T 0 none (np', ad', T')) (hR : d + 1 ≤ R.frames ∧ 8 + (maxL + 11) + 40 * d ≤ R.locals) (hW : (rest.map fun v => v.category).sum ≤ 8) (hf : k + mc' ≤ R.cells ∧ n + ms' ≤ R.slots) (dd : decode cc pc = .ok (.invokestatic idx, 3)) (kk : GG p l e R s m args below meth c Q cs A nL (k + mc') (n + ms') np' ad' T' (pc + 3) lv rest) : GG p l e R s m args below meth c Q cs A nL k n np ad T pc lv (a1 :: rest) := by
  exact g_call0 C (g_runS C (As := [a1]) K hG.1 hG.2 hR hW hf dd) (fun E u h => absurd rfl h.1) (fun v u h => by obtain ⟨-, rfl, rfl⟩ := h; exact kk)
theorem g_cT1Dv (C : gC p l s m args meth c cs A nL cc own rt) {a1 : Value} {w : Value} {ex : Nat} {y : MethodName} {b : ByteArray} {maxL : Nat} {ret : Option FieldType} {d mc' ms' idx np' : Nat} {ad' : Nat → Nat} {T' : MT} {rest : List Value} (hE : ∀ x ∈ c.exceptionTable.toList, False) (hG : CGS own idx y b maxL ret 1) (K : KD l cs y (Cond.code y b maxL ret :: GW) d mc' ms' [a1] np ad T ex (some w) (np', ad', T')) (hR : d + 1 ≤ R.frames ∧ 8 + (maxL + 11) + 40 * d ≤ R.locals) (hW : (rest.map fun v => v.category).sum ≤ 8) (hf : k + mc' ≤ R.cells ∧ n + ms' ≤ R.slots) (hm : k + mc' ≤ mc ∧ n + ms' ≤ ms) (hx : ex ≠ 0 → PX (xn ex) (np, ad, T)) (dd : decode cc pc = .ok (.invokestatic idx, 3)) (kk : ex = 0 → GG p l e R s m args below meth c (kQ cs A PR PX below args s mc ms) cs A nL (k + mc') (n + ms') np' ad' T' (pc + 3) lv (w :: rest)) : GG p l e R s m args below meth c (kQ cs A PR PX below args s mc ms) cs A nL k n np ad T pc lv (a1 :: rest) := by
  exact g_call0 C (g_runS C (As := [a1]) K hG.1 hG.2 hR hW hf dd) (g_pass C hE (fun E u h => by obtain ⟨h1, rfl, rfl⟩ := h; exact hx h1) hm.1 hm.2) (fun v u h => by obtain ⟨h1, rfl, rfl⟩ := h; exact kk h1)
theorem g_cT1Dn (C : gC p l s m args meth c cs A nL cc own rt) {a1 : Value} {ex : Nat} {y : MethodName} {b : ByteArray} {maxL : Nat} {ret : Option FieldType} {d mc' ms' idx np' : Nat} {ad' : Nat → Nat} {T' : MT} {rest : List Value} (hE : ∀ x ∈ c.exceptionTable.toList, False) (hG : CGS own idx y b maxL ret 1) (K : KD l cs y (Cond.code y b maxL ret :: GW) d mc' ms' [a1] np ad T ex none (np', ad', T')) (hR : d + 1 ≤ R.frames ∧ 8 + (maxL + 11) + 40 * d ≤ R.locals) (hW : (rest.map fun v => v.category).sum ≤ 8) (hf : k + mc' ≤ R.cells ∧ n + ms' ≤ R.slots) (hm : k + mc' ≤ mc ∧ n + ms' ≤ ms) (hx : ex ≠ 0 → PX (xn ex) (np, ad, T)) (dd : decode cc pc = .ok (.invokestatic idx, 3)) (kk : ex = 0 → GG p l e R s m args below meth c (kQ cs A PR PX below args s mc ms) cs A nL (k + mc') (n + ms') np' ad' T' (pc + 3) lv rest) : GG p l e R s m args below meth c (kQ cs A PR PX below args s mc ms) cs A nL k n np ad T pc lv (a1 :: rest) := by
  exact g_call0 C (g_runS C (As := [a1]) K hG.1 hG.2 hR hW hf dd) (g_pass C hE (fun E u h => by obtain ⟨h1, rfl, rfl⟩ := h; exact hx h1) hm.1 hm.2) (fun v u h => by obtain ⟨h1, rfl, rfl⟩ := h; exact kk h1)
theorem g_cT2Pv (C : gC p l s m args meth c cs A nL cc own rt) {a1 a2 : Value} {w : Value} {y : MethodName} {b : ByteArray} {maxL : Nat} {ret : Option FieldType} {d mc' ms' idx np' : Nat} {ad' : Nat → Nat} {T' : MT} {rest : List Value} (hG : CGS own idx y b maxL ret 2) (K : KD l cs y (Cond.code y b maxL ret :: GW) d mc' ms' [a1, a2] np ad T 0 (some w) (np', ad', T')) (hR : d + 1 ≤ R.frames ∧ 8 + (maxL + 11) + 40 * d ≤ R.locals) (hW : (rest.map fun v => v.category).sum ≤ 8) (hf : k + mc' ≤ R.cells ∧ n + ms' ≤ R.slots) (dd : decode cc pc = .ok (.invokestatic idx, 3)) (kk : GG p l e R s m args below meth c Q cs A nL (k + mc') (n + ms') np' ad' T' (pc + 3) lv (w :: rest)) : GG p l e R s m args below meth c Q cs A nL k n np ad T pc lv (a2 :: a1 :: rest) := by
  exact g_call0 C (g_runS C (As := [a1, a2]) K hG.1 hG.2 hR hW hf dd) (fun E u h => absurd rfl h.1) (fun v u h => by obtain ⟨-, rfl, rfl⟩ := h; exact kk)
theorem g_cT2Pn (C : gC p l s m args meth c cs A nL cc own rt) {a1 a2 : Value} {y : MethodName} {b : ByteArray} {maxL : Nat} {ret : Option FieldType} {d mc' ms' idx np' : Nat} {ad' : Nat → Nat} {T' : MT} {rest : List Value} (hG : CGS own idx y b maxL ret 2) (K : KD l cs y (Cond.code y b maxL ret :: GW) d mc' ms' [a1, a2] np ad T 0 none (np', ad', T')) (hR : d + 1 ≤ R.frames ∧ 8 + (maxL + 11) + 40 * d ≤ R.locals) (hW : (rest.map fun v => v.category).sum ≤ 8) (hf : k + mc' ≤ R.cells ∧ n + ms' ≤ R.slots) (dd : decode cc pc = .ok (.invokestatic idx, 3)) (kk : GG p l e R s m args below meth c Q cs A nL (k + mc') (n + ms') np' ad' T' (pc + 3) lv rest) : GG p l e R s m args below meth c Q cs A nL k n np ad T pc lv (a2 :: a1 :: rest) := by
  exact g_call0 C (g_runS C (As := [a1, a2]) K hG.1 hG.2 hR hW hf dd) (fun E u h => absurd rfl h.1) (fun v u h => by obtain ⟨-, rfl, rfl⟩ := h; exact kk)
theorem g_cT2Dv (C : gC p l s m args meth c cs A nL cc own rt) {a1 a2 : Value} {w : Value} {ex : Nat} {y : MethodName} {b : ByteArray} {maxL : Nat} {ret : Option FieldType} {d mc' ms' idx np' : Nat} {ad' : Nat → Nat} {T' : MT} {rest : List Value} (hE : ∀ x ∈ c.exceptionTable.toList, False) (hG : CGS own idx y b maxL ret 2) (K : KD l cs y (Cond.code y b maxL ret :: GW) d mc' ms' [a1, a2] np ad T ex (some w) (np', ad', T')) (hR : d + 1 ≤ R.frames ∧ 8 + (maxL + 11) + 40 * d ≤ R.locals) (hW : (rest.map fun v => v.category).sum ≤ 8) (hf : k + mc' ≤ R.cells ∧ n + ms' ≤ R.slots) (hm : k + mc' ≤ mc ∧ n + ms' ≤ ms) (hx : ex ≠ 0 → PX (xn ex) (np, ad, T)) (dd : decode cc pc = .ok (.invokestatic idx, 3)) (kk : ex = 0 → GG p l e R s m args below meth c (kQ cs A PR PX below args s mc ms) cs A nL (k + mc') (n + ms') np' ad' T' (pc + 3) lv (w :: rest)) : GG p l e R s m args below meth c (kQ cs A PR PX below args s mc ms) cs A nL k n np ad T pc lv (a2 :: a1 :: rest) := by
  exact g_call0 C (g_runS C (As := [a1, a2]) K hG.1 hG.2 hR hW hf dd) (g_pass C hE (fun E u h => by obtain ⟨h1, rfl, rfl⟩ := h; exact hx h1) hm.1 hm.2) (fun v u h => by obtain ⟨h1, rfl, rfl⟩ := h; exact kk h1)
theorem g_cT2Dn (C : gC p l s m args meth c cs A nL cc own rt) {a1 a2 : Value} {ex : Nat} {y : MethodName} {b : ByteArray} {maxL : Nat} {ret : Option FieldType} {d mc' ms' idx np' : Nat} {ad' : Nat → Nat} {T' : MT} {rest : List Value} (hE : ∀ x ∈ c.exceptionTable.toList, False) (hG : CGS own idx y b maxL ret 2) (K : KD l cs y (Cond.code y b maxL ret :: GW) d mc' ms' [a1, a2] np ad T ex none (np', ad', T')) (hR : d + 1 ≤ R.frames ∧ 8 + (maxL + 11) + 40 * d ≤ R.locals) (hW : (rest.map fun v => v.category).sum ≤ 8) (hf : k + mc' ≤ R.cells ∧ n + ms' ≤ R.slots) (hm : k + mc' ≤ mc ∧ n + ms' ≤ ms) (hx : ex ≠ 0 → PX (xn ex) (np, ad, T)) (dd : decode cc pc = .ok (.invokestatic idx, 3)) (kk : ex = 0 → GG p l e R s m args below meth c (kQ cs A PR PX below args s mc ms) cs A nL (k + mc') (n + ms') np' ad' T' (pc + 3) lv rest) : GG p l e R s m args below meth c (kQ cs A PR PX below args s mc ms) cs A nL k n np ad T pc lv (a2 :: a1 :: rest) := by
  exact g_call0 C (g_runS C (As := [a1, a2]) K hG.1 hG.2 hR hW hf dd) (g_pass C hE (fun E u h => by obtain ⟨h1, rfl, rfl⟩ := h; exact hx h1) hm.1 hm.2) (fun v u h => by obtain ⟨h1, rfl, rfl⟩ := h; exact kk h1)
theorem g_cT3Pv (C : gC p l s m args meth c cs A nL cc own rt) {a1 a2 a3 : Value} {w : Value} {y : MethodName} {b : ByteArray} {maxL : Nat} {ret : Option FieldType} {d mc' ms' idx np' : Nat} {ad' : Nat → Nat} {T' : MT} {rest : List Value} (hG : CGS own idx y b maxL ret 3) (K : KD l cs y (Cond.code y b maxL ret :: GW) d mc' ms' [a1, a2, a3] np ad T 0 (some w) (np', ad', T')) (hR : d + 1 ≤ R.frames ∧ 8 + (maxL + 11) + 40 * d ≤ R.locals) (hW : (rest.map fun v => v.category).sum ≤ 8) (hf : k + mc' ≤ R.cells ∧ n + ms' ≤ R.slots) (dd : decode cc pc = .ok (.invokestatic idx, 3)) (kk : GG p l e R s m args below meth c Q cs A nL (k + mc') (n + ms') np' ad' T' (pc + 3) lv (w :: rest)) : GG p l e R s m args below meth c Q cs A nL k n np ad T pc lv (a3 :: a2 :: a1 :: rest) := by
  exact g_call0 C (g_runS C (As := [a1, a2, a3]) K hG.1 hG.2 hR hW hf dd) (fun E u h => absurd rfl h.1) (fun v u h => by obtain ⟨-, rfl, rfl⟩ := h; exact kk)
theorem g_cT3Pn (C : gC p l s m args meth c cs A nL cc own rt) {a1 a2 a3 : Value} {y : MethodName} {b : ByteArray} {maxL : Nat} {ret : Option FieldType} {d mc' ms' idx np' : Nat} {ad' : Nat → Nat} {T' : MT} {rest : List Value} (hG : CGS own idx y b maxL ret 3) (K : KD l cs y (Cond.code y b maxL ret :: GW) d mc' ms' [a1, a2, a3] np ad T 0 none (np', ad', T')) (hR : d + 1 ≤ R.frames ∧ 8 + (maxL + 11) + 40 * d ≤ R.locals) (hW : (rest.map fun v => v.category).sum ≤ 8) (hf : k + mc' ≤ R.cells ∧ n + ms' ≤ R.slots) (dd : decode cc pc = .ok (.invokestatic idx, 3)) (kk : GG p l e R s m args below meth c Q cs A nL (k + mc') (n + ms') np' ad' T' (pc + 3) lv rest) : GG p l e R s m args below meth c Q cs A nL k n np ad T pc lv (a3 :: a2 :: a1 :: rest) := by
  exact g_call0 C (g_runS C (As := [a1, a2, a3]) K hG.1 hG.2 hR hW hf dd) (fun E u h => absurd rfl h.1) (fun v u h => by obtain ⟨-, rfl, rfl⟩ := h; exact kk)
theorem g_cT3Dv (C : gC p l s m args meth c cs A nL cc own rt) {a1 a2 a3 : Value} {w : Value} {ex : Nat} {y : MethodName} {b : ByteArray} {maxL : Nat} {ret : Option FieldType} {d mc' ms' idx np' : Nat} {ad' : Nat → Nat} {T' : MT} {rest : List Value} (hE : ∀ x ∈ c.exceptionTable.toList, False) (hG : CGS own idx y b maxL ret 3) (K : KD l cs y (Cond.code y b maxL ret :: GW) d mc' ms' [a1, a2, a3] np ad T ex (some w) (np', ad', T')) (hR : d + 1 ≤ R.frames ∧ 8 + (maxL + 11) + 40 * d ≤ R.locals) (hW : (rest.map fun v => v.category).sum ≤ 8) (hf : k + mc' ≤ R.cells ∧ n + ms' ≤ R.slots) (hm : k + mc' ≤ mc ∧ n + ms' ≤ ms) (hx : ex ≠ 0 → PX (xn ex) (np, ad, T)) (dd : decode cc pc = .ok (.invokestatic idx, 3)) (kk : ex = 0 → GG p l e R s m args below meth c (kQ cs A PR PX below args s mc ms) cs A nL (k + mc') (n + ms') np' ad' T' (pc + 3) lv (w :: rest)) : GG p l e R s m args below meth c (kQ cs A PR PX below args s mc ms) cs A nL k n np ad T pc lv (a3 :: a2 :: a1 :: rest) := by
  exact g_call0 C (g_runS C (As := [a1, a2, a3]) K hG.1 hG.2 hR hW hf dd) (g_pass C hE (fun E u h => by obtain ⟨h1, rfl, rfl⟩ := h; exact hx h1) hm.1 hm.2) (fun v u h => by obtain ⟨h1, rfl, rfl⟩ := h; exact kk h1)
theorem g_cT3Dn (C : gC p l s m args meth c cs A nL cc own rt) {a1 a2 a3 : Value} {ex : Nat} {y : MethodName} {b : ByteArray} {maxL : Nat} {ret : Option FieldType} {d mc' ms' idx np' : Nat} {ad' : Nat → Nat} {T' : MT} {rest : List Value} (hE : ∀ x ∈ c.exceptionTable.toList, False) (hG : CGS own idx y b maxL ret 3) (K : KD l cs y (Cond.code y b maxL ret :: GW) d mc' ms' [a1, a2, a3] np ad T ex none (np', ad', T')) (hR : d + 1 ≤ R.frames ∧ 8 + (maxL + 11) + 40 * d ≤ R.locals) (hW : (rest.map fun v => v.category).sum ≤ 8) (hf : k + mc' ≤ R.cells ∧ n + ms' ≤ R.slots) (hm : k + mc' ≤ mc ∧ n + ms' ≤ ms) (hx : ex ≠ 0 → PX (xn ex) (np, ad, T)) (dd : decode cc pc = .ok (.invokestatic idx, 3)) (kk : ex = 0 → GG p l e R s m args below meth c (kQ cs A PR PX below args s mc ms) cs A nL (k + mc') (n + ms') np' ad' T' (pc + 3) lv rest) : GG p l e R s m args below meth c (kQ cs A PR PX below args s mc ms) cs A nL k n np ad T pc lv (a3 :: a2 :: a1 :: rest) := by
  exact g_call0 C (g_runS C (As := [a1, a2, a3]) K hG.1 hG.2 hR hW hf dd) (g_pass C hE (fun E u h => by obtain ⟨h1, rfl, rfl⟩ := h; exact hx h1) hm.1 hm.2) (fun v u h => by obtain ⟨h1, rfl, rfl⟩ := h; exact kk h1)
theorem g_cT4Pv (C : gC p l s m args meth c cs A nL cc own rt) {a1 a2 a3 a4 : Value} {w : Value} {y : MethodName} {b : ByteArray} {maxL : Nat} {ret : Option FieldType} {d mc' ms' idx np' : Nat} {ad' : Nat → Nat} {T' : MT} {rest : List Value} (hG : CGS own idx y b maxL ret 4) (K : KD l cs y (Cond.code y b maxL ret :: GW) d mc' ms' [a1, a2, a3, a4] np ad T 0 (some w) (np', ad', T')) (hR : d + 1 ≤ R.frames ∧ 8 + (maxL + 11) + 40 * d ≤ R.locals) (hW : (rest.map fun v => v.category).sum ≤ 8) (hf : k + mc' ≤ R.cells ∧ n + ms' ≤ R.slots) (dd : decode cc pc = .ok (.invokestatic idx, 3)) (kk : GG p l e R s m args below meth c Q cs A nL (k + mc') (n + ms') np' ad' T' (pc + 3) lv (w :: rest)) : GG p l e R s m args below meth c Q cs A nL k n np ad T pc lv (a4 :: a3 :: a2 :: a1 :: rest) := by
  exact g_call0 C (g_runS C (As := [a1, a2, a3, a4]) K hG.1 hG.2 hR hW hf dd) (fun E u h => absurd rfl h.1) (fun v u h => by obtain ⟨-, rfl, rfl⟩ := h; exact kk)
theorem g_cT4Pn (C : gC p l s m args meth c cs A nL cc own rt) {a1 a2 a3 a4 : Value} {y : MethodName} {b : ByteArray} {maxL : Nat} {ret : Option FieldType} {d mc' ms' idx np' : Nat} {ad' : Nat → Nat} {T' : MT} {rest : List Value} (hG : CGS own idx y b maxL ret 4) (K : KD l cs y (Cond.code y b maxL ret :: GW) d mc' ms' [a1, a2, a3, a4] np ad T 0 none (np', ad', T')) (hR : d + 1 ≤ R.frames ∧ 8 + (maxL + 11) + 40 * d ≤ R.locals) (hW : (rest.map fun v => v.category).sum ≤ 8) (hf : k + mc' ≤ R.cells ∧ n + ms' ≤ R.slots) (dd : decode cc pc = .ok (.invokestatic idx, 3)) (kk : GG p l e R s m args below meth c Q cs A nL (k + mc') (n + ms') np' ad' T' (pc + 3) lv rest) : GG p l e R s m args below meth c Q cs A nL k n np ad T pc lv (a4 :: a3 :: a2 :: a1 :: rest) := by
  exact g_call0 C (g_runS C (As := [a1, a2, a3, a4]) K hG.1 hG.2 hR hW hf dd) (fun E u h => absurd rfl h.1) (fun v u h => by obtain ⟨-, rfl, rfl⟩ := h; exact kk)
theorem g_cT4Dv (C : gC p l s m args meth c cs A nL cc own rt) {a1 a2 a3 a4 : Value} {w : Value} {ex : Nat} {y : MethodName} {b : ByteArray} {maxL : Nat} {ret : Option FieldType} {d mc' ms' idx np' : Nat} {ad' : Nat → Nat} {T' : MT} {rest : List Value} (hE : ∀ x ∈ c.exceptionTable.toList, False) (hG : CGS own idx y b maxL ret 4) (K : KD l cs y (Cond.code y b maxL ret :: GW) d mc' ms' [a1, a2, a3, a4] np ad T ex (some w) (np', ad', T')) (hR : d + 1 ≤ R.frames ∧ 8 + (maxL + 11) + 40 * d ≤ R.locals) (hW : (rest.map fun v => v.category).sum ≤ 8) (hf : k + mc' ≤ R.cells ∧ n + ms' ≤ R.slots) (hm : k + mc' ≤ mc ∧ n + ms' ≤ ms) (hx : ex ≠ 0 → PX (xn ex) (np, ad, T)) (dd : decode cc pc = .ok (.invokestatic idx, 3)) (kk : ex = 0 → GG p l e R s m args below meth c (kQ cs A PR PX below args s mc ms) cs A nL (k + mc') (n + ms') np' ad' T' (pc + 3) lv (w :: rest)) : GG p l e R s m args below meth c (kQ cs A PR PX below args s mc ms) cs A nL k n np ad T pc lv (a4 :: a3 :: a2 :: a1 :: rest) := by
  exact g_call0 C (g_runS C (As := [a1, a2, a3, a4]) K hG.1 hG.2 hR hW hf dd) (g_pass C hE (fun E u h => by obtain ⟨h1, rfl, rfl⟩ := h; exact hx h1) hm.1 hm.2) (fun v u h => by obtain ⟨h1, rfl, rfl⟩ := h; exact kk h1)
theorem g_cT4Dn (C : gC p l s m args meth c cs A nL cc own rt) {a1 a2 a3 a4 : Value} {ex : Nat} {y : MethodName} {b : ByteArray} {maxL : Nat} {ret : Option FieldType} {d mc' ms' idx np' : Nat} {ad' : Nat → Nat} {T' : MT} {rest : List Value} (hE : ∀ x ∈ c.exceptionTable.toList, False) (hG : CGS own idx y b maxL ret 4) (K : KD l cs y (Cond.code y b maxL ret :: GW) d mc' ms' [a1, a2, a3, a4] np ad T ex none (np', ad', T')) (hR : d + 1 ≤ R.frames ∧ 8 + (maxL + 11) + 40 * d ≤ R.locals) (hW : (rest.map fun v => v.category).sum ≤ 8) (hf : k + mc' ≤ R.cells ∧ n + ms' ≤ R.slots) (hm : k + mc' ≤ mc ∧ n + ms' ≤ ms) (hx : ex ≠ 0 → PX (xn ex) (np, ad, T)) (dd : decode cc pc = .ok (.invokestatic idx, 3)) (kk : ex = 0 → GG p l e R s m args below meth c (kQ cs A PR PX below args s mc ms) cs A nL (k + mc') (n + ms') np' ad' T' (pc + 3) lv rest) : GG p l e R s m args below meth c (kQ cs A PR PX below args s mc ms) cs A nL k n np ad T pc lv (a4 :: a3 :: a2 :: a1 :: rest) := by
  exact g_call0 C (g_runS C (As := [a1, a2, a3, a4]) K hG.1 hG.2 hR hW hf dd) (g_pass C hE (fun E u h => by obtain ⟨h1, rfl, rfl⟩ := h; exact hx h1) hm.1 hm.2) (fun v u h => by obtain ⟨h1, rfl, rfl⟩ := h; exact kk h1)
theorem g_cT5Pv (C : gC p l s m args meth c cs A nL cc own rt) {a1 a2 a3 a4 a5 : Value} {w : Value} {y : MethodName} {b : ByteArray} {maxL : Nat} {ret : Option FieldType} {d mc' ms' idx np' : Nat} {ad' : Nat → Nat} {T' : MT} {rest : List Value} (hG : CGS own idx y b maxL ret 5) (K : KD l cs y (Cond.code y b maxL ret :: GW) d mc' ms' [a1, a2, a3, a4, a5] np ad T 0 (some w) (np', ad', T')) (hR : d + 1 ≤ R.frames ∧ 8 + (maxL + 11) + 40 * d ≤ R.locals) (hW : (rest.map fun v => v.category).sum ≤ 8) (hf : k + mc' ≤ R.cells ∧ n + ms' ≤ R.slots) (dd : decode cc pc = .ok (.invokestatic idx, 3)) (kk : GG p l e R s m args below meth c Q cs A nL (k + mc') (n + ms') np' ad' T' (pc + 3) lv (w :: rest)) : GG p l e R s m args below meth c Q cs A nL k n np ad T pc lv (a5 :: a4 :: a3 :: a2 :: a1 :: rest) := by
  exact g_call0 C (g_runS C (As := [a1, a2, a3, a4, a5]) K hG.1 hG.2 hR hW hf dd) (fun E u h => absurd rfl h.1) (fun v u h => by obtain ⟨-, rfl, rfl⟩ := h; exact kk)
theorem g_cT5Pn (C : gC p l s m args meth c cs A nL cc own rt) {a1 a2 a3 a4 a5 : Value} {y : MethodName} {b : ByteArray} {maxL : Nat} {ret : Option FieldType} {d mc' ms' idx np' : Nat} {ad' : Nat → Nat} {T' : MT} {rest : List Value} (hG : CGS own idx y b maxL ret 5) (K : KD l cs y (Cond.code y b maxL ret :: GW) d mc' ms' [a1, a2, a3, a4, a5] np ad T 0 none (np', ad', T')) (hR : d + 1 ≤ R.frames ∧ 8 + (maxL + 11) + 40 * d ≤ R.locals) (hW : (rest.map fun v => v.category).sum ≤ 8) (hf : k + mc' ≤ R.cells ∧ n + ms' ≤ R.slots) (dd : decode cc pc = .ok (.invokestatic idx, 3)) (kk : GG p l e R s m args below meth c Q cs A nL (k + mc') (n + ms') np' ad' T' (pc + 3) lv rest) : GG p l e R s m args below meth c Q cs A nL k n np ad T pc lv (a5 :: a4 :: a3 :: a2 :: a1 :: rest) := by
  exact g_call0 C (g_runS C (As := [a1, a2, a3, a4, a5]) K hG.1 hG.2 hR hW hf dd) (fun E u h => absurd rfl h.1) (fun v u h => by obtain ⟨-, rfl, rfl⟩ := h; exact kk)
theorem g_cT5Dv (C : gC p l s m args meth c cs A nL cc own rt) {a1 a2 a3 a4 a5 : Value} {w : Value} {ex : Nat} {y : MethodName} {b : ByteArray} {maxL : Nat} {ret : Option FieldType} {d mc' ms' idx np' : Nat} {ad' : Nat → Nat} {T' : MT} {rest : List Value} (hE : ∀ x ∈ c.exceptionTable.toList, False) (hG : CGS own idx y b maxL ret 5) (K : KD l cs y (Cond.code y b maxL ret :: GW) d mc' ms' [a1, a2, a3, a4, a5] np ad T ex (some w) (np', ad', T')) (hR : d + 1 ≤ R.frames ∧ 8 + (maxL + 11) + 40 * d ≤ R.locals) (hW : (rest.map fun v => v.category).sum ≤ 8) (hf : k + mc' ≤ R.cells ∧ n + ms' ≤ R.slots) (hm : k + mc' ≤ mc ∧ n + ms' ≤ ms) (hx : ex ≠ 0 → PX (xn ex) (np, ad, T)) (dd : decode cc pc = .ok (.invokestatic idx, 3)) (kk : ex = 0 → GG p l e R s m args below meth c (kQ cs A PR PX below args s mc ms) cs A nL (k + mc') (n + ms') np' ad' T' (pc + 3) lv (w :: rest)) : GG p l e R s m args below meth c (kQ cs A PR PX below args s mc ms) cs A nL k n np ad T pc lv (a5 :: a4 :: a3 :: a2 :: a1 :: rest) := by
  exact g_call0 C (g_runS C (As := [a1, a2, a3, a4, a5]) K hG.1 hG.2 hR hW hf dd) (g_pass C hE (fun E u h => by obtain ⟨h1, rfl, rfl⟩ := h; exact hx h1) hm.1 hm.2) (fun v u h => by obtain ⟨h1, rfl, rfl⟩ := h; exact kk h1)
theorem g_cT5Dn (C : gC p l s m args meth c cs A nL cc own rt) {a1 a2 a3 a4 a5 : Value} {ex : Nat} {y : MethodName} {b : ByteArray} {maxL : Nat} {ret : Option FieldType} {d mc' ms' idx np' : Nat} {ad' : Nat → Nat} {T' : MT} {rest : List Value} (hE : ∀ x ∈ c.exceptionTable.toList, False) (hG : CGS own idx y b maxL ret 5) (K : KD l cs y (Cond.code y b maxL ret :: GW) d mc' ms' [a1, a2, a3, a4, a5] np ad T ex none (np', ad', T')) (hR : d + 1 ≤ R.frames ∧ 8 + (maxL + 11) + 40 * d ≤ R.locals) (hW : (rest.map fun v => v.category).sum ≤ 8) (hf : k + mc' ≤ R.cells ∧ n + ms' ≤ R.slots) (hm : k + mc' ≤ mc ∧ n + ms' ≤ ms) (hx : ex ≠ 0 → PX (xn ex) (np, ad, T)) (dd : decode cc pc = .ok (.invokestatic idx, 3)) (kk : ex = 0 → GG p l e R s m args below meth c (kQ cs A PR PX below args s mc ms) cs A nL (k + mc') (n + ms') np' ad' T' (pc + 3) lv rest) : GG p l e R s m args below meth c (kQ cs A PR PX below args s mc ms) cs A nL k n np ad T pc lv (a5 :: a4 :: a3 :: a2 :: a1 :: rest) := by
  exact g_call0 C (g_runS C (As := [a1, a2, a3, a4, a5]) K hG.1 hG.2 hR hW hf dd) (g_pass C hE (fun E u h => by obtain ⟨h1, rfl, rfl⟩ := h; exact hx h1) hm.1 hm.2) (fun v u h => by obtain ⟨h1, rfl, rfl⟩ := h; exact kk h1)
theorem g_cT6Pv (C : gC p l s m args meth c cs A nL cc own rt) {a1 a2 a3 a4 a5 a6 : Value} {w : Value} {y : MethodName} {b : ByteArray} {maxL : Nat} {ret : Option FieldType} {d mc' ms' idx np' : Nat} {ad' : Nat → Nat} {T' : MT} {rest : List Value} (hG : CGS own idx y b maxL ret 6) (K : KD l cs y (Cond.code y b maxL ret :: GW) d mc' ms' [a1, a2, a3, a4, a5, a6] np ad T 0 (some w) (np', ad', T')) (hR : d + 1 ≤ R.frames ∧ 8 + (maxL + 11) + 40 * d ≤ R.locals) (hW : (rest.map fun v => v.category).sum ≤ 8) (hf : k + mc' ≤ R.cells ∧ n + ms' ≤ R.slots) (dd : decode cc pc = .ok (.invokestatic idx, 3)) (kk : GG p l e R s m args below meth c Q cs A nL (k + mc') (n + ms') np' ad' T' (pc + 3) lv (w :: rest)) : GG p l e R s m args below meth c Q cs A nL k n np ad T pc lv (a6 :: a5 :: a4 :: a3 :: a2 :: a1 :: rest) := by
  exact g_call0 C (g_runS C (As := [a1, a2, a3, a4, a5, a6]) K hG.1 hG.2 hR hW hf dd) (fun E u h => absurd rfl h.1) (fun v u h => by obtain ⟨-, rfl, rfl⟩ := h; exact kk)
theorem g_cT6Pn (C : gC p l s m args meth c cs A nL cc own rt) {a1 a2 a3 a4 a5 a6 : Value} {y : MethodName} {b : ByteArray} {maxL : Nat} {ret : Option FieldType} {d mc' ms' idx np' : Nat} {ad' : Nat → Nat} {T' : MT} {rest : List Value} (hG : CGS own idx y b maxL ret 6) (K : KD l cs y (Cond.code y b maxL ret :: GW) d mc' ms' [a1, a2, a3, a4, a5, a6] np ad T 0 none (np', ad', T')) (hR : d + 1 ≤ R.frames ∧ 8 + (maxL + 11) + 40 * d ≤ R.locals) (hW : (rest.map fun v => v.category).sum ≤ 8) (hf : k + mc' ≤ R.cells ∧ n + ms' ≤ R.slots) (dd : decode cc pc = .ok (.invokestatic idx, 3)) (kk : GG p l e R s m args below meth c Q cs A nL (k + mc') (n + ms') np' ad' T' (pc + 3) lv rest) : GG p l e R s m args below meth c Q cs A nL k n np ad T pc lv (a6 :: a5 :: a4 :: a3 :: a2 :: a1 :: rest) := by
  exact g_call0 C (g_runS C (As := [a1, a2, a3, a4, a5, a6]) K hG.1 hG.2 hR hW hf dd) (fun E u h => absurd rfl h.1) (fun v u h => by obtain ⟨-, rfl, rfl⟩ := h; exact kk)
theorem g_cT6Dv (C : gC p l s m args meth c cs A nL cc own rt) {a1 a2 a3 a4 a5 a6 : Value} {w : Value} {ex : Nat} {y : MethodName} {b : ByteArray} {maxL : Nat} {ret : Option FieldType} {d mc' ms' idx np' : Nat} {ad' : Nat → Nat} {T' : MT} {rest : List Value} (hE : ∀ x ∈ c.exceptionTable.toList, False) (hG : CGS own idx y b maxL ret 6) (K : KD l cs y (Cond.code y b maxL ret :: GW) d mc' ms' [a1, a2, a3, a4, a5, a6] np ad T ex (some w) (np', ad', T')) (hR : d + 1 ≤ R.frames ∧ 8 + (maxL + 11) + 40 * d ≤ R.locals) (hW : (rest.map fun v => v.category).sum ≤ 8) (hf : k + mc' ≤ R.cells ∧ n + ms' ≤ R.slots) (hm : k + mc' ≤ mc ∧ n + ms' ≤ ms) (hx : ex ≠ 0 → PX (xn ex) (np, ad, T)) (dd : decode cc pc = .ok (.invokestatic idx, 3)) (kk : ex = 0 → GG p l e R s m args below meth c (kQ cs A PR PX below args s mc ms) cs A nL (k + mc') (n + ms') np' ad' T' (pc + 3) lv (w :: rest)) : GG p l e R s m args below meth c (kQ cs A PR PX below args s mc ms) cs A nL k n np ad T pc lv (a6 :: a5 :: a4 :: a3 :: a2 :: a1 :: rest) := by
  exact g_call0 C (g_runS C (As := [a1, a2, a3, a4, a5, a6]) K hG.1 hG.2 hR hW hf dd) (g_pass C hE (fun E u h => by obtain ⟨h1, rfl, rfl⟩ := h; exact hx h1) hm.1 hm.2) (fun v u h => by obtain ⟨h1, rfl, rfl⟩ := h; exact kk h1)
theorem g_cT6Dn (C : gC p l s m args meth c cs A nL cc own rt) {a1 a2 a3 a4 a5 a6 : Value} {ex : Nat} {y : MethodName} {b : ByteArray} {maxL : Nat} {ret : Option FieldType} {d mc' ms' idx np' : Nat} {ad' : Nat → Nat} {T' : MT} {rest : List Value} (hE : ∀ x ∈ c.exceptionTable.toList, False) (hG : CGS own idx y b maxL ret 6) (K : KD l cs y (Cond.code y b maxL ret :: GW) d mc' ms' [a1, a2, a3, a4, a5, a6] np ad T ex none (np', ad', T')) (hR : d + 1 ≤ R.frames ∧ 8 + (maxL + 11) + 40 * d ≤ R.locals) (hW : (rest.map fun v => v.category).sum ≤ 8) (hf : k + mc' ≤ R.cells ∧ n + ms' ≤ R.slots) (hm : k + mc' ≤ mc ∧ n + ms' ≤ ms) (hx : ex ≠ 0 → PX (xn ex) (np, ad, T)) (dd : decode cc pc = .ok (.invokestatic idx, 3)) (kk : ex = 0 → GG p l e R s m args below meth c (kQ cs A PR PX below args s mc ms) cs A nL (k + mc') (n + ms') np' ad' T' (pc + 3) lv rest) : GG p l e R s m args below meth c (kQ cs A PR PX below args s mc ms) cs A nL k n np ad T pc lv (a6 :: a5 :: a4 :: a3 :: a2 :: a1 :: rest) := by
  exact g_call0 C (g_runS C (As := [a1, a2, a3, a4, a5, a6]) K hG.1 hG.2 hR hW hf dd) (g_pass C hE (fun E u h => by obtain ⟨h1, rfl, rfl⟩ := h; exact hx h1) hm.1 hm.2) (fun v u h => by obtain ⟨h1, rfl, rfl⟩ := h; exact kk h1)
end
end
section
section
variable {p : Program} {l : Launch} {e : Env} {R : Room} {s : State} {m : MethodId} {args : Array Value} {below : List Frame} {meth : Method} {c : Code} {Q : State → Prop} {cs : CSt} {A : Nat → Prop} {nL : Nat}
variable {cc : ByteArray} {own : String} {rt : Option FieldType} {k n np : Nat} {ad : Nat → Nat} {T : MT} {pc : Nat} {lv : List (Option Value)} {st : List Value}
variable {PR : Option Value → St3 → Prop} {PX : String → St3 → Prop} {mc ms : Nat}
theorem g_get_X0_7 (C : gC p l s m args meth c cs A nL cc RX0 rt) {x : Int} (hq : 0 ≤ x ∧ x + 13 < np) (d : decode cc pc = .ok (.getfield 7, 3)) (kk : GG p l e R s m args below meth c Q cs A nL k n np ad T (pc + 3) lv (.int (zI (T 13 x.toNat)) :: st)) : GG p l e R s m args below meth c Q cs A nL k n np ad T pc lv (grf ad x :: st) := by
  rw [grf_ref (x := x) hq.1]
  exact g_getG C (q := x.toNat + 13) (by omega) rfl rfl in_RX0 (f := 0) (by decide) fl_X0_7 rfl d kk
theorem g_put_X0_7 (C : gC p l s m args meth c cs A nL cc RX0 rt) {z : Int} {x : Int} (hq : 0 ≤ x ∧ x + 13 < np) (hin : meth.name = "<init>") (d : decode cc pc = .ok (.putfield 7, 3)) (kk : GG p l e R s m args below meth c Q cs A nL k n np ad (mst T 13 x.toNat z) (pc + 3) lv st) : GG p l e R s m args below meth c Q cs A nL k n np ad T pc lv (.int (zI z) :: grf ad x :: st) := by
  rw [grf_ref (x := x) hq.1]
  exact g_putFG C (q := x.toNat + 13) (T' := (mst T 13 x.toNat z)) (by omega) rfl rfl in_RX0 tyX0_ok nmX0 (f := 0) (ty := tyX0 0) (by decide) fl_X0_7 rfl hin rfl (tyX0_ok 0 (by decide)) rfl rfl (show 0 < 5 from by decide) (by simp [cel, mst]) (cel_span x.toNat (fun r j h => mst_ne (fun q => h ⟨by omega, q.2⟩))) d kk
theorem g_get_X1_154 (C : gC p l s m args meth c cs A nL cc RX1 rt) {x : Int} (hq : 0 ≤ x ∧ x + 13 < np) (d : decode cc pc = .ok (.getfield 154, 3)) (kk : GG p l e R s m args below meth c Q cs A nL k n np ad T (pc + 3) lv (.int (zI (T 13 x.toNat)) :: st)) : GG p l e R s m args below meth c Q cs A nL k n np ad T pc lv (grf ad x :: st) := by
  rw [grf_ref (x := x) hq.1]
  exact g_getG C (q := x.toNat + 13) (by omega) rfl rfl in_RX0 (f := 0) (by decide) fl_X1_154 rfl d kk
theorem g_get_X0_13 (C : gC p l s m args meth c cs A nL cc RX0 rt) {x : Int} (hq : 0 ≤ x ∧ x + 13 < np) (d : decode cc pc = .ok (.getfield 13, 3)) (kk : GG p l e R s m args below meth c Q cs A nL k n np ad T (pc + 3) lv (grf ad (T 14 x.toNat) :: st)) : GG p l e R s m args below meth c Q cs A nL k n np ad T pc lv (grf ad x :: st) := by
  rw [grf_ref (x := x) hq.1]
  exact g_getG C (q := x.toNat + 13) (by omega) rfl rfl in_RX0 (f := 1) (by decide) fl_X0_13 rfl d kk
theorem g_put_X0_13 (C : gC p l s m args meth c cs A nL cc RX0 rt) {z : Int} {x : Int} (hq : 0 ≤ x ∧ x + 13 < np) (hin : meth.name = "<init>") (d : decode cc pc = .ok (.putfield 13, 3)) (kk : GG p l e R s m args below meth c Q cs A nL k n np ad (mst T 14 x.toNat z) (pc + 3) lv st) : GG p l e R s m args below meth c Q cs A nL k n np ad T pc lv (grf ad z :: grf ad x :: st) := by
  rw [grf_ref (x := x) hq.1]
  exact g_putFG C (q := x.toNat + 13) (T' := (mst T 14 x.toNat z)) (by omega) rfl rfl in_RX0 tyX0_ok nmX0 (f := 1) (ty := tyX0 1) (by decide) fl_X0_13 rfl hin rfl (tyX0_ok 1 (by decide)) (by rcases grf_or (ad := ad) (x := z) with h | ⟨a, h⟩ <;> rw [h] <;> rfl) (by rcases grf_or (ad := ad) (x := z) with h | ⟨a, h⟩ <;> rw [h] <;> rfl) (show 1 < 5 from by decide) (by simp [cel, mst]) (cel_span x.toNat (fun r j h => mst_ne (fun q => h ⟨by omega, q.2⟩))) d kk
theorem g_get_X1_94 (C : gC p l s m args meth c cs A nL cc RX1 rt) {x : Int} (hq : 0 ≤ x ∧ x + 13 < np) (d : decode cc pc = .ok (.getfield 94, 3)) (kk : GG p l e R s m args below meth c Q cs A nL k n np ad T (pc + 3) lv (grf ad (T 14 x.toNat) :: st)) : GG p l e R s m args below meth c Q cs A nL k n np ad T pc lv (grf ad x :: st) := by
  rw [grf_ref (x := x) hq.1]
  exact g_getG C (q := x.toNat + 13) (by omega) rfl rfl in_RX0 (f := 1) (by decide) fl_X1_94 rfl d kk
theorem g_get_X0_17 (C : gC p l s m args meth c cs A nL cc RX0 rt) {x : Int} (hq : 0 ≤ x ∧ x + 13 < np) (d : decode cc pc = .ok (.getfield 17, 3)) (kk : GG p l e R s m args below meth c Q cs A nL k n np ad T (pc + 3) lv (.int (zI (T 15 x.toNat)) :: st)) : GG p l e R s m args below meth c Q cs A nL k n np ad T pc lv (grf ad x :: st) := by
  rw [grf_ref (x := x) hq.1]
  exact g_getG C (q := x.toNat + 13) (by omega) rfl rfl in_RX0 (f := 2) (by decide) fl_X0_17 rfl d kk
theorem g_put_X0_17 (C : gC p l s m args meth c cs A nL cc RX0 rt) {z : Int} {x : Int} (hq : 0 ≤ x ∧ x + 13 < np) (d : decode cc pc = .ok (.putfield 17, 3)) (kk : GG p l e R s m args below meth c Q cs A nL k n np ad (mst T 15 x.toNat z) (pc + 3) lv st) : GG p l e R s m args below meth c Q cs A nL k n np ad T pc lv (.int (zI z) :: grf ad x :: st) := by
  rw [grf_ref (x := x) hq.1]
  exact g_putG C (q := x.toNat + 13) (T' := (mst T 15 x.toNat z)) (by omega) rfl rfl in_RX0 tyX0_ok nmX0 (f := 2) (ty := tyX0 2) (by decide) fl_X0_17 rfl (tyX0_ok 2 (by decide)) rfl rfl (show 2 < 5 from by decide) (by simp [cel, mst]) (cel_span x.toNat (fun r j h => mst_ne (fun q => h ⟨by omega, q.2⟩))) d kk
theorem g_get_X1_101 (C : gC p l s m args meth c cs A nL cc RX1 rt) {x : Int} (hq : 0 ≤ x ∧ x + 13 < np) (d : decode cc pc = .ok (.getfield 101, 3)) (kk : GG p l e R s m args below meth c Q cs A nL k n np ad T (pc + 3) lv (.int (zI (T 15 x.toNat)) :: st)) : GG p l e R s m args below meth c Q cs A nL k n np ad T pc lv (grf ad x :: st) := by
  rw [grf_ref (x := x) hq.1]
  exact g_getG C (q := x.toNat + 13) (by omega) rfl rfl in_RX0 (f := 2) (by decide) fl_X1_101 rfl d kk
theorem g_put_X1_101 (C : gC p l s m args meth c cs A nL cc RX1 rt) {z : Int} {x : Int} (hq : 0 ≤ x ∧ x + 13 < np) (d : decode cc pc = .ok (.putfield 101, 3)) (kk : GG p l e R s m args below meth c Q cs A nL k n np ad (mst T 15 x.toNat z) (pc + 3) lv st) : GG p l e R s m args below meth c Q cs A nL k n np ad T pc lv (.int (zI z) :: grf ad x :: st) := by
  rw [grf_ref (x := x) hq.1]
  exact g_putG C (q := x.toNat + 13) (T' := (mst T 15 x.toNat z)) (by omega) rfl rfl in_RX0 tyX0_ok nmX0 (f := 2) (ty := tyX0 2) (by decide) fl_X1_101 rfl (tyX0_ok 2 (by decide)) rfl rfl (show 2 < 5 from by decide) (by simp [cel, mst]) (cel_span x.toNat (fun r j h => mst_ne (fun q => h ⟨by omega, q.2⟩))) d kk
theorem g_get_X0_20 (C : gC p l s m args meth c cs A nL cc RX0 rt) {x : Int} (hq : 0 ≤ x ∧ x + 13 < np) (d : decode cc pc = .ok (.getfield 20, 3)) (kk : GG p l e R s m args below meth c Q cs A nL k n np ad T (pc + 3) lv (.int (zI (T 16 x.toNat)) :: st)) : GG p l e R s m args below meth c Q cs A nL k n np ad T pc lv (grf ad x :: st) := by
  rw [grf_ref (x := x) hq.1]
  exact g_getG C (q := x.toNat + 13) (by omega) rfl rfl in_RX0 (f := 3) (by decide) fl_X0_20 rfl d kk
theorem g_put_X0_20 (C : gC p l s m args meth c cs A nL cc RX0 rt) {z : Int} {x : Int} (hq : 0 ≤ x ∧ x + 13 < np) (d : decode cc pc = .ok (.putfield 20, 3)) (kk : GG p l e R s m args below meth c Q cs A nL k n np ad (mst T 16 x.toNat z) (pc + 3) lv st) : GG p l e R s m args below meth c Q cs A nL k n np ad T pc lv (.int (zI z) :: grf ad x :: st) := by
  rw [grf_ref (x := x) hq.1]
  exact g_putG C (q := x.toNat + 13) (T' := (mst T 16 x.toNat z)) (by omega) rfl rfl in_RX0 tyX0_ok nmX0 (f := 3) (ty := tyX0 3) (by decide) fl_X0_20 rfl (tyX0_ok 3 (by decide)) rfl rfl (show 3 < 5 from by decide) (by simp [cel, mst]) (cel_span x.toNat (fun r j h => mst_ne (fun q => h ⟨by omega, q.2⟩))) d kk
theorem g_get_X1_114 (C : gC p l s m args meth c cs A nL cc RX1 rt) {x : Int} (hq : 0 ≤ x ∧ x + 13 < np) (d : decode cc pc = .ok (.getfield 114, 3)) (kk : GG p l e R s m args below meth c Q cs A nL k n np ad T (pc + 3) lv (.int (zI (T 16 x.toNat)) :: st)) : GG p l e R s m args below meth c Q cs A nL k n np ad T pc lv (grf ad x :: st) := by
  rw [grf_ref (x := x) hq.1]
  exact g_getG C (q := x.toNat + 13) (by omega) rfl rfl in_RX0 (f := 3) (by decide) fl_X1_114 rfl d kk
theorem g_put_X1_114 (C : gC p l s m args meth c cs A nL cc RX1 rt) {z : Int} {x : Int} (hq : 0 ≤ x ∧ x + 13 < np) (d : decode cc pc = .ok (.putfield 114, 3)) (kk : GG p l e R s m args below meth c Q cs A nL k n np ad (mst T 16 x.toNat z) (pc + 3) lv st) : GG p l e R s m args below meth c Q cs A nL k n np ad T pc lv (.int (zI z) :: grf ad x :: st) := by
  rw [grf_ref (x := x) hq.1]
  exact g_putG C (q := x.toNat + 13) (T' := (mst T 16 x.toNat z)) (by omega) rfl rfl in_RX0 tyX0_ok nmX0 (f := 3) (ty := tyX0 3) (by decide) fl_X1_114 rfl (tyX0_ok 3 (by decide)) rfl rfl (show 3 < 5 from by decide) (by simp [cel, mst]) (cel_span x.toNat (fun r j h => mst_ne (fun q => h ⟨by omega, q.2⟩))) d kk
theorem g_get_X0_23 (C : gC p l s m args meth c cs A nL cc RX0 rt) {x : Int} (hq : 0 ≤ x ∧ x + 13 < np) (d : decode cc pc = .ok (.getfield 23, 3)) (kk : GG p l e R s m args below meth c Q cs A nL k n np ad T (pc + 3) lv (.int (zI (T 17 x.toNat)) :: st)) : GG p l e R s m args below meth c Q cs A nL k n np ad T pc lv (grf ad x :: st) := by
  rw [grf_ref (x := x) hq.1]
  exact g_getG C (q := x.toNat + 13) (by omega) rfl rfl in_RX0 (f := 4) (by decide) fl_X0_23 rfl d kk
theorem g_put_X0_23 (C : gC p l s m args meth c cs A nL cc RX0 rt) {z : Int} {x : Int} (hq : 0 ≤ x ∧ x + 13 < np) (d : decode cc pc = .ok (.putfield 23, 3)) (kk : GG p l e R s m args below meth c Q cs A nL k n np ad (mst T 17 x.toNat z) (pc + 3) lv st) : GG p l e R s m args below meth c Q cs A nL k n np ad T pc lv (.int (zI z) :: grf ad x :: st) := by
  rw [grf_ref (x := x) hq.1]
  exact g_putG C (q := x.toNat + 13) (T' := (mst T 17 x.toNat z)) (by omega) rfl rfl in_RX0 tyX0_ok nmX0 (f := 4) (ty := tyX0 4) (by decide) fl_X0_23 rfl (tyX0_ok 4 (by decide)) rfl rfl (show 4 < 5 from by decide) (by simp [cel, mst]) (cel_span x.toNat (fun r j h => mst_ne (fun q => h ⟨by omega, q.2⟩))) d kk
theorem g_get_X1_125 (C : gC p l s m args meth c cs A nL cc RX1 rt) {x : Int} (hq : 0 ≤ x ∧ x + 13 < np) (d : decode cc pc = .ok (.getfield 125, 3)) (kk : GG p l e R s m args below meth c Q cs A nL k n np ad T (pc + 3) lv (.int (zI (T 17 x.toNat)) :: st)) : GG p l e R s m args below meth c Q cs A nL k n np ad T pc lv (grf ad x :: st) := by
  rw [grf_ref (x := x) hq.1]
  exact g_getG C (q := x.toNat + 13) (by omega) rfl rfl in_RX0 (f := 4) (by decide) fl_X1_125 rfl d kk
theorem g_put_X1_125 (C : gC p l s m args meth c cs A nL cc RX1 rt) {z : Int} {x : Int} (hq : 0 ≤ x ∧ x + 13 < np) (d : decode cc pc = .ok (.putfield 125, 3)) (kk : GG p l e R s m args below meth c Q cs A nL k n np ad (mst T 17 x.toNat z) (pc + 3) lv st) : GG p l e R s m args below meth c Q cs A nL k n np ad T pc lv (.int (zI z) :: grf ad x :: st) := by
  rw [grf_ref (x := x) hq.1]
  exact g_putG C (q := x.toNat + 13) (T' := (mst T 17 x.toNat z)) (by omega) rfl rfl in_RX0 tyX0_ok nmX0 (f := 4) (ty := tyX0 4) (by decide) fl_X1_125 rfl (tyX0_ok 4 (by decide)) rfl rfl (show 4 < 5 from by decide) (by simp [cel, mst]) (cel_span x.toNat (fun r j h => mst_ne (fun q => h ⟨by omega, q.2⟩))) d kk
theorem g_get_X1_14 (C : gC p l s m args meth c cs A nL cc RX1 rt) (hq : 13 ≤ np) (d : decode cc pc = .ok (.getfield 14, 3)) (kk : GG p l e R s m args below meth c Q cs A nL k n np ad T (pc + 3) lv (grf ad 0 :: st)) : GG p l e R s m args below meth c Q cs A nL k n np ad T pc lv (.ref (ad 0) :: st) := by
  rw [grf_ref (by decide)] at kk
  exact g_getG C (q := 0) (by omega) rfl rfl in_RX1 (f := 0) (by decide) fl_X1_14 rfl d kk
theorem g_get_X1_18 (C : gC p l s m args meth c cs A nL cc RX1 rt) (hq : 13 ≤ np) (d : decode cc pc = .ok (.getfield 18, 3)) (kk : GG p l e R s m args below meth c Q cs A nL k n np ad T (pc + 3) lv (.ref (ad 1) :: st)) : GG p l e R s m args below meth c Q cs A nL k n np ad T pc lv (.ref (ad 0) :: st) := g_getG C (q := 0) (by omega) rfl rfl in_RX1 (f := 1) (by decide) fl_X1_18 rfl d kk
theorem g_get_X1_22 (C : gC p l s m args meth c cs A nL cc RX1 rt) (hq : 13 ≤ np) (d : decode cc pc = .ok (.getfield 22, 3)) (kk : GG p l e R s m args below meth c Q cs A nL k n np ad T (pc + 3) lv (.int (zI (T 0 2)) :: st)) : GG p l e R s m args below meth c Q cs A nL k n np ad T pc lv (.ref (ad 0) :: st) := g_getG C (q := 0) (by omega) rfl rfl in_RX1 (f := 2) (by decide) fl_X1_22 rfl d kk
theorem g_put_X1_22 (C : gC p l s m args meth c cs A nL cc RX1 rt) {z : Int} (hq : 13 ≤ np) (d : decode cc pc = .ok (.putfield 22, 3)) (kk : GG p l e R s m args below meth c Q cs A nL k n np ad (mst T 0 2 z) (pc + 3) lv st) : GG p l e R s m args below meth c Q cs A nL k n np ad T pc lv (.int (zI z) :: .ref (ad 0) :: st) := g_putG C (q := 0) (T' := (mst T 0 2 z)) (by omega) rfl rfl in_RX1 tyX1_ok nmX1 (f := 2) (ty := tyX1 2) (by decide) fl_X1_22 rfl (tyX1_ok 2 (by decide)) rfl rfl (show 2 < 8 from by decide) (by simp [cel, mst]) (cel_reg 0 (by decide) (fun r j hr => mst_r hr)) d kk
theorem g_get_X1_26 (C : gC p l s m args meth c cs A nL cc RX1 rt) (hq : 13 ≤ np) (d : decode cc pc = .ok (.getfield 26, 3)) (kk : GG p l e R s m args below meth c Q cs A nL k n np ad T (pc + 3) lv (.ref (ad 2) :: st)) : GG p l e R s m args below meth c Q cs A nL k n np ad T pc lv (.ref (ad 0) :: st) := g_getG C (q := 0) (by omega) rfl rfl in_RX1 (f := 3) (by decide) fl_X1_26 rfl d kk
theorem g_get_X1_30 (C : gC p l s m args meth c cs A nL cc RX1 rt) (hq : 13 ≤ np) (d : decode cc pc = .ok (.getfield 30, 3)) (kk : GG p l e R s m args below meth c Q cs A nL k n np ad T (pc + 3) lv (.int (zI (T 0 4)) :: st)) : GG p l e R s m args below meth c Q cs A nL k n np ad T pc lv (.ref (ad 0) :: st) := g_getG C (q := 0) (by omega) rfl rfl in_RX1 (f := 4) (by decide) fl_X1_30 rfl d kk
theorem g_put_X1_30 (C : gC p l s m args meth c cs A nL cc RX1 rt) {z : Int} (hq : 13 ≤ np) (d : decode cc pc = .ok (.putfield 30, 3)) (kk : GG p l e R s m args below meth c Q cs A nL k n np ad (mst T 0 4 z) (pc + 3) lv st) : GG p l e R s m args below meth c Q cs A nL k n np ad T pc lv (.int (zI z) :: .ref (ad 0) :: st) := g_putG C (q := 0) (T' := (mst T 0 4 z)) (by omega) rfl rfl in_RX1 tyX1_ok nmX1 (f := 4) (ty := tyX1 4) (by decide) fl_X1_30 rfl (tyX1_ok 4 (by decide)) rfl rfl (show 4 < 8 from by decide) (by simp [cel, mst]) (cel_reg 0 (by decide) (fun r j hr => mst_r hr)) d kk
theorem g_get_X1_33 (C : gC p l s m args meth c cs A nL cc RX1 rt) (hq : 13 ≤ np) (d : decode cc pc = .ok (.getfield 33, 3)) (kk : GG p l e R s m args below meth c Q cs A nL k n np ad T (pc + 3) lv (.int (zI (T 0 5)) :: st)) : GG p l e R s m args below meth c Q cs A nL k n np ad T pc lv (.ref (ad 0) :: st) := g_getG C (q := 0) (by omega) rfl rfl in_RX1 (f := 5) (by decide) fl_X1_33 rfl d kk
theorem g_put_X1_33 (C : gC p l s m args meth c cs A nL cc RX1 rt) {z : Int} (hq : 13 ≤ np) (d : decode cc pc = .ok (.putfield 33, 3)) (kk : GG p l e R s m args below meth c Q cs A nL k n np ad (mst T 0 5 z) (pc + 3) lv st) : GG p l e R s m args below meth c Q cs A nL k n np ad T pc lv (.int (zI z) :: .ref (ad 0) :: st) := g_putG C (q := 0) (T' := (mst T 0 5 z)) (by omega) rfl rfl in_RX1 tyX1_ok nmX1 (f := 5) (ty := tyX1 5) (by decide) fl_X1_33 rfl (tyX1_ok 5 (by decide)) rfl rfl (show 5 < 8 from by decide) (by simp [cel, mst]) (cel_reg 0 (by decide) (fun r j hr => mst_r hr)) d kk
theorem g_get_X1_36 (C : gC p l s m args meth c cs A nL cc RX1 rt) (hq : 13 ≤ np) (d : decode cc pc = .ok (.getfield 36, 3)) (kk : GG p l e R s m args below meth c Q cs A nL k n np ad T (pc + 3) lv (.ref (ad 3) :: st)) : GG p l e R s m args below meth c Q cs A nL k n np ad T pc lv (.ref (ad 0) :: st) := g_getG C (q := 0) (by omega) rfl rfl in_RX1 (f := 6) (by decide) fl_X1_36 rfl d kk
theorem g_get_X1_39 (C : gC p l s m args meth c cs A nL cc RX1 rt) (hq : 13 ≤ np) (d : decode cc pc = .ok (.getfield 39, 3)) (kk : GG p l e R s m args below meth c Q cs A nL k n np ad T (pc + 3) lv (.int (zI (T 0 7)) :: st)) : GG p l e R s m args below meth c Q cs A nL k n np ad T pc lv (.ref (ad 0) :: st) := g_getG C (q := 0) (by omega) rfl rfl in_RX1 (f := 7) (by decide) fl_X1_39 rfl d kk
theorem g_put_X1_39 (C : gC p l s m args meth c cs A nL cc RX1 rt) {z : Int} (hq : 13 ≤ np) (hz : z = 0 ∨ z = 1) (d : decode cc pc = .ok (.putfield 39, 3)) (kk : GG p l e R s m args below meth c Q cs A nL k n np ad (mst T 0 7 z) (pc + 3) lv st) : GG p l e R s m args below meth c Q cs A nL k n np ad T pc lv (.int (zI z) :: .ref (ad 0) :: st) := g_putG C (q := 0) (T' := (mst T 0 7 z)) (by omega) rfl rfl in_RX1 tyX1_ok nmX1 (f := 7) (ty := tyX1 7) (by decide) fl_X1_39 rfl (tyX1_ok 7 (by decide)) (by rcases hz with rfl | rfl <;> decide) (by rcases hz with rfl | rfl <;> decide) (show 7 < 8 from by decide) (by simp [cel, mst]) (cel_reg 0 (by decide) (fun r j hr => mst_r hr)) d kk
theorem g_ald_2 (C : gC p l s m args meth c cs A nL cc own rt) {i : Int} (hq : 13 ≤ np) (hi : 0 ≤ i ∧ i < 4096) (d : decode cc pc = .ok (.iaload, 1)) (kk : GG p l e R s m args below meth c Q cs A nL k n np ad T (pc + 1) lv (.int (zI (T 2 i.toNat)) :: st)) : GG p l e R s m args below meth c Q cs A nL k n np ad T pc lv (.int (zI i) :: .ref (ad 2) :: st) := g_iald C (q := 2) (N := 4096) (f := fun j => zI (T 2 j)) (by omega) rfl (by omega) (by decide) d kk
theorem g_ast_2 (C : gC p l s m args meth c cs A nL cc own rt) {i z : Int} (hq : 13 ≤ np) (hi : 0 ≤ i ∧ i < 4096) (d : decode cc pc = .ok (.iastore, 1)) (kk : GG p l e R s m args below meth c Q cs A nL k n np ad (mst T 2 i.toNat z) (pc + 1) lv st) : GG p l e R s m args below meth c Q cs A nL k n np ad T pc lv (.int (zI z) :: .int (zI i) :: .ref (ad 2) :: st) := g_iast C (q := 2) (N := 4096) (by omega) (by decide) (fun _ => rfl) (by omega) (by decide) d kk
theorem g_ald_3 (C : gC p l s m args meth c cs A nL cc own rt) {i : Int} (hq : 13 ≤ np) (hi : 0 ≤ i ∧ i < 4096) (d : decode cc pc = .ok (.iaload, 1)) (kk : GG p l e R s m args below meth c Q cs A nL k n np ad T (pc + 1) lv (.int (zI (T 3 i.toNat)) :: st)) : GG p l e R s m args below meth c Q cs A nL k n np ad T pc lv (.int (zI i) :: .ref (ad 3) :: st) := g_iald C (q := 3) (N := 4096) (f := fun j => zI (T 3 j)) (by omega) rfl (by omega) (by decide) d kk
theorem g_ast_3 (C : gC p l s m args meth c cs A nL cc own rt) {i z : Int} (hq : 13 ≤ np) (hi : 0 ≤ i ∧ i < 4096) (d : decode cc pc = .ok (.iastore, 1)) (kk : GG p l e R s m args below meth c Q cs A nL k n np ad (mst T 3 i.toNat z) (pc + 1) lv st) : GG p l e R s m args below meth c Q cs A nL k n np ad T pc lv (.int (zI z) :: .int (zI i) :: .ref (ad 3) :: st) := g_iast C (q := 3) (N := 4096) (by omega) (by decide) (fun _ => rfl) (by omega) (by decide) d kk
theorem th_1 : ∀ w ∈ vx_atS RX1 182 "java/lang/IndexOutOfBoundsException" ["java/lang/RuntimeException", "java/lang/Exception"], w ∈ GW ∨ w ∈ gBd := by decide +kernel
theorem g_throw_1 (C : gC p l s m args meth c cs A nL cc RX1 rt) (hE : ∀ x ∈ c.exceptionTable.toList, False) {is : Nat} {text : String} (hstr : (is, text) ∈ gStr) (d0 : decode cc pc = .ok (.new 178, 3)) (d3 : decode cc (pc + 3) = .ok (.dup, 1)) (d4 : decode cc (pc + 4) = .ok (.ldc is, 2)) (d6 : decode cc (pc + 6) = .ok (.invokespecial 182, 3)) (d9 : decode cc (pc + 9) = .ok (.athrow, 1)) (hR : 5 < R.frames ∧ 90 ≤ R.locals ∧ k + 1 ≤ R.cells ∧ n + 6 ≤ R.slots) (hmc : k + 1 ≤ mc ∧ n + 6 ≤ ms) (kk : PX (xn 1) (np, ad, T)) : GG p l e R s m args below meth c (kQ cs A PR PX below args s mc ms) cs A nL k n np ad T pc lv [] := g_throw C hE rfl (by decide +kernel) cl_X1_178 ini_java_lang_IndexOutOfBoundsException hstr th_1 d0 d3 d4 d6 d9 hR hmc kk
theorem th_2 : ∀ w ∈ vx_atS RX1 58 "java/lang/IllegalArgumentException" ["java/lang/RuntimeException", "java/lang/Exception"], w ∈ GW ∨ w ∈ gBd := by decide +kernel
theorem g_throw_2 (C : gC p l s m args meth c cs A nL cc RX1 rt) (hE : ∀ x ∈ c.exceptionTable.toList, False) {is : Nat} {text : String} (hstr : (is, text) ∈ gStr) (d0 : decode cc pc = .ok (.new 54, 3)) (d3 : decode cc (pc + 3) = .ok (.dup, 1)) (d4 : decode cc (pc + 4) = .ok (.ldc is, 2)) (d6 : decode cc (pc + 6) = .ok (.invokespecial 58, 3)) (d9 : decode cc (pc + 9) = .ok (.athrow, 1)) (hR : 5 < R.frames ∧ 90 ≤ R.locals ∧ k + 1 ≤ R.cells ∧ n + 6 ≤ R.slots) (hmc : k + 1 ≤ mc ∧ n + 6 ≤ ms) (kk : PX (xn 2) (np, ad, T)) : GG p l e R s m args below meth c (kQ cs A PR PX below args s mc ms) cs A nL k n np ad T pc lv [] := g_throw C hE rfl (by decide +kernel) cl_X1_54 ini_java_lang_IllegalArgumentException hstr th_2 d0 d3 d4 d6 d9 hR hmc kk
theorem th_3 : ∀ w ∈ vx_atS RX1 73 "java/lang/IllegalStateException" ["java/lang/RuntimeException", "java/lang/Exception"], w ∈ GW ∨ w ∈ gBd := by decide +kernel
theorem g_throw_3 (C : gC p l s m args meth c cs A nL cc RX1 rt) (hE : ∀ x ∈ c.exceptionTable.toList, False) {is : Nat} {text : String} (hstr : (is, text) ∈ gStr) (d0 : decode cc pc = .ok (.new 69, 3)) (d3 : decode cc (pc + 3) = .ok (.dup, 1)) (d4 : decode cc (pc + 4) = .ok (.ldc is, 2)) (d6 : decode cc (pc + 6) = .ok (.invokespecial 73, 3)) (d9 : decode cc (pc + 9) = .ok (.athrow, 1)) (hR : 5 < R.frames ∧ 90 ≤ R.locals ∧ k + 1 ≤ R.cells ∧ n + 6 ≤ R.slots) (hmc : k + 1 ≤ mc ∧ n + 6 ≤ ms) (kk : PX (xn 3) (np, ad, T)) : GG p l e R s m args below meth c (kQ cs A PR PX below args s mc ms) cs A nL k n np ad T pc lv [] := g_throw C hE rfl (by decide +kernel) cl_X1_69 ini_java_lang_IllegalStateException hstr th_3 d0 d3 d4 d6 d9 hR hmc kk
theorem cs_L_83 : CGV RL 83 RX1 yX1_isThere cX1_isThere 2 (some .boolean) 1 := ⟨GW_V ml_L_83 mi_X1_isThere ms_X1_isThere ini_PrefixYard mc_X1_isThere, by decide +kernel⟩
theorem cs_X1_151 : CGV RX1 151 RX1 yX1_findSpan cX1_findSpan 2 (some (.object "PrefixYard$Span")) 1 := ⟨GW_V ml_X1_151 mi_X1_findSpan ms_X1_findSpan ini_PrefixYard mc_X1_findSpan, by decide +kernel⟩
theorem cs_L_118 : CGS RL 118 yL_cell cL_cell 2 (some .int) 2 := ⟨GW_S ml_L_118 mt_L_cell ini_PrefixYardLaw mc_L_cell, by decide +kernel⟩
theorem cs_L_47 : CGS RL 47 yL_low cL_low 2 (some .int) 2 := ⟨GW_S ml_L_47 mt_L_low ini_PrefixYardLaw mc_L_low, by decide +kernel⟩
theorem cs_L_122 : CGS RL 122 yL_act cL_act 5 (some .int) 2 := ⟨GW_S ml_L_122 mt_L_act ini_PrefixYardLaw mc_L_act, by decide +kernel⟩
theorem cs_L_8 : CGV RL 8 RX1 yX1_carve cX1_carve 9 (some .int) 4 := ⟨GW_V ml_L_8 mi_X1_carve ms_X1_carve ini_PrefixYard mc_X1_carve, by decide +kernel⟩
theorem cs_X1_43 : CGV RX1 43 RX1 yX1_spanOf cX1_spanOf 3 (some (.object "PrefixYard$Span")) 1 := ⟨GW_V ml_X1_43 mi_X1_spanOf ms_X1_spanOf ini_PrefixYard mc_X1_spanOf, by decide +kernel⟩
theorem cs_X1_47 : CGS RX1 47 yX1_checkSize cX1_checkSize 1 none 1 := ⟨GW_S ml_X1_47 mt_X1_checkSize ini_PrefixYard mc_X1_checkSize, by decide +kernel⟩
theorem cs_X1_51 : CGS RX1 51 yX1_checkOwner cX1_checkOwner 1 none 1 := ⟨GW_S ml_X1_51 mt_X1_checkOwner ini_PrefixYard mc_X1_checkOwner, by decide +kernel⟩
theorem cs_X1_61 : CGV RX1 61 RX1 yX1_checkCarving cX1_checkCarving 3 none 2 := ⟨GW_V ml_X1_61 mi_X1_checkCarving ms_X1_checkCarving ini_PrefixYard mc_X1_checkCarving, by decide +kernel⟩
theorem cs_X1_160 : CGV RX1 160 RX1 yX1_lentInItself cX1_lentInItself 2 (some .int) 1 := ⟨GW_V ml_X1_160 mi_X1_lentInItself ms_X1_lentInItself ini_PrefixYard mc_X1_lentInItself, by decide +kernel⟩
theorem cs_X1_97 : CGV RX1 97 RX1 yX1_hasChildren cX1_hasChildren 2 (some .boolean) 1 := ⟨GW_V ml_X1_97 mi_X1_hasChildren ms_X1_hasChildren ini_PrefixYard mc_X1_hasChildren, by decide +kernel⟩
theorem cs_X1_88 : CGV RX1 88 RX1 yX1_countChildren cX1_countChildren 9 (some .int) 3 := ⟨GW_V ml_X1_88 mi_X1_countChildren ms_X1_countChildren ini_PrefixYard mc_X1_countChildren, by decide +kernel⟩
theorem cs_X1_193 : CGV RX1 193 RX0 yX0_meets cX0_meets 3 (some .boolean) 2 := ⟨GW_V ml_X1_193 mi_X0_meets ms_X0_meets ini_PrefixYard_Span mc_X0_meets, by decide +kernel⟩
theorem cs_X0_26 : CGV RX0 26 RX0 yX0_end cX0_end 1 (some .int) 0 := ⟨GW_V ml_X0_26 mi_X0_end ms_X0_end ini_PrefixYard_Span mc_X0_end, by decide +kernel⟩
theorem cs_X1_104 : CGV RX1 104 RX0 yX0_end cX0_end 1 (some .int) 0 := ⟨GW_V ml_X1_104 mi_X0_end ms_X0_end ini_PrefixYard_Span mc_X0_end, by decide +kernel⟩
theorem cs_X1_108 : CGV RX1 108 RX1 yX1_countLent cX1_countLent 5 (some .int) 2 := ⟨GW_V ml_X1_108 mi_X1_countLent ms_X1_countLent ini_PrefixYard mc_X1_countLent, by decide +kernel⟩
theorem cs_X1_136 : CGS RX1 136 yX1_isAddress cX1_isAddress 1 (some .boolean) 1 := ⟨GW_S ml_X1_136 mt_X1_isAddress ini_PrefixYard mc_X1_isAddress, by decide +kernel⟩
theorem cs_X1_65 : CGV RX1 65 RX1 yX1_chosenBlock cX1_chosenBlock 11 (some .int) 3 := ⟨GW_V ml_X1_65 mi_X1_chosenBlock ms_X1_chosenBlock ini_PrefixYard mc_X1_chosenBlock, by decide +kernel⟩
theorem cs_X1_168 : CGV RX1 168 RX1 yX1_childAt cX1_childAt 7 (some (.object "PrefixYard$Span")) 2 := ⟨GW_V ml_X1_168 mi_X1_childAt ms_X1_childAt ini_PrefixYard mc_X1_childAt, by decide +kernel⟩
theorem cs_X1_84 : CGV RX1 84 RX0 yX0_has cX0_has 2 (some .boolean) 1 := ⟨GW_V ml_X1_84 mi_X0_has ms_X0_has ini_PrefixYard_Span mc_X0_has, by decide +kernel⟩
theorem cs_X1_74 : CGV RX1 74 RX1 yX1_roomAt cX1_roomAt 8 (some .int) 2 := ⟨GW_V ml_X1_74 mi_X1_roomAt ms_X1_roomAt ini_PrefixYard mc_X1_roomAt, by decide +kernel⟩
theorem cs_X1_197 : CGS RX1 197 yX1_greatestBlock cX1_greatestBlock 4 (some .int) 2 := ⟨GW_S ml_X1_197 mt_X1_greatestBlock ini_PrefixYard mc_X1_greatestBlock, by decide +kernel⟩
theorem cs_X1_78 : CGV RX1 78 RX1 yX1_makeSpan cX1_makeSpan 6 (some .int) 4 := ⟨GW_V ml_X1_78 mi_X1_makeSpan ms_X1_makeSpan ini_PrefixYard mc_X1_makeSpan, by decide +kernel⟩
theorem cs_L_21 : CGV RL 21 RX1 yX1_carveAt cX1_carveAt 6 (some .int) 4 := ⟨GW_V ml_L_21 mi_X1_carveAt ms_X1_carveAt ini_PrefixYard mc_X1_carveAt, by decide +kernel⟩
theorem cs_L_24 : CGV RL 24 RX1 yX1_remove cX1_remove 3 (some .int) 1 := ⟨GW_V ml_L_24 mi_X1_remove ms_X1_remove ini_PrefixYard mc_X1_remove, by decide +kernel⟩
theorem cs_L_28 : CGV RL 28 RX1 yX1_grow cX1_grow 6 (some .int) 1 := ⟨GW_V ml_L_28 mi_X1_grow ms_X1_grow ini_PrefixYard mc_X1_grow, by decide +kernel⟩
theorem cs_L_31 : CGV RL 31 RX1 yX1_halve cX1_halve 5 (some .int) 1 := ⟨GW_V ml_L_31 mi_X1_halve ms_X1_halve ini_PrefixYard mc_X1_halve, by decide +kernel⟩
theorem cs_L_34 : CGV RL 34 RX1 yX1_setOwner cX1_setOwner 5 (some .int) 2 := ⟨GW_V ml_L_34 mi_X1_setOwner ms_X1_setOwner ini_PrefixYard mc_X1_setOwner, by decide +kernel⟩
theorem cs_L_38 : CGV RL 38 RX1 yX1_lend cX1_lend 5 (some .int) 2 := ⟨GW_V ml_L_38 mi_X1_lend ms_X1_lend ini_PrefixYard mc_X1_lend, by decide +kernel⟩
theorem cs_X1_132 : CGV RX1 132 RX1 yX1_lowestFree cX1_lowestFree 3 (some .int) 1 := ⟨GW_V ml_X1_132 mi_X1_lowestFree ms_X1_lowestFree ini_PrefixYard mc_X1_lowestFree, by decide +kernel⟩
theorem cs_L_41 : CGV RL 41 RX1 yX1_takeBack cX1_takeBack 3 (some .int) 1 := ⟨GW_V ml_L_41 mi_X1_takeBack ms_X1_takeBack ini_PrefixYard mc_X1_takeBack, by decide +kernel⟩
theorem cs_X1_141 : CGS RX1 141 yX1_checkAddress cX1_checkAddress 1 none 1 := ⟨GW_S ml_X1_141 mt_X1_checkAddress ini_PrefixYard mc_X1_checkAddress, by decide +kernel⟩
theorem cs_L_44 : CGV RL 44 RX1 yX1_pass cX1_pass 5 (some .int) 1 := ⟨GW_V ml_L_44 mi_X1_pass ms_X1_pass ini_PrefixYard mc_X1_pass, by decide +kernel⟩
theorem cs_L_125 : CGS RL 125 yL_areAlike cL_areAlike 4 (some .boolean) 2 := ⟨GW_S ml_L_125 mt_L_areAlike ini_PrefixYardLaw mc_L_areAlike, by decide +kernel⟩
theorem cs_L_73 : CGV RL 73 RX1 yX1_day cX1_day 1 (some .int) 0 := ⟨GW_V ml_L_73 mi_X1_day ms_X1_day ini_PrefixYard mc_X1_day, by decide +kernel⟩
theorem cs_L_77 : CGV RL 77 RX1 yX1_spans cX1_spans 6 (some .int) 0 := ⟨GW_V ml_L_77 mi_X1_spans ms_X1_spans ini_PrefixYard mc_X1_spans, by decide +kernel⟩
theorem cs_L_80 : CGV RL 80 RX1 yX1_lent cX1_lent 1 (some .int) 0 := ⟨GW_V ml_L_80 mi_X1_lent ms_X1_lent ini_PrefixYard mc_X1_lent, by decide +kernel⟩
theorem cs_L_87 : CGV RL 87 RX1 yX1_base cX1_base 2 (some .int) 1 := ⟨GW_V ml_L_87 mi_X1_base ms_X1_base ini_PrefixYard mc_X1_base, by decide +kernel⟩
theorem cs_L_90 : CGV RL 90 RX1 yX1_size cX1_size 2 (some .int) 1 := ⟨GW_V ml_L_90 mi_X1_size ms_X1_size ini_PrefixYard mc_X1_size, by decide +kernel⟩
theorem cs_L_93 : CGV RL 93 RX1 yX1_free cX1_free 3 (some .int) 1 := ⟨GW_V ml_L_93 mi_X1_free ms_X1_free ini_PrefixYard mc_X1_free, by decide +kernel⟩
theorem cs_X1_157 : CGV RX1 157 RX1 yX1_outsideChildren cX1_outsideChildren 7 (some .int) 1 := ⟨GW_V ml_X1_157 mi_X1_outsideChildren ms_X1_outsideChildren ini_PrefixYard mc_X1_outsideChildren, by decide +kernel⟩
theorem cs_L_129 : CGS RL 129 yL_areSpansSo cL_areSpansSo 8 (some .boolean) 1 := ⟨GW_S ml_L_129 mt_L_areSpansSo ini_PrefixYardLaw mc_L_areSpansSo, by decide +kernel⟩
theorem cs_L_96 : CGV RL 96 RX1 yX1_parent cX1_parent 3 (some .int) 1 := ⟨GW_V ml_L_96 mi_X1_parent ms_X1_parent ini_PrefixYard mc_X1_parent, by decide +kernel⟩
theorem cs_L_133 : CGS RL 133 yL_areBlocksSo cL_areBlocksSo 6 (some .boolean) 2 := ⟨GW_S ml_L_133 mt_L_areBlocksSo ini_PrefixYardLaw mc_L_areBlocksSo, by decide +kernel⟩
theorem cs_L_99 : CGV RL 99 RX1 yX1_greatestFree cX1_greatestFree 5 (some .int) 1 := ⟨GW_V ml_L_99 mi_X1_greatestFree ms_X1_greatestFree ini_PrefixYard mc_X1_greatestFree, by decide +kernel⟩
theorem cs_L_102 : CGV RL 102 RX1 yX1_inTheWay cX1_inTheWay 8 (some .int) 2 := ⟨GW_V ml_L_102 mi_X1_inTheWay ms_X1_inTheWay ini_PrefixYard mc_X1_inTheWay, by decide +kernel⟩
theorem cs_L_137 : CGS RL 137 yL_areOwnersSo cL_areOwnersSo 6 (some .boolean) 2 := ⟨GW_S ml_L_137 mt_L_areOwnersSo ini_PrefixYardLaw mc_L_areOwnersSo, by decide +kernel⟩
theorem cs_L_105 : CGV RL 105 RX1 yX1_owned cX1_owned 7 (some .int) 1 := ⟨GW_V ml_L_105 mi_X1_owned ms_X1_owned ini_PrefixYard mc_X1_owned, by decide +kernel⟩
theorem cs_L_108 : CGV RL 108 RX1 yX1_blocks cX1_blocks 6 (some .int) 1 := ⟨GW_V ml_L_108 mi_X1_blocks ms_X1_blocks ini_PrefixYard mc_X1_blocks, by decide +kernel⟩
theorem cs_X1_172 : CGV RX1 172 RX1 yX1_layRow cX1_layRow 6 none 0 := ⟨GW_V ml_X1_172 mi_X1_layRow ms_X1_layRow ini_PrefixYard mc_X1_layRow, by decide +kernel⟩
theorem cs_X1_200 : CGV RX1 200 RX1 yX1_laySpan cX1_laySpan 3 none 1 := ⟨GW_V ml_X1_200 mi_X1_laySpan ms_X1_laySpan ini_PrefixYard mc_X1_laySpan, by decide +kernel⟩
theorem cs_X1_175 : CGS RX1 175 yX1_countBlocks cX1_countBlocks 4 (some .int) 2 := ⟨GW_S ml_X1_175 mt_X1_countBlocks ini_PrefixYard mc_X1_countBlocks, by decide +kernel⟩
theorem cs_L_111 : CGV RL 111 RX1 yX1_nearest cX1_nearest 5 (some .int) 1 := ⟨GW_V ml_L_111 mi_X1_nearest ms_X1_nearest ini_PrefixYard mc_X1_nearest, by decide +kernel⟩
theorem cs_L_114 : CGV RL 114 RX1 yX1_nearestByRow cX1_nearestByRow 2 (some .int) 1 := ⟨GW_V ml_L_114 mi_X1_nearestByRow ms_X1_nearestByRow ini_PrefixYard mc_X1_nearestByRow, by decide +kernel⟩
end
end
section
theorem g_snull_aux {ad : Nat → Nat} : grf ad (-1) = .null := grf_null (by decide)
section
variable {p : Program} {l : Launch} {e : Env} {R : Room} {s : State} {m : MethodId} {args : Array Value} {below : List Frame} {meth : Method} {c : Code} {Q : State → Prop} {cs : CSt} {A : Nat → Prop} {nL : Nat}
variable {cc : ByteArray} {own : String} {rt : Option FieldType} {k n np : Nat} {ad : Nat → Nat} {T : MT} {pc : Nat} {lv : List (Option Value)} {st : List Value}
theorem g_snull (C : gC p l s m args meth c cs A nL cc own rt) (d : decode cc pc = .ok (.aconst_null, 1)) (kk : GG p l e R s m args below meth c Q cs A nL k n np ad T (pc + 1) lv (grf ad (-1) :: st)) : GG p l e R s m args below meth c Q cs A nL k n np ad T pc lv st := by
  rw [g_snull_aux] at kk
  exact g_null C d kk
theorem g_aastS (C : gC p l s m args meth c cs A nL cc own rt) {i : Int} (hq : 13 ≤ np) (hi : 0 ≤ i ∧ i < 60) (d : decode cc pc = .ok (.aastore, 1)) (kk : GG p l e R s m args below meth c Q cs A nL k n np ad (mst T 1 i.toNat 0) (pc + 1) lv st) : GG p l e R s m args below meth c Q cs A nL k n np ad T pc lv (grf ad (-1) :: .int (zI i) :: .ref (ad 1) :: st) := by
  rw [g_snull_aux]
  exact g_aastN C hq hi d kk
theorem g_aldn_2 (C : gC p l s m args meth c cs A nL cc own rt) {i : Nat} (hq : 13 ≤ np) (hi : 0 ≤ (i : Int) ∧ (i : Int) < 4096) (d : decode cc pc = .ok (.iaload, 1)) (kk : GG p l e R s m args below meth c Q cs A nL k n np ad T (pc + 1) lv (.int (zI (T 2 i)) :: st)) : GG p l e R s m args below meth c Q cs A nL k n np ad T pc lv (.int (zI (i : Int)) :: .ref (ad 2) :: st) := g_ald_2 C hq hi d kk
theorem g_astn_2 (C : gC p l s m args meth c cs A nL cc own rt) {i : Nat} {z : Int} (hq : 13 ≤ np) (hi : 0 ≤ (i : Int) ∧ (i : Int) < 4096) (d : decode cc pc = .ok (.iastore, 1)) (kk : GG p l e R s m args below meth c Q cs A nL k n np ad (mst T 2 i z) (pc + 1) lv st) : GG p l e R s m args below meth c Q cs A nL k n np ad T pc lv (.int (zI z) :: .int (zI (i : Int)) :: .ref (ad 2) :: st) := g_ast_2 C hq hi d kk
theorem g_aldn_3 (C : gC p l s m args meth c cs A nL cc own rt) {i : Nat} (hq : 13 ≤ np) (hi : 0 ≤ (i : Int) ∧ (i : Int) < 4096) (d : decode cc pc = .ok (.iaload, 1)) (kk : GG p l e R s m args below meth c Q cs A nL k n np ad T (pc + 1) lv (.int (zI (T 3 i)) :: st)) : GG p l e R s m args below meth c Q cs A nL k n np ad T pc lv (.int (zI (i : Int)) :: .ref (ad 3) :: st) := g_ald_3 C hq hi d kk
theorem g_astn_3 (C : gC p l s m args meth c cs A nL cc own rt) {i : Nat} {z : Int} (hq : 13 ≤ np) (hi : 0 ≤ (i : Int) ∧ (i : Int) < 4096) (d : decode cc pc = .ok (.iastore, 1)) (kk : GG p l e R s m args below meth c Q cs A nL k n np ad (mst T 3 i z) (pc + 1) lv st) : GG p l e R s m args below meth c Q cs A nL k n np ad T pc lv (.int (zI z) :: .int (zI (i : Int)) :: .ref (ad 3) :: st) := g_ast_3 C hq hi d kk
theorem g_aaldn (C : gC p l s m args meth c cs A nL cc own rt) {i : Nat} (hq : 13 ≤ np) (hi : 0 ≤ (i : Int) ∧ (i : Int) < 60) (d : decode cc pc = .ok (.aaload, 1)) (kk : GG p l e R s m args below meth c Q cs A nL k n np ad T (pc + 1) lv (grf ad (mkd T i) :: st)) : GG p l e R s m args below meth c Q cs A nL k n np ad T pc lv (.int (zI (i : Int)) :: .ref (ad 1) :: st) := g_aald C hq hi d kk
end
/-- the class's own memory is in order -/
def VC (np : Nat) (T : MT) : Prop := (1 ≤ T 0 2 ∧ T 0 2 ≤ 60 ∧ (np : Int) = T 0 2 + 13 ∧ T 1 0 = 1) ∧ ∀ j : Nat, j < 60 → T 1 j = 0 ∨ (T 1 j = 1 ∧ (j : Int) < T 0 2 ∧ T 13 j = j ∧ -1 ≤ T 14 j ∧ T 14 j < j ∧ 0 ≤ T 15 j ∧ 1 ≤ T 16 j ∧ T 15 j + T 16 j ≤ 4096 ∧ 0 ≤ T 17 j ∧ T 17 j ≤ 7)
def fsp (T : MT) (a : Int) : Int := if 0 ≤ a ∧ a < 60 then mkd T a.toNat else -1
theorem mkd_or (T : MT) (j : Nat) : (T 1 j = 0 ∧ mkd T j = -1) ∨ (T 1 j ≠ 0 ∧ mkd T j = j) := by
  unfold mkd
  by_cases h : T 1 j = 0
  · exact Or.inl ⟨h, if_pos h⟩
  · exact Or.inr ⟨h, if_neg h⟩
/-- a span that is there -/
def isS (T : MT) (x : Int) : Prop := 0 ≤ x ∧ x < 60 ∧ T 1 x.toNat ≠ 0
theorem VC.s {np : Nat} {T : MT} (h : VC np T) {x : Int} (hx : isS T x) : 0 ≤ x ∧ x < 60 ∧ x + 13 < np ∧ T 1 x.toNat = 1 ∧ T 13 x.toNat = x ∧ -1 ≤ T 14 x.toNat ∧ T 14 x.toNat < x ∧ 0 ≤ T 15 x.toNat ∧ 1 ≤ T 16 x.toNat ∧ T 15 x.toNat + T 16 x.toNat ≤ 4096 ∧ 0 ≤ T 17 x.toNat ∧ T 17 x.toNat ≤ 7 := by
  obtain ⟨h0, h1, h2⟩ := hx
  have h3 := h.2 x.toNat (by omega)
  have h4 := h.1
  omega
theorem fsp_or (T : MT) (a : Int) : (fsp T a = -1 ∧ ¬ isS T a) ∨ (fsp T a = a ∧ isS T a) := by
  unfold fsp isS
  by_cases h : 0 ≤ a ∧ a < 60
  · rw [if_pos h]
    rcases mkd_or T a.toNat with ⟨h1, h2⟩ | ⟨h1, h2⟩
    · exact Or.inl ⟨h2, fun q => q.2.2 h1⟩
    · exact Or.inr ⟨by rw [h2]; omega, h.1, h.2, h1⟩
  · rw [if_neg h]
    exact Or.inl ⟨rfl, fun q => h ⟨q.1, q.2.1⟩⟩
theorem cat_int (x : Int32) : (Value.int x).category = 1 := rfl
theorem cat_ref (x : Nat) : (Value.ref x).category = 1 := rfl
section
variable {p : Program} {l : Launch} {e : Env} {R : Room} {s : State} {m : MethodId} {args : Array Value} {below : List Frame} {meth : Method} {c : Code} {Q : State → Prop} {cs : CSt} {A : Nat → Prop} {nL : Nat}
variable {k n np : Nat} {ad : Nat → Nat} {pc : Nat} {st : List Value}
/-- a loop whose head is passed with i = i0, i0 + 1 .. up to at most N -/
theorem g_loop {σ : Type} (Tf : Nat → σ → MT) (lvf : Nat → σ → List (Option Value)) (inv : Nat → σ → Prop) (N i0 : Nat) (s0 : σ) (h0 : inv i0 s0) (hi : i0 ≤ N)
    (hs : ∀ i z, inv i z → i ≤ N → (∀ z', i + 1 ≤ N → inv (i + 1) z' → GG p l e R s m args below meth c Q cs A nL k n np ad (Tf (i + 1) z') pc (lvf (i + 1) z') st) → GG p l e R s m args below meth c Q cs A nL k n np ad (Tf i z) pc (lvf i z) st) :
    GG p l e R s m args below meth c Q cs A nL k n np ad (Tf i0 s0) pc (lvf i0 s0) st := by
  have key : ∀ (d i : Nat) (z : σ), inv i z → i + d = N → GG p l e R s m args below meth c Q cs A nL k n np ad (Tf i z) pc (lvf i z) st := by
    intro d
    induction d with
    | zero => exact fun i z h1 h2 => hs i z h1 (by omega) (fun z' h3 => absurd h3 (by omega))
    | succ d ih => exact fun i z h1 h2 => hs i z h1 (by omega) (fun z' h3 h4 => ih (i + 1) z' h4 (by omega))
  exact key (N - i0) i0 s0 h0 (by omega)
end
def exq (q : Prop) [Decidable q] (x : Nat) : Nat := if q then 0 else x
theorem exq_ne {q : Prop} [Decidable q] {x : Nat} (h : exq q x ≠ 0) : ¬ q := fun hq => h (if_pos hq)
theorem exq_eq {q : Prop} [Decidable q] {x : Nat} (h : exq q x = 0) (hx : x ≠ 0) : q := by
  unfold exq at h
  by_cases hq : q
  · exact hq
  · rw [if_neg hq] at h
    exact absurd h hx
theorem exq_t {q : Prop} [Decidable q] {x : Nat} (h : q) : exq q x = 0 := if_pos h
theorem exq_f {q : Prop} [Decidable q] {x : Nat} (h : ¬ q) : exq q x = x := if_neg h
abbrev szp (a : Int) : Prop := a = 1 ∨ a = 2 ∨ a = 4 ∨ a = 8 ∨ a = 16 ∨ a = 32 ∨ a = 64 ∨ a = 128 ∨ a = 256 ∨ a = 512 ∨ a = 1024 ∨ a = 2048
theorem szp_all : ∀ n : Nat, n < 2049 → ((zI (n : Int) &&& zI ((n : Int) - 1)) = zI 0 ↔ n = 0 ∨ szp n) := by decide +kernel
theorem szp_and {a : Int} (h : 1 ≤ a ∧ a ≤ 2048) : (zI a &&& zI (a - 1)).toInt = 0 ↔ szp a := by
  have h1 := szp_all a.toNat (by omega)
  have h2 : (a.toNat : Int) = a := by omega
  rw [h2] at h1
  rw [← Int32.toInt_inj, zI_toInt (by omega : -2147483648 ≤ (0 : Int) ∧ (0 : Int) < 2147483648)] at h1
  rw [h1]
  exact ⟨fun h => h.elim (fun h => absurd h (by omega)) id, Or.inr⟩
theorem rg32 (x : Int32) : -2147483648 ≤ x.toInt ∧ x.toInt < 2147483648 := ⟨Int32.le_toInt x, Int32.toInt_lt x⟩
/-- how many spans of x have an address of the block -/
def cnt (h q b z : Nat → Int) (x B S : Int) : Nat → Int
  | 0 => 0
  | j + 1 => cnt h q b z x B S j + (if h j ≠ 0 ∧ q j = x ∧ b j < B + S ∧ B < b j + z j then 1 else 0)
theorem cnt_bd (h q b z : Nat → Int) (x B S : Int) (j : Nat) : 0 ≤ cnt h q b z x B S j ∧ cnt h q b z x B S j ≤ j := by
  induction j with
  | zero => exact ⟨Int.le_refl 0, Int.le_refl 0⟩
  | succ j ih =>
    unfold cnt
    split <;> omega
/-- a number whose making the kernel does not look into -/
noncomputable def hid (v : Int) : Int := Classical.choose (⟨v, rfl⟩ : ∃ w : Int, w = v)
theorem hid_eq (v : Int) : hid v = v := Classical.choose_spec (⟨v, rfl⟩ : ∃ w : Int, w = v)
noncomputable def cntC (T : MT) (x B S : Int) (j : Nat) : Int := hid (cnt (T 1) (T 14) (T 15) (T 16) x B S j)
theorem cntC_eq (T : MT) (x B S : Int) (j : Nat) : cntC T x B S j = cnt (T 1) (T 14) (T 15) (T 16) x B S j := hid_eq _
theorem cntC_bd (T : MT) (x B S : Int) (j : Nat) : 0 ≤ cntC T x B S j ∧ cntC T x B S j ≤ j := by
  rw [cntC_eq]
  exact cnt_bd _ _ _ _ _ _ _ _
section
variable {p : Program} {l : Launch} {e : Env} {R : Room} {s : State} {m : MethodId} {args : Array Value} {below : List Frame} {meth : Method} {c : Code} {Q : State → Prop} {cs : CSt} {A : Nat → Prop} {nL : Nat}
variable {cc : ByteArray} {own : String} {rt : Option FieldType} {k n np : Nat} {ad : Nat → Nat} {T : MT} {pc : Nat} {lv : List (Option Value)} {st : List Value}
theorem g_getn_X0_7 (C : gC p l s m args meth c cs A nL cc RX0 rt) {x : Nat} (hq : 0 ≤ (x : Int) ∧ (x : Int) + 13 < np) (d : decode cc pc = .ok (.getfield 7, 3)) (kk : GG p l e R s m args below meth c Q cs A nL k n np ad T (pc + 3) lv (.int (zI (T 13 x)) :: st)) : GG p l e R s m args below meth c Q cs A nL k n np ad T pc lv (grf ad (x : Int) :: st) := g_get_X0_7 C hq d kk
theorem g_getn_X1_154 (C : gC p l s m args meth c cs A nL cc RX1 rt) {x : Nat} (hq : 0 ≤ (x : Int) ∧ (x : Int) + 13 < np) (d : decode cc pc = .ok (.getfield 154, 3)) (kk : GG p l e R s m args below meth c Q cs A nL k n np ad T (pc + 3) lv (.int (zI (T 13 x)) :: st)) : GG p l e R s m args below meth c Q cs A nL k n np ad T pc lv (grf ad (x : Int) :: st) := g_get_X1_154 C hq d kk
theorem g_getn_X0_13 (C : gC p l s m args meth c cs A nL cc RX0 rt) {x : Nat} (hq : 0 ≤ (x : Int) ∧ (x : Int) + 13 < np) (d : decode cc pc = .ok (.getfield 13, 3)) (kk : GG p l e R s m args below meth c Q cs A nL k n np ad T (pc + 3) lv (grf ad (T 14 x) :: st)) : GG p l e R s m args below meth c Q cs A nL k n np ad T pc lv (grf ad (x : Int) :: st) := g_get_X0_13 C hq d kk
theorem g_getn_X1_94 (C : gC p l s m args meth c cs A nL cc RX1 rt) {x : Nat} (hq : 0 ≤ (x : Int) ∧ (x : Int) + 13 < np) (d : decode cc pc = .ok (.getfield 94, 3)) (kk : GG p l e R s m args below meth c Q cs A nL k n np ad T (pc + 3) lv (grf ad (T 14 x) :: st)) : GG p l e R s m args below meth c Q cs A nL k n np ad T pc lv (grf ad (x : Int) :: st) := g_get_X1_94 C hq d kk
theorem g_getn_X0_17 (C : gC p l s m args meth c cs A nL cc RX0 rt) {x : Nat} (hq : 0 ≤ (x : Int) ∧ (x : Int) + 13 < np) (d : decode cc pc = .ok (.getfield 17, 3)) (kk : GG p l e R s m args below meth c Q cs A nL k n np ad T (pc + 3) lv (.int (zI (T 15 x)) :: st)) : GG p l e R s m args below meth c Q cs A nL k n np ad T pc lv (grf ad (x : Int) :: st) := g_get_X0_17 C hq d kk
theorem g_getn_X1_101 (C : gC p l s m args meth c cs A nL cc RX1 rt) {x : Nat} (hq : 0 ≤ (x : Int) ∧ (x : Int) + 13 < np) (d : decode cc pc = .ok (.getfield 101, 3)) (kk : GG p l e R s m args below meth c Q cs A nL k n np ad T (pc + 3) lv (.int (zI (T 15 x)) :: st)) : GG p l e R s m args below meth c Q cs A nL k n np ad T pc lv (grf ad (x : Int) :: st) := g_get_X1_101 C hq d kk
theorem g_getn_X0_20 (C : gC p l s m args meth c cs A nL cc RX0 rt) {x : Nat} (hq : 0 ≤ (x : Int) ∧ (x : Int) + 13 < np) (d : decode cc pc = .ok (.getfield 20, 3)) (kk : GG p l e R s m args below meth c Q cs A nL k n np ad T (pc + 3) lv (.int (zI (T 16 x)) :: st)) : GG p l e R s m args below meth c Q cs A nL k n np ad T pc lv (grf ad (x : Int) :: st) := g_get_X0_20 C hq d kk
theorem g_getn_X1_114 (C : gC p l s m args meth c cs A nL cc RX1 rt) {x : Nat} (hq : 0 ≤ (x : Int) ∧ (x : Int) + 13 < np) (d : decode cc pc = .ok (.getfield 114, 3)) (kk : GG p l e R s m args below meth c Q cs A nL k n np ad T (pc + 3) lv (.int (zI (T 16 x)) :: st)) : GG p l e R s m args below meth c Q cs A nL k n np ad T pc lv (grf ad (x : Int) :: st) := g_get_X1_114 C hq d kk
theorem g_getn_X0_23 (C : gC p l s m args meth c cs A nL cc RX0 rt) {x : Nat} (hq : 0 ≤ (x : Int) ∧ (x : Int) + 13 < np) (d : decode cc pc = .ok (.getfield 23, 3)) (kk : GG p l e R s m args below meth c Q cs A nL k n np ad T (pc + 3) lv (.int (zI (T 17 x)) :: st)) : GG p l e R s m args below meth c Q cs A nL k n np ad T pc lv (grf ad (x : Int) :: st) := g_get_X0_23 C hq d kk
theorem g_getn_X1_125 (C : gC p l s m args meth c cs A nL cc RX1 rt) {x : Nat} (hq : 0 ≤ (x : Int) ∧ (x : Int) + 13 < np) (d : decode cc pc = .ok (.getfield 125, 3)) (kk : GG p l e R s m args below meth c Q cs A nL k n np ad T (pc + 3) lv (.int (zI (T 17 x)) :: st)) : GG p l e R s m args below meth c Q cs A nL k n np ad T pc lv (grf ad (x : Int) :: st) := g_get_X1_125 C hq d kk
end
end
section
/-! Span: end, has, meets -/
theorem k_X0_end {l : Launch} {cs : CSt} {np : Nat} {ad : Nat → Nat} {T : MT} (x : Int) (hx : 0 ≤ x ∧ x + 13 < np) : KD l cs yX0_end (Cond.code yX0_end cX0_end 1 (some .int) :: GW) 0 0 0 [grf ad x] np ad T 0 (some (.int (zI (T 15 x.toNat + T 16 x.toNat)))) (np, ad, T) := by
  refine KC_of (cc := cX0_end) (nL := 1) (rt := (some .int)) (by decide) (by simp [grf_cat, cat_int, cat_ref]) (by simp) ?_
  intro p e s m args below meth c A C hE hin
  refine g_eq (lv2 := [some (grf ad x)]) rfl rfl rfl ?_
  refine g_sload_0 C dX0_end_0 ?_
  first | refine g_getn_X0_17 C (by omega) dX0_end_1 ?_ | refine g_get_X0_17 C (by omega) dX0_end_1 ?_
  refine g_sload_0 C dX0_end_4 ?_
  first | refine g_getn_X0_20 C (by omega) dX0_end_5 ?_ | refine g_get_X0_20 C (by omega) dX0_end_5 ?_
  refine g_iadd C dX0_end_8 ?_
  refine g_iret C (Nat.le_of_ble_eq_true rfl) (Nat.le_of_ble_eq_true rfl) dX0_end_9 ?_
  exact ⟨rfl, rfl, rfl⟩
theorem k_X0_has {l : Launch} {cs : CSt} {np : Nat} {ad : Nat → Nat} {T : MT} (x a : Int) (hx : 0 ≤ x ∧ x + 13 < np) (hb : 0 ≤ T 15 x.toNat ∧ 0 ≤ T 16 x.toNat ∧ T 15 x.toNat + T 16 x.toNat ≤ 4096) (ha : -2147483648 ≤ a ∧ a < 2147483648) : KD l cs yX0_has (Cond.code yX0_has cX0_has 2 (some .boolean) :: GW) 1 0 0 [grf ad x, .int (zI a)] np ad T 0 (some (.int (zI (if T 15 x.toNat ≤ a ∧ a < T 15 x.toNat + T 16 x.toNat then 1 else 0)))) (np, ad, T) := by
  refine KC_of (cc := cX0_has) (nL := 2) (rt := (some .boolean)) (by decide) (by simp [grf_cat, cat_int, cat_ref]) (by simp) ?_
  intro p e s m args below meth c A C hE hin
  refine g_eq (lv2 := [some (grf ad x), some (.int (zI a))]) rfl rfl rfl ?_
  refine g_iload_1 C dX0_has_0 ?_
  refine g_sload_0 C dX0_has_1 ?_
  first | refine g_getn_X0_17 C (by omega) dX0_has_2 ?_ | refine g_get_X0_17 C (by omega) dX0_has_2 ?_
  refine g_icmp_lt (tgt := 20) C dX0_has_5 (by decide) (by omega) (by omega) (fun h5 => ?_) (fun h5 => ?_)
  · refine g_iconst C dX0_has_20 ?_
    refine g_zret C (by omega) (Nat.le_of_ble_eq_true rfl) (Nat.le_of_ble_eq_true rfl) dX0_has_21 ?_
    exact ⟨rfl, by rw [if_neg (by omega)], rfl⟩
  · refine g_iload_1 C dX0_has_8 ?_
    refine g_sload_0 C dX0_has_9 ?_
    refine g_cS0Pv C cs_X0_26 (k_X0_end x hx) ⟨Nat.le_of_ble_eq_true rfl, Nat.le_of_ble_eq_true rfl⟩ (by omega) (Nat.le_of_ble_eq_true rfl) ⟨Nat.le_of_ble_eq_true rfl, Nat.le_of_ble_eq_true rfl⟩ dX0_has_10 ?_
    refine g_icmp_ge (tgt := 20) C dX0_has_13 (by decide) (by omega) (by omega) (fun h13 => ?_) (fun h13 => ?_)
    · refine g_iconst C dX0_has_20 ?_
      refine g_zret C (by omega) (Nat.le_of_ble_eq_true rfl) (Nat.le_of_ble_eq_true rfl) dX0_has_21 ?_
      exact ⟨rfl, by rw [if_neg (by omega)], rfl⟩
    · refine g_iconst C dX0_has_16 ?_
      refine g_goto (tgt := 21) C dX0_has_17 (by decide) ?_
      refine g_zret C (by omega) (Nat.le_of_ble_eq_true rfl) (Nat.le_of_ble_eq_true rfl) dX0_has_21 ?_
      exact ⟨rfl, by rw [if_pos (by omega)], rfl⟩
theorem k_X0_meets {l : Launch} {cs : CSt} {np : Nat} {ad : Nat → Nat} {T : MT} (x B S : Int) (hx : 0 ≤ x ∧ x + 13 < np) (hb : 0 ≤ T 15 x.toNat ∧ 0 ≤ T 16 x.toNat ∧ T 15 x.toNat + T 16 x.toNat ≤ 4096) (ha : -4096 ≤ B ∧ B ≤ 8192 ∧ 0 ≤ S ∧ S ≤ 8192) : KD l cs yX0_meets (Cond.code yX0_meets cX0_meets 3 (some .boolean) :: GW) 1 0 0 [grf ad x, .int (zI B), .int (zI S)] np ad T 0 (some (.int (zI (if T 15 x.toNat < B + S ∧ B < T 15 x.toNat + T 16 x.toNat then 1 else 0)))) (np, ad, T) := by
  refine KC_of (cc := cX0_meets) (nL := 3) (rt := (some .boolean)) (by decide) (by simp [grf_cat, cat_int, cat_ref]) (by simp) ?_
  intro p e s m args below meth c A C hE hin
  refine g_eq (lv2 := [some (grf ad x), some (.int (zI B)), some (.int (zI S))]) rfl rfl rfl ?_
  refine g_sload_0 C dX0_meets_0 ?_
  first | refine g_getn_X0_17 C (by omega) dX0_meets_1 ?_ | refine g_get_X0_17 C (by omega) dX0_meets_1 ?_
  refine g_iload_1 C dX0_meets_4 ?_
  refine g_iload_2 C dX0_meets_5 ?_
  refine g_iadd C dX0_meets_6 ?_
  refine g_icmp_ge (tgt := 22) C dX0_meets_7 (by decide) (by omega) (by omega) (fun h7 => ?_) (fun h7 => ?_)
  · refine g_iconst C dX0_meets_22 ?_
    refine g_zret C (by omega) (Nat.le_of_ble_eq_true rfl) (Nat.le_of_ble_eq_true rfl) dX0_meets_23 ?_
    exact ⟨rfl, by rw [if_neg (by omega)], rfl⟩
  · refine g_iload_1 C dX0_meets_10 ?_
    refine g_sload_0 C dX0_meets_11 ?_
    refine g_cS0Pv C cs_X0_26 (k_X0_end x hx) ⟨Nat.le_of_ble_eq_true rfl, Nat.le_of_ble_eq_true rfl⟩ (by omega) (Nat.le_of_ble_eq_true rfl) ⟨Nat.le_of_ble_eq_true rfl, Nat.le_of_ble_eq_true rfl⟩ dX0_meets_12 ?_
    refine g_icmp_ge (tgt := 22) C dX0_meets_15 (by decide) (by omega) (by omega) (fun h15 => ?_) (fun h15 => ?_)
    · refine g_iconst C dX0_meets_22 ?_
      refine g_zret C (by omega) (Nat.le_of_ble_eq_true rfl) (Nat.le_of_ble_eq_true rfl) dX0_meets_23 ?_
      exact ⟨rfl, by rw [if_neg (by omega)], rfl⟩
    · refine g_iconst C dX0_meets_18 ?_
      refine g_goto (tgt := 23) C dX0_meets_19 (by decide) ?_
      refine g_zret C (by omega) (Nat.le_of_ble_eq_true rfl) (Nat.le_of_ble_eq_true rfl) dX0_meets_23 ?_
      exact ⟨rfl, by rw [if_pos (by omega)], rfl⟩
theorem kn_X0_end {l : Launch} {cs : CSt} {np : Nat} {ad : Nat → Nat} {T : MT} (x : Nat) (hx : 0 ≤ (x : Int) ∧ (x : Int) + 13 < np) : KD l cs yX0_end (Cond.code yX0_end cX0_end 1 (some .int) :: GW) 0 0 0 [grf ad (x : Int)] np ad T 0 (some (.int (zI (T 15 x + T 16 x)))) (np, ad, T) := k_X0_end x hx
theorem kn_X0_has {l : Launch} {cs : CSt} {np : Nat} {ad : Nat → Nat} {T : MT} (x : Nat) (a : Int) (hx : 0 ≤ (x : Int) ∧ (x : Int) + 13 < np) (hb : 0 ≤ T 15 x ∧ 0 ≤ T 16 x ∧ T 15 x + T 16 x ≤ 4096) (ha : -2147483648 ≤ a ∧ a < 2147483648) : KD l cs yX0_has (Cond.code yX0_has cX0_has 2 (some .boolean) :: GW) 1 0 0 [grf ad (x : Int), .int (zI a)] np ad T 0 (some (.int (zI (if T 15 x ≤ a ∧ a < T 15 x + T 16 x then 1 else 0)))) (np, ad, T) := k_X0_has x a hx hb ha
theorem kn_X0_meets {l : Launch} {cs : CSt} {np : Nat} {ad : Nat → Nat} {T : MT} (x : Nat) (B S : Int) (hx : 0 ≤ (x : Int) ∧ (x : Int) + 13 < np) (hb : 0 ≤ T 15 x ∧ 0 ≤ T 16 x ∧ T 15 x + T 16 x ≤ 4096) (ha : -4096 ≤ B ∧ B ≤ 8192 ∧ 0 ≤ S ∧ S ≤ 8192) : KD l cs yX0_meets (Cond.code yX0_meets cX0_meets 3 (some .boolean) :: GW) 1 0 0 [grf ad (x : Int), .int (zI B), .int (zI S)] np ad T 0 (some (.int (zI (if T 15 x < B + S ∧ B < T 15 x + T 16 x then 1 else 0)))) (np, ad, T) := k_X0_meets x B S hx hb ha
end
section
/-! the class: what the calls ask of their arguments; children -/
theorem k_X1_findSpan {l : Launch} {cs : CSt} {np : Nat} {ad : Nat → Nat} {T : MT} (a : Int) (h13 : 13 ≤ np) (ha : -2147483648 ≤ a ∧ a < 2147483648) : KD l cs yX1_findSpan (Cond.code yX1_findSpan cX1_findSpan 2 (some (.object "PrefixYard$Span")) :: GW) 0 0 0 [.ref (ad 0), .int (zI a)] np ad T 0 (some (grf ad (fsp T a))) (np, ad, T) := by
  refine KC_of (cc := cX1_findSpan) (nL := 2) (rt := (some (.object "PrefixYard$Span"))) (by decide) (by simp [grf_cat, cat_int, cat_ref]) (by simp) ?_
  intro p e s m args below meth c A C hE hin
  refine g_eq (lv2 := [some (.ref (ad 0)), some (.int (zI a))]) rfl rfl rfl ?_
  refine g_iload_1 (pc := 0) C dX1_findSpan_0 ?_
  refine g_if_lt (pc := 1) (tgt := 13) C dX1_findSpan_1 (by decide) (by omega) (fun h1 => ?_) (fun h1 => ?_)
  · refine g_snull (pc := 13) C dX1_findSpan_13 ?_
    refine g_goto (pc := 14) (tgt := 23) C dX1_findSpan_14 (by decide) ?_
    refine g_aret (pc := 23) C grf_or (Nat.le_of_ble_eq_true rfl) (Nat.le_of_ble_eq_true rfl) dX1_findSpan_23 ?_
    exact ⟨rfl, by rw [fsp, if_neg (by omega)], rfl⟩
  · refine g_iload_1 (pc := 4) C dX1_findSpan_4 ?_
    refine g_aload_0 (pc := 5) C dX1_findSpan_5 ?_
    refine g_get_X1_18 (pc := 6) C (by omega) dX1_findSpan_6 ?_
    refine g_alen1 (pc := 9) C (by omega) dX1_findSpan_9 ?_
    refine g_icmp_lt (pc := 10) (tgt := 17) C dX1_findSpan_10 (by decide) (by omega) (by omega) (fun h10 => ?_) (fun h10 => ?_)
    · refine g_aload_0 (pc := 17) C dX1_findSpan_17 ?_
      refine g_get_X1_18 (pc := 18) C (by omega) dX1_findSpan_18 ?_
      refine g_iload_1 (pc := 21) C dX1_findSpan_21 ?_
      first | refine g_aaldn (pc := 22) C (by omega) (by omega) dX1_findSpan_22 ?_ | refine g_aald (pc := 22) C (by omega) (by omega) dX1_findSpan_22 ?_
      refine g_aret (pc := 23) C grf_or (Nat.le_of_ble_eq_true rfl) (Nat.le_of_ble_eq_true rfl) dX1_findSpan_23 ?_
      exact ⟨rfl, by rw [fsp, if_pos (by omega)], rfl⟩
    · refine g_snull (pc := 13) C dX1_findSpan_13 ?_
      refine g_goto (pc := 14) (tgt := 23) C dX1_findSpan_14 (by decide) ?_
      refine g_aret (pc := 23) C grf_or (Nat.le_of_ble_eq_true rfl) (Nat.le_of_ble_eq_true rfl) dX1_findSpan_23 ?_
      exact ⟨rfl, by rw [fsp, if_neg (by omega)], rfl⟩
theorem k_X1_spanOf {l : Launch} {cs : CSt} {np : Nat} {ad : Nat → Nat} {T : MT} (a : Int) (h13 : 13 ≤ np) (ha : -2147483648 ≤ a ∧ a < 2147483648) : KD l cs yX1_spanOf (Cond.code yX1_spanOf cX1_spanOf 3 (some (.object "PrefixYard$Span")) :: GW) 6 1 6 [.ref (ad 0), .int (zI a)] np ad T (exq (0 ≤ fsp T a) 1) (some (grf ad (fsp T a))) (np, ad, T) := by
  refine KC_of (cc := cX1_spanOf) (nL := 3) (rt := (some (.object "PrefixYard$Span"))) (by decide) (by simp [grf_cat, cat_int, cat_ref]) (by simp) ?_
  intro p e s m args below meth c A C hE hin
  refine g_eq (lv2 := [some (.ref (ad 0)), some (.int (zI a)), none]) rfl rfl rfl ?_
  refine g_aload_0 (pc := 0) C dX1_spanOf_0 ?_
  refine g_iload_1 (pc := 1) C dX1_spanOf_1 ?_
  refine g_cY1Pv (pc := 2) C cs_X1_151 (k_X1_findSpan a h13 ha) ⟨Nat.le_of_ble_eq_true rfl, Nat.le_of_ble_eq_true rfl⟩ (by omega) (Nat.le_of_ble_eq_true rfl) ⟨Nat.le_of_ble_eq_true rfl, Nat.le_of_ble_eq_true rfl⟩ dX1_spanOf_2 ?_
  refine g_sstore_2 (pc := 5) C dX1_spanOf_5 ?_
  refine g_sload_2 (pc := 6) C dX1_spanOf_6 ?_
  refine g_ifnonnull (pc := 7) (tgt := 20) C dX1_spanOf_7 (by decide) (fun h7 => ?_) (fun h7 => ?_)
  · refine g_sload_2 (pc := 20) C dX1_spanOf_20 ?_
    refine g_aret (pc := 21) C grf_or (Nat.le_of_ble_eq_true rfl) (Nat.le_of_ble_eq_true rfl) dX1_spanOf_21 ?_
    exact ⟨exq_t (by omega), rfl, rfl⟩
  · refine g_throw_1 (pc := 10) C hE (text := "no such span") (by decide) dX1_spanOf_10 dX1_spanOf_13 dX1_spanOf_14 dX1_spanOf_16 dX1_spanOf_19 ⟨Nat.le_of_ble_eq_true rfl, Nat.le_of_ble_eq_true rfl, Nat.le_of_ble_eq_true rfl, Nat.le_of_ble_eq_true rfl⟩ ⟨Nat.le_of_ble_eq_true rfl, Nat.le_of_ble_eq_true rfl⟩ ?_
    exact ⟨by rw [exq_f (by omega)]; decide, by rw [exq_f (by omega)], rfl⟩
theorem k_X1_isAddress {l : Launch} {cs : CSt} {np : Nat} {ad : Nat → Nat} {T : MT} (a : Int) (ha : -2147483648 ≤ a ∧ a < 2147483648) : KD l cs yX1_isAddress (Cond.code yX1_isAddress cX1_isAddress 1 (some .boolean) :: GW) 0 0 0 [.int (zI a)] np ad T 0 (some (.int (zI (if 0 ≤ a ∧ a < 4096 then 1 else 0)))) (np, ad, T) := by
  refine KC_of (cc := cX1_isAddress) (nL := 1) (rt := (some .boolean)) (by decide) (by simp [grf_cat, cat_int, cat_ref]) (by simp) ?_
  intro p e s m args below meth c A C hE hin
  refine g_eq (lv2 := [some (.int (zI a))]) rfl rfl rfl ?_
  refine g_iload_0 (pc := 0) C dX1_isAddress_0 ?_
  refine g_if_lt (pc := 1) (tgt := 15) C dX1_isAddress_1 (by decide) (by omega) (fun h1 => ?_) (fun h1 => ?_)
  · refine g_iconst (pc := 15) C dX1_isAddress_15 ?_
    refine g_zret (pc := 16) C (by omega) (Nat.le_of_ble_eq_true rfl) (Nat.le_of_ble_eq_true rfl) dX1_isAddress_16 ?_
    exact ⟨rfl, by rw [if_neg (by omega)], rfl⟩
  · refine g_iload_0 (pc := 4) C dX1_isAddress_4 ?_
    refine g_sipush (pc := 5) C dX1_isAddress_5 (by decide) ?_
    refine g_icmp_ge (pc := 8) (tgt := 15) C dX1_isAddress_8 (by decide) (by omega) (by omega) (fun h8 => ?_) (fun h8 => ?_)
    · refine g_iconst (pc := 15) C dX1_isAddress_15 ?_
      refine g_zret (pc := 16) C (by omega) (Nat.le_of_ble_eq_true rfl) (Nat.le_of_ble_eq_true rfl) dX1_isAddress_16 ?_
      exact ⟨rfl, by rw [if_neg (by omega)], rfl⟩
    · refine g_iconst (pc := 11) C dX1_isAddress_11 ?_
      refine g_goto (pc := 12) (tgt := 16) C dX1_isAddress_12 (by decide) ?_
      refine g_zret (pc := 16) C (by omega) (Nat.le_of_ble_eq_true rfl) (Nat.le_of_ble_eq_true rfl) dX1_isAddress_16 ?_
      exact ⟨rfl, by rw [if_pos (by omega)], rfl⟩
theorem k_X1_checkAddress {l : Launch} {cs : CSt} {np : Nat} {ad : Nat → Nat} {T : MT} (a : Int) (ha : -2147483648 ≤ a ∧ a < 2147483648) : KD l cs yX1_checkAddress (Cond.code yX1_checkAddress cX1_checkAddress 1 none :: GW) 6 1 6 [.int (zI a)] np ad T (exq (0 ≤ a ∧ a < 4096) 1) none (np, ad, T) := by
  refine KC_of (cc := cX1_checkAddress) (nL := 1) (rt := none) (by decide) (by simp [grf_cat, cat_int, cat_ref]) (by simp) ?_
  intro p e s m args below meth c A C hE hin
  refine g_eq (lv2 := [some (.int (zI a))]) rfl rfl rfl ?_
  refine g_iload_0 (pc := 0) C dX1_checkAddress_0 ?_
  refine g_cT1Pv (pc := 1) C cs_X1_136 (k_X1_isAddress a ha) ⟨Nat.le_of_ble_eq_true rfl, Nat.le_of_ble_eq_true rfl⟩ (Nat.le_of_ble_eq_true rfl) ⟨Nat.le_of_ble_eq_true rfl, Nat.le_of_ble_eq_true rfl⟩ dX1_checkAddress_1 ?_
  refine g_if_ne (pc := 4) (tgt := 17) C dX1_checkAddress_4 (by decide) (by split <;> omega) (fun h4 => ?_) (fun h4 => ?_)
  · refine g_vret (pc := 17) C (Nat.le_of_ble_eq_true rfl) (Nat.le_of_ble_eq_true rfl) dX1_checkAddress_17 ?_
    exact ⟨exq_t (by split at h4 <;> first | assumption | omega), rfl, rfl⟩
  · refine g_throw_1 (pc := 7) C hE (text := "no such address") (by decide) dX1_checkAddress_7 dX1_checkAddress_10 dX1_checkAddress_11 dX1_checkAddress_13 dX1_checkAddress_16 ⟨Nat.le_of_ble_eq_true rfl, Nat.le_of_ble_eq_true rfl, Nat.le_of_ble_eq_true rfl, Nat.le_of_ble_eq_true rfl⟩ ⟨Nat.le_of_ble_eq_true rfl, Nat.le_of_ble_eq_true rfl⟩ ?_
    have h5 : ¬ (0 ≤ a ∧ a < 4096) := by split at h4 <;> first | assumption | omega
    exact ⟨by rw [exq_f h5]; decide, by rw [exq_f h5], rfl⟩
theorem k_X1_checkSize {l : Launch} {cs : CSt} {np : Nat} {ad : Nat → Nat} {T : MT} (a : Int) (ha : -2147483648 ≤ a ∧ a < 2147483648) : KD l cs yX1_checkSize (Cond.code yX1_checkSize cX1_checkSize 1 none :: GW) 6 1 6 [.int (zI a)] np ad T (exq (szp a) 2) none (np, ad, T) := by
  refine KC_of (cc := cX1_checkSize) (nL := 1) (rt := none) (by decide) (by simp [grf_cat, cat_int, cat_ref]) (by simp) ?_
  intro p e s m args below meth c A C hE hin
  refine g_eq (lv2 := [some (.int (zI a))]) rfl rfl rfl ?_
  refine g_iload_0 (pc := 0) C dX1_checkSize_0 ?_
  refine g_iconst (pc := 1) C dX1_checkSize_1 ?_
  refine g_icmp_lt (pc := 2) (tgt := 20) C dX1_checkSize_2 (by decide) (by omega) (by omega) (fun h2 => ?_) (fun h2 => ?_)
  · refine g_throw_2 (pc := 20) C hE (text := "the size is not 1 to 2048, or no power of 2") (by decide) dX1_checkSize_20 dX1_checkSize_23 dX1_checkSize_24 dX1_checkSize_26 dX1_checkSize_29 ⟨Nat.le_of_ble_eq_true rfl, Nat.le_of_ble_eq_true rfl, Nat.le_of_ble_eq_true rfl, Nat.le_of_ble_eq_true rfl⟩ ⟨Nat.le_of_ble_eq_true rfl, Nat.le_of_ble_eq_true rfl⟩ ?_
    have h5 : ¬ szp a := by unfold szp; omega
    exact ⟨by rw [exq_f h5]; decide, by rw [exq_f h5], rfl⟩
  · refine g_iload_0 (pc := 5) C dX1_checkSize_5 ?_
    refine g_sipush (pc := 6) C dX1_checkSize_6 (by decide) ?_
    refine g_icmp_gt (pc := 9) (tgt := 20) C dX1_checkSize_9 (by decide) (by omega) (by omega) (fun h9 => ?_) (fun h9 => ?_)
    · refine g_throw_2 (pc := 20) C hE (text := "the size is not 1 to 2048, or no power of 2") (by decide) dX1_checkSize_20 dX1_checkSize_23 dX1_checkSize_24 dX1_checkSize_26 dX1_checkSize_29 ⟨Nat.le_of_ble_eq_true rfl, Nat.le_of_ble_eq_true rfl, Nat.le_of_ble_eq_true rfl, Nat.le_of_ble_eq_true rfl⟩ ⟨Nat.le_of_ble_eq_true rfl, Nat.le_of_ble_eq_true rfl⟩ ?_
      have h5 : ¬ szp a := by unfold szp; omega
      exact ⟨by rw [exq_f h5]; decide, by rw [exq_f h5], rfl⟩
    · have h6 := szp_and (a := a) (by omega)
      have h7 := rg32 (zI a &&& zI (a - 1))
      refine g_iload_0 (pc := 12) C dX1_checkSize_12 ?_
      refine g_iload_0 (pc := 13) C dX1_checkSize_13 ?_
      refine g_iconst (pc := 14) C dX1_checkSize_14 ?_
      refine g_isub (pc := 15) C dX1_checkSize_15 ?_
      refine g_iandz (pc := 16) C dX1_checkSize_16 (zI_self _).symm ?_
      refine g_if_eq (pc := 17) (tgt := 30) C dX1_checkSize_17 (by decide) (by omega) (fun h17 => ?_) (fun h17 => ?_)
      · refine g_vret (pc := 30) C (Nat.le_of_ble_eq_true rfl) (Nat.le_of_ble_eq_true rfl) dX1_checkSize_30 ?_
        exact ⟨exq_t (h6.mp h17), rfl, rfl⟩
      · refine g_throw_2 (pc := 20) C hE (text := "the size is not 1 to 2048, or no power of 2") (by decide) dX1_checkSize_20 dX1_checkSize_23 dX1_checkSize_24 dX1_checkSize_26 dX1_checkSize_29 ⟨Nat.le_of_ble_eq_true rfl, Nat.le_of_ble_eq_true rfl, Nat.le_of_ble_eq_true rfl, Nat.le_of_ble_eq_true rfl⟩ ⟨Nat.le_of_ble_eq_true rfl, Nat.le_of_ble_eq_true rfl⟩ ?_
        have h5 : ¬ szp a := fun h => h17 (h6.mpr h)
        exact ⟨by rw [exq_f h5]; decide, by rw [exq_f h5], rfl⟩
theorem k_X1_checkOwner {l : Launch} {cs : CSt} {np : Nat} {ad : Nat → Nat} {T : MT} (a : Int) (ha : -2147483648 ≤ a ∧ a < 2147483648) : KD l cs yX1_checkOwner (Cond.code yX1_checkOwner cX1_checkOwner 1 none :: GW) 6 1 6 [.int (zI a)] np ad T (exq (0 ≤ a ∧ a < 8) 2) none (np, ad, T) := by
  refine KC_of (cc := cX1_checkOwner) (nL := 1) (rt := none) (by decide) (by simp [grf_cat, cat_int, cat_ref]) (by simp) ?_
  intro p e s m args below meth c A C hE hin
  refine g_eq (lv2 := [some (.int (zI a))]) rfl rfl rfl ?_
  refine g_iload_0 (pc := 0) C dX1_checkOwner_0 ?_
  refine g_if_lt (pc := 1) (tgt := 10) C dX1_checkOwner_1 (by decide) (by omega) (fun h1 => ?_) (fun h1 => ?_)
  · refine g_throw_2 (pc := 10) C hE (text := "the owner is not 0 to 7") (by decide) dX1_checkOwner_10 dX1_checkOwner_13 dX1_checkOwner_14 dX1_checkOwner_16 dX1_checkOwner_19 ⟨Nat.le_of_ble_eq_true rfl, Nat.le_of_ble_eq_true rfl, Nat.le_of_ble_eq_true rfl, Nat.le_of_ble_eq_true rfl⟩ ⟨Nat.le_of_ble_eq_true rfl, Nat.le_of_ble_eq_true rfl⟩ ?_
    have h5 : ¬ (0 ≤ a ∧ a < 8) := by omega
    exact ⟨by rw [exq_f h5]; decide, by rw [exq_f h5], rfl⟩
  · refine g_iload_0 (pc := 4) C dX1_checkOwner_4 ?_
    refine g_bipush (pc := 5) C dX1_checkOwner_5 (by decide) ?_
    refine g_icmp_lt (pc := 7) (tgt := 20) C dX1_checkOwner_7 (by decide) (by omega) (by omega) (fun h7 => ?_) (fun h7 => ?_)
    · refine g_vret (pc := 20) C (Nat.le_of_ble_eq_true rfl) (Nat.le_of_ble_eq_true rfl) dX1_checkOwner_20 ?_
      exact ⟨exq_t (by omega), rfl, rfl⟩
    · refine g_throw_2 (pc := 10) C hE (text := "the owner is not 0 to 7") (by decide) dX1_checkOwner_10 dX1_checkOwner_13 dX1_checkOwner_14 dX1_checkOwner_16 dX1_checkOwner_19 ⟨Nat.le_of_ble_eq_true rfl, Nat.le_of_ble_eq_true rfl, Nat.le_of_ble_eq_true rfl, Nat.le_of_ble_eq_true rfl⟩ ⟨Nat.le_of_ble_eq_true rfl, Nat.le_of_ble_eq_true rfl⟩ ?_
      have h5 : ¬ (0 ≤ a ∧ a < 8) := by omega
      exact ⟨by rw [exq_f h5]; decide, by rw [exq_f h5], rfl⟩
theorem k_X1_countChildren {l : Launch} {cs : CSt} {np : Nat} {ad : Nat → Nat} {T : MT} (hV : VC np T) (x B S : Int) (hx : 0 ≤ x ∧ x + 13 < np) (hB : -4096 ≤ B ∧ B ≤ 8192 ∧ 0 ≤ S ∧ S ≤ 8192) : KD l cs yX1_countChildren (Cond.code yX1_countChildren cX1_countChildren 9 (some .int) :: GW) 2 0 0 [.ref (ad 0), grf ad x, .int (zI B), .int (zI S)] np ad T 0 (some (.int (zI (cntC T x B S 60)))) (np, ad, T) := by
  have hV0 := hV.1
  refine KC_of (cc := cX1_countChildren) (nL := 9) (rt := (some .int)) (by decide) (by simp [grf_cat, cat_int, cat_ref]) (by simp) ?_
  intro p e s m args below meth c A C hE hin
  refine g_eq (lv2 := [some (.ref (ad 0)), some (grf ad x), some (.int (zI B)), some (.int (zI S)), none, none, none, none, none]) rfl rfl rfl ?_
  refine g_iconst (pc := 0) C dX1_countChildren_0 ?_
  refine g_istore_4 (pc := 1) C dX1_countChildren_1 ?_
  refine g_aload_0 (pc := 3) C dX1_countChildren_3 ?_
  refine g_get_X1_18 (pc := 4) C (by omega) dX1_countChildren_4 ?_
  refine g_astore_5 (pc := 7) C dX1_countChildren_7 ?_
  refine g_aload_5 (pc := 9) C dX1_countChildren_9 ?_
  refine g_alen1 (pc := 11) C (by omega) dX1_countChildren_11 ?_
  refine g_istore_6 (pc := 12) C dX1_countChildren_12 ?_
  refine g_iconst (pc := 14) C dX1_countChildren_14 ?_
  refine g_istore_7 (pc := 15) C dX1_countChildren_15 ?_
  refine g_loop (σ := Option Value) (Tf := fun _ _ => T) (lvf := fun j a8 => [some (.ref (ad 0)), some (grf ad x), some (.int (zI B)), some (.int (zI S)), some (.int (zI (cnt (T 1) (T 14) (T 15) (T 16) x B S j))), some (.ref (ad 1)), some (.int (zI 60)), some (.int (zI (j : Int))), a8]) (inv := fun _ _ => True) (N := 60) 0 none trivial (by omega) (fun j a8 _ hN ih => ?_)
  refine g_iload_7 (pc := 17) C dX1_countChildren_17 ?_
  refine g_iload_6 (pc := 19) C dX1_countChildren_19 ?_
  refine g_icmp_ge (pc := 21) (tgt := 64) C dX1_countChildren_21 (by decide) (by omega) (by omega) (fun h21 => ?_) (fun h21 => ?_)
  · refine g_iload_4 (pc := 64) C dX1_countChildren_64 ?_
    refine g_iret (pc := 66) C (Nat.le_of_ble_eq_true rfl) (Nat.le_of_ble_eq_true rfl) dX1_countChildren_66 ?_
    obtain rfl : j = 60 := by omega
    exact ⟨rfl, by rw [cntC_eq], rfl⟩
  · have hj := hV.2 j (by omega)
    have e9 : cnt (T 1) (T 14) (T 15) (T 16) x B S (j + 1) = cnt (T 1) (T 14) (T 15) (T 16) x B S j + (if T 1 j ≠ 0 ∧ T 14 j = x ∧ T 15 j < B + S ∧ B < T 15 j + T 16 j then 1 else 0) := rfl
    refine g_aload_5 (pc := 24) C dX1_countChildren_24 ?_
    refine g_iload_7 (pc := 26) C dX1_countChildren_26 ?_
    first | refine g_aaldn (pc := 28) C (by omega) (by omega) dX1_countChildren_28 ?_ | refine g_aald (pc := 28) C (by omega) (by omega) dX1_countChildren_28 ?_
    rcases mkd_or T j with ⟨m1, m2⟩ | ⟨m1, m2⟩
    · rw [m2]
      refine g_sstore_8 (pc := 29) C dX1_countChildren_29 ?_
      refine g_sload_8 (pc := 31) C dX1_countChildren_31 ?_
      refine g_ifnull (pc := 33) (tgt := 58) C dX1_countChildren_33 (by decide) (fun h33 => ?_) (fun h33 => ?_)
      · refine g_iinc_7 (pc := 58) C dX1_countChildren_58 ?_
        refine g_goto (pc := 61) (tgt := 17) C dX1_countChildren_61 (by decide) ?_
        rw [if_neg (by omega)] at e9
        exact g_eq rfl (by rw [e9, Int.add_zero]; rfl) rfl (ih _ (by omega) trivial)
      · omega
    · rw [m2]
      refine g_sstore_8 (pc := 29) C dX1_countChildren_29 ?_
      refine g_sload_8 (pc := 31) C dX1_countChildren_31 ?_
      refine g_ifnull (pc := 33) (tgt := 58) C dX1_countChildren_33 (by decide) (fun h33 => ?_) (fun h33 => ?_)
      · omega
      · refine g_sload_8 (pc := 36) C dX1_countChildren_36 ?_
        first | refine g_getn_X1_94 (pc := 38) C (by omega) dX1_countChildren_38 ?_ | refine g_get_X1_94 (pc := 38) C (by omega) dX1_countChildren_38 ?_
        refine g_sload_1 (pc := 41) C dX1_countChildren_41 ?_
        refine g_acmp_ne (pc := 42) (tgt := 58) C dX1_countChildren_42 (by decide) (by omega) (by omega) (fun h42 => ?_) (fun h42 => ?_)
        · refine g_iinc_7 (pc := 58) C dX1_countChildren_58 ?_
          refine g_goto (pc := 61) (tgt := 17) C dX1_countChildren_61 (by decide) ?_
          rw [if_neg (by omega)] at e9
          exact g_eq rfl (by rw [e9, Int.add_zero]; rfl) rfl (ih _ (by omega) trivial)
        · refine g_sload_8 (pc := 45) C dX1_countChildren_45 ?_
          refine g_iload_2 (pc := 47) C dX1_countChildren_47 ?_
          refine g_iload_3 (pc := 48) C dX1_countChildren_48 ?_
          refine g_cS2Pv (pc := 49) C cs_X1_193 (kn_X0_meets j B S (by omega) (by omega) (by omega)) ⟨Nat.le_of_ble_eq_true rfl, Nat.le_of_ble_eq_true rfl⟩ (by omega) (Nat.le_of_ble_eq_true rfl) ⟨Nat.le_of_ble_eq_true rfl, Nat.le_of_ble_eq_true rfl⟩ dX1_countChildren_49 ?_
          refine g_if_eq (pc := 52) (tgt := 58) C dX1_countChildren_52 (by decide) (by split <;> omega) (fun h52 => ?_) (fun h52 => ?_)
          · refine g_iinc_7 (pc := 58) C dX1_countChildren_58 ?_
            refine g_goto (pc := 61) (tgt := 17) C dX1_countChildren_61 (by decide) ?_
            rw [if_neg (by split at h52 <;> omega)] at e9
            exact g_eq rfl (by rw [e9, Int.add_zero]; rfl) rfl (ih _ (by omega) trivial)
          · refine g_iinc_4 (pc := 55) C dX1_countChildren_55 ?_
            refine g_iinc_7 (pc := 58) C dX1_countChildren_58 ?_
            refine g_goto (pc := 61) (tgt := 17) C dX1_countChildren_61 (by decide) ?_
            rw [if_pos (by split at h52 <;> omega)] at e9
            exact g_eq rfl (by rw [e9]; rfl) rfl (ih _ (by omega) trivial)
theorem k_X1_hasChildren {l : Launch} {cs : CSt} {np : Nat} {ad : Nat → Nat} {T : MT} (hV : VC np T) (x : Int) (hx : isS T x) : KD l cs yX1_hasChildren (Cond.code yX1_hasChildren cX1_hasChildren 2 (some .boolean) :: GW) 3 0 0 [.ref (ad 0), grf ad x] np ad T 0 (some (.int (zI (if cntC T x (T 15 x.toNat) (T 16 x.toNat) 60 > 0 then 1 else 0)))) (np, ad, T) := by
  have hV0 := hV.s hx
  have hb := cntC_bd T x (T 15 x.toNat) (T 16 x.toNat) 60
  refine KC_of (cc := cX1_hasChildren) (nL := 2) (rt := (some .boolean)) (by decide) (by simp [grf_cat, cat_int, cat_ref]) (by simp) ?_
  intro p e s m args below meth c A C hE hin
  refine g_eq (lv2 := [some (.ref (ad 0)), some (grf ad x)]) rfl rfl rfl ?_
  refine g_aload_0 (pc := 0) C dX1_hasChildren_0 ?_
  refine g_sload_1 (pc := 1) C dX1_hasChildren_1 ?_
  refine g_sload_1 (pc := 2) C dX1_hasChildren_2 ?_
  first | refine g_getn_X1_101 (pc := 3) C (by omega) dX1_hasChildren_3 ?_ | refine g_get_X1_101 (pc := 3) C (by omega) dX1_hasChildren_3 ?_
  refine g_sload_1 (pc := 6) C dX1_hasChildren_6 ?_
  first | refine g_getn_X1_114 (pc := 7) C (by omega) dX1_hasChildren_7 ?_ | refine g_get_X1_114 (pc := 7) C (by omega) dX1_hasChildren_7 ?_
  refine g_cY3Pv (pc := 10) C cs_X1_88 (k_X1_countChildren hV x _ _ (by omega) (by omega)) ⟨Nat.le_of_ble_eq_true rfl, Nat.le_of_ble_eq_true rfl⟩ (by omega) (Nat.le_of_ble_eq_true rfl) ⟨Nat.le_of_ble_eq_true rfl, Nat.le_of_ble_eq_true rfl⟩ dX1_hasChildren_10 ?_
  refine g_if_le (pc := 13) (tgt := 20) C dX1_hasChildren_13 (by decide) (by omega) (fun h13 => ?_) (fun h13 => ?_)
  · refine g_iconst (pc := 20) C dX1_hasChildren_20 ?_
    refine g_zret (pc := 21) C (by omega) (Nat.le_of_ble_eq_true rfl) (Nat.le_of_ble_eq_true rfl) dX1_hasChildren_21 ?_
    exact ⟨rfl, by rw [if_neg (by omega)], rfl⟩
  · refine g_iconst (pc := 16) C dX1_hasChildren_16 ?_
    refine g_goto (pc := 17) (tgt := 21) C dX1_hasChildren_17 (by decide) ?_
    refine g_zret (pc := 21) C (by omega) (Nat.le_of_ble_eq_true rfl) (Nat.le_of_ble_eq_true rfl) dX1_hasChildren_21 ?_
    exact ⟨rfl, by rw [if_pos (by omega)], rfl⟩
end
section
/-! what the class's methods answer, as functions of the memory -/
def VA (T : MT) : Prop := (0 ≤ T 0 4 ∧ T 0 4 ≤ 4096 ∧ 0 ≤ T 0 5 ∧ T 0 5 ≤ 100000 ∧ (T 0 7 = 0 ∨ T 0 7 = 1)) ∧ ∀ a : Nat, a < 4096 → -1 ≤ T 2 a ∧ T 2 a ≤ 200000 ∧ 0 ≤ T 3 a ∧ T 3 a < 60
def lnt (f : Nat → Int) (s : Nat) : Nat → Int
  | 0 => 0
  | n + 1 => lnt f s n + (if f (s + n) ≠ 0 then 1 else 0)
theorem lnt_bd (f : Nat → Int) (s n : Nat) : 0 ≤ lnt f s n ∧ lnt f s n ≤ n := by
  induction n with
  | zero => exact ⟨Int.le_refl 0, Int.le_refl 0⟩
  | succ n ih =>
    unfold lnt
    split <;> omega
noncomputable def liiC (T : MT) (x : Int) : Int := if T 0 4 = 0 ∨ cntC T x (T 15 x.toNat) (T 16 x.toNat) 60 > 0 then 0 else lnt (T 2) (T 15 x.toNat).toNat (T 16 x.toNat).toNat
theorem liiC_bd (T : MT) (x : Int) (h : T 16 x.toNat ≤ 4096) : 0 ≤ liiC T x ∧ liiC T x ≤ 4096 := by
  unfold liiC
  split
  · omega
  · have := lnt_bd (T 2) (T 15 x.toNat).toNat (T 16 x.toNat).toNat
    omega
/-- the first child of x that has the address a -/
def chA (h q b z : Nat → Int) (x a : Int) : Nat → Int
  | 0 => -1
  | j + 1 => if 0 ≤ chA h q b z x a j then chA h q b z x a j else if h j ≠ 0 ∧ q j = x ∧ b j ≤ a ∧ a < b j + z j then j else -1
noncomputable def chC (T : MT) (x a : Int) (j : Nat) : Int := hid (chA (T 1) (T 14) (T 15) (T 16) x a j)
theorem chC_eq (T : MT) (x a : Int) (j : Nat) : chC T x a j = chA (T 1) (T 14) (T 15) (T 16) x a j := hid_eq _
theorem chA_bd (h q b z : Nat → Int) (x a : Int) (j : Nat) : -1 ≤ chA h q b z x a j ∧ chA h q b z x a j < j ∧ (0 ≤ chA h q b z x a j → h (chA h q b z x a j).toNat ≠ 0 ∧ q (chA h q b z x a j).toNat = x ∧ b (chA h q b z x a j).toNat ≤ a ∧ a < b (chA h q b z x a j).toNat + z (chA h q b z x a j).toNat) := by
  induction j with
  | zero => exact ⟨Int.le_refl _, by show (-1 : Int) < 0; omega, fun h => absurd h (by show ¬ (0 : Int) ≤ -1; omega)⟩
  | succ j ih =>
    by_cases h1 : 0 ≤ chA h q b z x a j
    · have e : chA h q b z x a (j + 1) = chA h q b z x a j := by show ite _ _ _ = _; rw [if_pos h1]
      rw [e]
      exact ⟨ih.1, by omega, ih.2.2⟩
    · by_cases h2 : h j ≠ 0 ∧ q j = x ∧ b j ≤ a ∧ a < b j + z j
      · have e : chA h q b z x a (j + 1) = j := by show ite _ _ _ = _; rw [if_neg h1, if_pos h2]
        rw [e]
        exact ⟨by omega, by omega, fun _ => h2⟩
      · have e : chA h q b z x a (j + 1) = -1 := by show ite _ _ _ = _; rw [if_neg h1, if_neg h2]
        rw [e]
        exact ⟨by omega, by omega, fun h => absurd h (by omega)⟩
theorem chC_bd (T : MT) (x a : Int) (j : Nat) : -1 ≤ chC T x a j ∧ chC T x a j < j ∧ (0 ≤ chC T x a j → T 1 (chC T x a j).toNat ≠ 0 ∧ T 14 (chC T x a j).toNat = x ∧ T 15 (chC T x a j).toNat ≤ a ∧ a < T 15 (chC T x a j).toNat + T 16 (chC T x a j).toNat) := by
  rw [chC_eq]
  exact chA_bd _ _ _ _ _ _ _
/-- the sum of the sizes of x's children -/
def chS (h q z : Nat → Int) (x : Int) : Nat → Int
  | 0 => 0
  | j + 1 => chS h q z x j + (if h j ≠ 0 ∧ q j = x then z j else 0)
abbrev outC (T : MT) (x : Int) : Int := T 16 x.toNat - chS (T 1) (T 14) (T 16) x 60
/-- the greatest block at a address, up to an end -/
def gbf (a e : Int) : Nat → Int → Int
  | 0, w => w
  | n + 1, w => if 2 * w ≤ e - a ∧ 2 * w ≤ 4096 ∧ a % (2 * w) = 0 then gbf a e n (2 * w) else w
def gbk (a e : Int) : Int := gbf a e 13 1
/-- where the room behind an address ends -/
def rmE (h q b : Nat → Int) (x a e : Int) : Nat → Int
  | 0 => e
  | j + 1 => if h j ≠ 0 ∧ q j = x ∧ a < b j then min (rmE h q b x a e j) (b j) else rmE h q b x a e j
noncomputable def roomC (T : MT) (x a : Int) : Int := hid (gbk a (rmE (T 1) (T 14) (T 15) x a (T 15 x.toNat + T 16 x.toNat) 60))
theorem roomC_eq (T : MT) (x a : Int) : roomC T x a = gbk a (rmE (T 1) (T 14) (T 15) x a (T 15 x.toNat + T 16 x.toNat) 60) := hid_eq _
theorem rmE_bd (h q b : Nat → Int) (x a e : Int) (he : e ≤ 4096) (h0 : 0 ≤ e) (j : Nat) (hb : ∀ i, i < j → h i ≠ 0 → 0 ≤ b i ∧ b i ≤ 4096) : 0 ≤ rmE h q b x a e j ∧ rmE h q b x a e j ≤ e := by
  induction j with
  | zero => exact ⟨h0, Int.le_refl _⟩
  | succ j ih =>
    have ih := ih (fun i hi => hb i (by omega))
    unfold rmE
    split
    · rename_i h1
      have := hb j (by omega) h1.1
      omega
    · exact ih
theorem rmE_gt (h q b : Nat → Int) (x a e : Int) (he : a < e) (j : Nat) : a < rmE h q b x a e j := by
  induction j with
  | zero => exact he
  | succ j ih =>
    unfold rmE
    split
    · rename_i h1
      omega
    · exact ih
theorem gbf_bd (a e : Int) (n : Nat) (w : Int) (hw : 1 ≤ w ∧ w ≤ 4096) : w ≤ gbf a e n w ∧ gbf a e n w ≤ 4096 ∧ (w ≤ e - a → gbf a e n w ≤ e - a) := by
  induction n generalizing w with
  | zero => exact ⟨Int.le_refl _, hw.2, id⟩
  | succ n ih =>
    unfold gbf
    split
    · rename_i h
      have h2 := ih (2 * w) (by omega)
      exact ⟨by omega, h2.2.1, fun _ => h2.2.2 (by omega)⟩
    · exact ⟨Int.le_refl _, hw.2, id⟩
theorem gbk_bd (a e : Int) : 1 ≤ gbk a e ∧ gbk a e ≤ 4096 ∧ (a < e → a + gbk a e ≤ e) := by
  have h := gbf_bd a e 13 1 (by omega)
  exact ⟨h.1, h.2.1, fun h2 => by have := h.2.2 (by omega); show a + gbf a e 13 1 ≤ e; omega⟩
theorem roomC_bd {np : Nat} {T : MT} (hV : VC np T) {x a : Int} (hx : isS T x) (ha : a < T 15 x.toNat + T 16 x.toNat) : 1 ≤ roomC T x a ∧ roomC T x a ≤ 4096 ∧ a + roomC T x a ≤ T 15 x.toNat + T 16 x.toNat := by
  have hV0 := hV.s hx
  rw [roomC_eq]
  have hg := gbk_bd a (rmE (T 1) (T 14) (T 15) x a (T 15 x.toNat + T 16 x.toNat) 60)
  have hr2 := rmE_bd (T 1) (T 14) (T 15) x a (T 15 x.toNat + T 16 x.toNat) (by omega) (by omega) 60 (fun i hi h => by have := hV.2 i (by omega); omega)
  have hr3 := rmE_gt (T 1) (T 14) (T 15) x a (T 15 x.toNat + T 16 x.toNat) ha 60
  have hg3 := hg.2.2 hr3
  exact ⟨hg.1, hg.2.1, by omega⟩
theorem roomC_b2 (T : MT) (x a : Int) : 1 ≤ roomC T x a ∧ roomC T x a ≤ 4096 := by
  rw [roomC_eq]
  exact ⟨(gbk_bd _ _).1, (gbk_bd _ _).2.1⟩
theorem and_p2 {a t : Int} (ha : 0 ≤ a ∧ a < 2147483648) (ht : t = 2 ∨ t = 4 ∨ t = 8 ∨ t = 16 ∨ t = 32 ∨ t = 64 ∨ t = 128 ∨ t = 256 ∨ t = 512 ∨ t = 1024 ∨ t = 2048 ∨ t = 4096) : zI a &&& zI (t - 1) = zI (a % t) := by
  have e1 : zI a = nI a.toNat := by
    show zI a = Int32.ofNat a.toNat
    rw [zI_ofNat, Int.toNat_of_nonneg ha.1]
  have key : ∀ k : Nat, ∀ u : Int, u = (2 : Int) ^ k → k ≤ 12 → (zI (u - 1)).toBitVec.toNat = 2 ^ k - 1 → zI a &&& zI (u - 1) = zI (a % u) := by
    intro k u hu hk hm
    rw [e1, pk_andN (by omega) k hm]
    show Int32.ofNat _ = _
    rw [zI_ofNat]
    congr 1
    rw [hu, Int.natCast_emod, Int.toNat_of_nonneg ha.1]
    congr 1
  rcases ht with rfl | rfl | rfl | rfl | rfl | rfl | rfl | rfl | rfl | rfl | rfl | rfl
  · exact key 1 2 (by decide) (by decide) (by decide)
  · exact key 2 4 (by decide) (by decide) (by decide)
  · exact key 3 8 (by decide) (by decide) (by decide)
  · exact key 4 16 (by decide) (by decide) (by decide)
  · exact key 5 32 (by decide) (by decide) (by decide)
  · exact key 6 64 (by decide) (by decide) (by decide)
  · exact key 7 128 (by decide) (by decide) (by decide)
  · exact key 8 256 (by decide) (by decide) (by decide)
  · exact key 9 512 (by decide) (by decide) (by decide)
  · exact key 10 1024 (by decide) (by decide) (by decide)
  · exact key 11 2048 (by decide) (by decide) (by decide)
  · exact key 12 4096 (by decide) (by decide) (by decide)
/-- the walk over the whole free blocks: chosen, its room, where it stands -/
noncomputable def cbS (T : MT) (x S : Int) (lst : Bool) (u : Int × Int × Int) : Int × Int × Int :=
  if T 15 x.toNat + T 16 x.toNat ≤ u.2.2 then u
  else if 0 ≤ chC T x u.2.2 60 then (u.1, u.2.1, T 15 (chC T x u.2.2 60).toNat + T 16 (chC T x u.2.2 60).toNat)
  else if S ≤ roomC T x u.2.2 ∧ (u.1 = -1 ∨ (if lst = true then roomC T x u.2.2 < u.2.1 else u.2.1 < roomC T x u.2.2)) then (u.2.2, roomC T x u.2.2, u.2.2 + roomC T x u.2.2)
  else (u.1, u.2.1, u.2.2 + roomC T x u.2.2)
noncomputable def cbI (T : MT) (x S : Int) (lst : Bool) : Nat → Int × Int × Int
  | 0 => (-1, 0, T 15 x.toNat)
  | n + 1 => cbS T x S lst (cbI T x S lst n)
noncomputable def chB (T : MT) (x S : Int) (lst : Bool) : Int := hid (cbI T x S lst 4096).1
theorem chB_eq (T : MT) (x S : Int) (lst : Bool) : chB T x S lst = (cbI T x S lst 4096).1 := hid_eq _
/-- in how many steps a row is told by greatest blocks -/
def cbk (e : Int) : Nat → Int → Int
  | 0, _ => 0
  | n + 1, a => if a < e then 1 + cbk e n (a + gbk a e) else 0
/-- the lowest place that holds 0 -/
def lwf (f : Nat → Int) (s : Nat) : Nat → Int
  | 0 => -1
  | n + 1 => if 0 ≤ lwf f s n then lwf f s n else if f (s + n) = 0 then s + n else -1
/-- the row, a span laid on it -/
def lyS (T : MT) (x : Nat) : MT := fun r i => if r = 3 ∧ T 15 x ≤ (i : Int) ∧ (i : Int) < T 15 x + T 16 x then T 13 x else T r i
def lyJ (T : MT) (w : Int) : Nat → MT
  | 0 => T
  | j + 1 => if T 1 j ≠ 0 ∧ T 16 j = w then lyS (lyJ T w j) j else lyJ T w j
def lyK (T : MT) : Nat → MT
  | 0 => T
  | k + 1 => lyJ (lyK T k) (4096 / 2 ^ k) 60
def lyR (T : MT) : MT := if T 0 7 = 0 then mst (lyK T 13) 0 7 1 else T
theorem VC.same {np : Nat} {T T' : MT} (h : VC np T) (he : ∀ r i, (r = 0 ∧ i = 2) ∨ r = 1 ∨ 13 ≤ r → T' r i = T r i) : VC np T' := by
  obtain ⟨h1, h2⟩ := h
  refine ⟨?_, fun j hj => ?_⟩
  · rw [he 0 2 (by omega), he 1 0 (by omega)]; exact h1
  · have h3 := h2 j hj
    rw [he 1 j (by omega), he 0 2 (by omega), he 13 j (by omega), he 14 j (by omega), he 15 j (by omega), he 16 j (by omega), he 17 j (by omega)]
    exact h3
theorem lyS_r {T : MT} {x r i : Nat} (h : r ≠ 3) : lyS T x r i = T r i := by
  unfold lyS
  rw [if_neg (fun q => h q.1)]
theorem lyJ_r {T : MT} {w : Int} {j r i : Nat} (h : r ≠ 3) : lyJ T w j r i = T r i := by
  induction j with
  | zero => rfl
  | succ j ih =>
    unfold lyJ
    split
    · rw [lyS_r h, ih]
    · exact ih
theorem lyK_r {T : MT} {k r i : Nat} (h : r ≠ 3) : lyK T k r i = T r i := by
  induction k with
  | zero => rfl
  | succ k ih =>
    unfold lyK
    rw [lyJ_r h, ih]
theorem chA_st (h q b z : Nat → Int) (x a : Int) {j k : Nat} (hj : 0 ≤ chA h q b z x a j) (hk : j ≤ k) : chA h q b z x a k = chA h q b z x a j := by
  induction k with
  | zero => rw [show j = 0 by omega]
  | succ k ih =>
    by_cases e : j = k + 1
    · rw [e]
    · have h1 := ih (by omega)
      show ite _ _ _ = _
      rw [if_pos (by rw [h1]; exact hj), h1]
theorem p2_case {j : Nat} {w : Int} (hj : j ≤ 12) (hw : w = 2 ^ j) : 1 ≤ w ∧ w ≤ 4096 ∧ (2 * w ≤ 4096 → (2 * w = 2 ∨ 2 * w = 4 ∨ 2 * w = 8 ∨ 2 * w = 16 ∨ 2 * w = 32 ∨ 2 * w = 64 ∨ 2 * w = 128 ∨ 2 * w = 256 ∨ 2 * w = 512 ∨ 2 * w = 1024 ∨ 2 * w = 2048 ∨ 2 * w = 4096) ∧ j < 12) := by
  subst hw
  have h : j = 0 ∨ j = 1 ∨ j = 2 ∨ j = 3 ∨ j = 4 ∨ j = 5 ∨ j = 6 ∨ j = 7 ∨ j = 8 ∨ j = 9 ∨ j = 10 ∨ j = 11 ∨ j = 12 := by omega
  rcases h with rfl | rfl | rfl | rfl | rfl | rfl | rfl | rfl | rfl | rfl | rfl | rfl | rfl <;> decide
theorem cbI_fix (T : MT) (x S : Int) (lst : Bool) (j k : Nat) (h : T 15 x.toNat + T 16 x.toNat ≤ (cbI T x S lst j).2.2) : cbI T x S lst (j + k) = cbI T x S lst j := by
  induction k with
  | zero => rfl
  | succ k ih =>
    show cbS T x S lst (cbI T x S lst (j + k)) = _
    rw [ih, cbS, if_pos h]
/-- the row, the first j places of a span laid on it -/
def lyP (T : MT) (x j : Nat) : MT := fun r i => if r = 3 ∧ T 15 x ≤ (i : Int) ∧ (i : Int) < T 15 x + j then T 13 x else T r i
theorem lyP_r {T : MT} {x j r i : Nat} (h : r ≠ 3) : lyP T x j r i = T r i := by
  unfold lyP
  rw [if_neg (fun q => h q.1)]
theorem lyP_0 (T : MT) (x : Nat) : lyP T x 0 = T := by
  funext r i
  unfold lyP
  rw [if_neg (by omega)]
theorem lyP_s (T : MT) (x j : Nat) (h : 0 ≤ T 15 x) : mst (lyP T x j) 3 ((T 15 x).toNat + j) (T 13 x) = lyP T x (j + 1) := by
  funext r i
  unfold mst lyP
  by_cases h1 : r = 3 ∧ i = (T 15 x).toNat + j
  · rw [if_pos h1, if_pos (by omega)]
  · rw [if_neg h1]
    by_cases h2 : r = 3 ∧ T 15 x ≤ (i : Int) ∧ (i : Int) < T 15 x + j
    · rw [if_pos h2, if_pos (by omega)]
    · rw [if_neg h2, if_neg (by omega)]
theorem lyP_e (T : MT) (x j : Nat) (h : (j : Int) = T 16 x) : lyP T x j = lyS T x := by
  funext r i
  unfold lyP lyS
  rw [h]
theorem lyJ_0 (T : MT) (w : Int) : lyJ T w 0 = T := rfl
theorem VC.ly {np : Nat} {T T' : MT} (h : VC np T) (he : ∀ r i, r ≠ 3 → T' r i = T r i) : VC np T' := h.same (fun r i hr => he r i (by omega))
theorem isS.ly {T T' : MT} {x : Int} (h : isS T x) (he : ∀ r i, r ≠ 3 → T' r i = T r i) : isS T' x := ⟨h.1, h.2.1, by rw [he 1 _ (by decide)]; exact h.2.2⟩
theorem p2_div {k : Nat} (h : k ≤ 13) : ((k < 13 ∧ 1 ≤ (4096 : Int) / 2 ^ k) ∨ (k = 13 ∧ (4096 : Int) / 2 ^ k = 0)) ∧ 0 ≤ (4096 : Int) / 2 ^ k ∧ (4096 : Int) / 2 ^ k ≤ 4096 ∧ (4096 : Int) / 2 ^ k / 2 = 4096 / 2 ^ (k + 1) := by
  have h : k = 0 ∨ k = 1 ∨ k = 2 ∨ k = 3 ∨ k = 4 ∨ k = 5 ∨ k = 6 ∨ k = 7 ∨ k = 8 ∨ k = 9 ∨ k = 10 ∨ k = 11 ∨ k = 12 ∨ k = 13 := by omega
  rcases h with rfl | rfl | rfl | rfl | rfl | rfl | rfl | rfl | rfl | rfl | rfl | rfl | rfl | rfl <;> decide
end
section
theorem k_X1_countLent {l : Launch} {cs : CSt} {np : Nat} {ad : Nat → Nat} {T : MT} (h13 : 13 ≤ np) (hA : VA T) (a b : Int) (ha : 0 ≤ a ∧ b ≤ 4096 ∧ a ≤ b) : KD l cs yX1_countLent (Cond.code yX1_countLent cX1_countLent 5 (some .int) :: GW) 1 0 0 [.ref (ad 0), .int (zI a), .int (zI b)] np ad T 0 (some (.int (zI (lnt (T 2) a.toNat (b - a).toNat)))) (np, ad, T) := by
  refine KC_of (cc := cX1_countLent) (nL := 5) (rt := (some .int)) (by decide) (by simp [grf_cat, cat_int, cat_ref]) (by simp) ?_
  intro p e s m args below meth c A C hE hin
  refine g_eq (lv2 := [some (.ref (ad 0)), some (.int (zI a)), some (.int (zI b)), none, none]) rfl rfl rfl ?_
  refine g_iconst (pc := 0) C dX1_countLent_0 ?_
  refine g_istore_3 (pc := 1) C dX1_countLent_1 ?_
  refine g_iload_1 (pc := 2) C dX1_countLent_2 ?_
  refine g_istore_4 (pc := 3) C dX1_countLent_3 ?_
  refine g_eq (lv2 := [some (.ref (ad 0)), some (.int (zI a)), some (.int (zI b)), some (.int (zI (lnt (T 2) a.toNat 0))), some (.int (zI (a + (0 : Nat))))]) rfl (by rw [Int.natCast_zero, Int.add_zero]; rfl) rfl ?_
  refine g_loop (σ := Unit) (Tf := fun _ _ => T) (lvf := fun j _ => [some (.ref (ad 0)), some (.int (zI a)), some (.int (zI b)), some (.int (zI (lnt (T 2) a.toNat j))), some (.int (zI (a + (j : Int))))]) (inv := fun j _ => a + (j : Int) ≤ b) (N := 4096) 0 () (by omega) (by omega) (fun j _ hj hN ih => ?_)
  refine g_iload_4 (pc := 5) C dX1_countLent_5 ?_
  refine g_iload_2 (pc := 7) C dX1_countLent_7 ?_
  refine g_icmp_ge (pc := 8) (tgt := 38) C dX1_countLent_8 (by decide) (by omega) (by omega) (fun h8 => ?_) (fun h8 => ?_)
  · refine g_iload_3 (pc := 38) C dX1_countLent_38 ?_
    refine g_iret (pc := 39) C (Nat.le_of_ble_eq_true rfl) (Nat.le_of_ble_eq_true rfl) dX1_countLent_39 ?_
    obtain rfl : j = (b - a).toNat := by omega
    exact ⟨rfl, rfl, rfl⟩
  · have e9 : lnt (T 2) a.toNat (j + 1) = lnt (T 2) a.toNat j + (if T 2 (a.toNat + j) ≠ 0 then 1 else 0) := rfl
    have e8 : (a + (j : Int)).toNat = a.toNat + j := by omega
    have hj2 := hA.2 (a.toNat + j) (by omega)
    refine g_iload_4 (pc := 11) C dX1_countLent_11 ?_
    refine g_cT1Pv (pc := 13) C cs_X1_136 (k_X1_isAddress _ (by omega)) ⟨Nat.le_of_ble_eq_true rfl, Nat.le_of_ble_eq_true rfl⟩ (Nat.le_of_ble_eq_true rfl) ⟨Nat.le_of_ble_eq_true rfl, Nat.le_of_ble_eq_true rfl⟩ dX1_countLent_13 ?_
    refine g_if_eq (pc := 16) (tgt := 38) C dX1_countLent_16 (by decide) (by split <;> omega) (fun h16 => ?_) (fun h16 => ?_)
    · rw [if_pos (by omega)] at h16
      omega
    · refine g_aload_0 (pc := 19) C dX1_countLent_19 ?_
      refine g_get_X1_26 (pc := 20) C (by omega) dX1_countLent_20 ?_
      refine g_iload_4 (pc := 23) C dX1_countLent_23 ?_
      first | refine g_aldn_2 (pc := 25) C (by omega) (by omega) dX1_countLent_25 ?_ | refine g_ald_2 (pc := 25) C (by omega) (by omega) dX1_countLent_25 ?_
      rw [e8]
      refine g_if_eq (pc := 26) (tgt := 32) C dX1_countLent_26 (by decide) (by omega) (fun h26 => ?_) (fun h26 => ?_)
      · refine g_iinc_4 (pc := 32) C dX1_countLent_32 ?_
        refine g_goto (pc := 35) (tgt := 5) C dX1_countLent_35 (by decide) ?_
        rw [if_neg (by omega)] at e9
        exact g_eq rfl (by rw [e9, Int.add_zero, Int.add_assoc]; rfl) rfl (ih () (by omega) (by omega))
      · refine g_iinc_3 (pc := 29) C dX1_countLent_29 ?_
        refine g_iinc_4 (pc := 32) C dX1_countLent_32 ?_
        refine g_goto (pc := 35) (tgt := 5) C dX1_countLent_35 (by decide) ?_
        rw [if_pos (by omega)] at e9
        exact g_eq rfl (by rw [e9, Int.add_assoc a]; rfl) rfl (ih () (by omega) (by omega))
theorem k_X1_lentInItself {l : Launch} {cs : CSt} {np : Nat} {ad : Nat → Nat} {T : MT} (hV : VC np T) (hA : VA T) (x : Int) (hx : isS T x) : KD l cs yX1_lentInItself (Cond.code yX1_lentInItself cX1_lentInItself 2 (some .int) :: GW) 4 0 0 [.ref (ad 0), grf ad x] np ad T 0 (some (.int (zI (liiC T x)))) (np, ad, T) := by
  have hV0 := hV.s hx
  have hA0 := hA.1
  refine KC_of (cc := cX1_lentInItself) (nL := 2) (rt := (some .int)) (by decide) (by simp [grf_cat, cat_int, cat_ref]) (by simp) ?_
  intro p e s m args below meth c A C hE hin
  refine g_eq (lv2 := [some (.ref (ad 0)), some (grf ad x)]) rfl rfl rfl ?_
  refine g_aload_0 (pc := 0) C dX1_lentInItself_0 ?_
  refine g_get_X1_30 (pc := 1) C (by omega) dX1_lentInItself_1 ?_
  refine g_if_eq (pc := 4) (tgt := 15) C dX1_lentInItself_4 (by decide) (by omega) (fun h4 => ?_) (fun h4 => ?_)
  · refine g_iconst (pc := 15) C dX1_lentInItself_15 ?_
    refine g_goto (pc := 16) (tgt := 31) C dX1_lentInItself_16 (by decide) ?_
    refine g_iret (pc := 31) C (Nat.le_of_ble_eq_true rfl) (Nat.le_of_ble_eq_true rfl) dX1_lentInItself_31 ?_
    exact ⟨rfl, by rw [liiC, if_pos (Or.inl h4)], rfl⟩
  · refine g_aload_0 (pc := 7) C dX1_lentInItself_7 ?_
    refine g_sload_1 (pc := 8) C dX1_lentInItself_8 ?_
    refine g_cY1Pv (pc := 9) C cs_X1_97 (k_X1_hasChildren hV x hx) ⟨Nat.le_of_ble_eq_true rfl, Nat.le_of_ble_eq_true rfl⟩ (by omega) (Nat.le_of_ble_eq_true rfl) ⟨Nat.le_of_ble_eq_true rfl, Nat.le_of_ble_eq_true rfl⟩ dX1_lentInItself_9 ?_
    refine g_if_eq (pc := 12) (tgt := 19) C dX1_lentInItself_12 (by decide) (by split <;> omega) (fun h12 => ?_) (fun h12 => ?_)
    · have h12b : ¬ cntC T x (T 15 x.toNat) (T 16 x.toNat) 60 > 0 := by
        intro h
        rw [if_pos h] at h12
        omega
      refine g_aload_0 (pc := 19) C dX1_lentInItself_19 ?_
      refine g_sload_1 (pc := 20) C dX1_lentInItself_20 ?_
      first | refine g_getn_X1_101 (pc := 21) C (by omega) dX1_lentInItself_21 ?_ | refine g_get_X1_101 (pc := 21) C (by omega) dX1_lentInItself_21 ?_
      refine g_sload_1 (pc := 24) C dX1_lentInItself_24 ?_
      refine g_cS0Pv (pc := 25) C cs_X1_104 (k_X0_end x (by omega)) ⟨Nat.le_of_ble_eq_true rfl, Nat.le_of_ble_eq_true rfl⟩ (by omega) (Nat.le_of_ble_eq_true rfl) ⟨Nat.le_of_ble_eq_true rfl, Nat.le_of_ble_eq_true rfl⟩ dX1_lentInItself_25 ?_
      refine g_cY2Pv (pc := 28) C cs_X1_108 (k_X1_countLent (by omega) hA _ _ (by omega)) ⟨Nat.le_of_ble_eq_true rfl, Nat.le_of_ble_eq_true rfl⟩ (by omega) (Nat.le_of_ble_eq_true rfl) ⟨Nat.le_of_ble_eq_true rfl, Nat.le_of_ble_eq_true rfl⟩ dX1_lentInItself_28 ?_
      refine g_iret (pc := 31) C (Nat.le_of_ble_eq_true rfl) (Nat.le_of_ble_eq_true rfl) dX1_lentInItself_31 ?_
      exact ⟨rfl, by rw [liiC, if_neg (by rintro (h | h); exact h4 h; exact h12b h), show T 15 x.toNat + T 16 x.toNat - T 15 x.toNat = T 16 x.toNat by omega], rfl⟩
    · have h12b : cntC T x (T 15 x.toNat) (T 16 x.toNat) 60 > 0 := by
        split at h12
        · assumption
        · omega
      refine g_iconst (pc := 15) C dX1_lentInItself_15 ?_
      refine g_goto (pc := 16) (tgt := 31) C dX1_lentInItself_16 (by decide) ?_
      refine g_iret (pc := 31) C (Nat.le_of_ble_eq_true rfl) (Nat.le_of_ble_eq_true rfl) dX1_lentInItself_31 ?_
      exact ⟨rfl, by rw [liiC, if_pos (Or.inr h12b)], rfl⟩
theorem k_X1_checkCarving {l : Launch} {cs : CSt} {np : Nat} {ad : Nat → Nat} {T : MT} (hV : VC np T) (hA : VA T) (x S : Int) (hx : isS T x) (hS : -2147483648 ≤ S ∧ S < 2147483648) : KD l cs yX1_checkCarving (Cond.code yX1_checkCarving cX1_checkCarving 3 none :: GW) 6 1 6 [.ref (ad 0), grf ad x, .int (zI S)] np ad T (exq (T 0 2 < 60 ∧ S < T 16 x.toNat ∧ liiC T x ≤ 0) 3) none (np, ad, T) := by
  have hV0 := hV.s hx
  have hV1 := hV.1
  have hb := liiC_bd T x (by omega)
  refine KC_of (cc := cX1_checkCarving) (nL := 3) (rt := none) (by decide) (by simp [grf_cat, cat_int, cat_ref]) (by simp) ?_
  intro p e s m args below meth c A C hE hin
  refine g_eq (lv2 := [some (.ref (ad 0)), some (grf ad x), some (.int (zI S))]) rfl rfl rfl ?_
  refine g_aload_0 (pc := 0) C dX1_checkCarving_0 ?_
  refine g_get_X1_22 (pc := 1) C (by omega) dX1_checkCarving_1 ?_
  refine g_bipush (pc := 4) C dX1_checkCarving_4 (by decide) ?_
  refine g_icmp_ge (pc := 6) (tgt := 25) C dX1_checkCarving_6 (by decide) (by omega) (by omega) (fun h6 => ?_) (fun h6 => ?_)
  · refine g_throw_3 (pc := 25) C hE (text := "nothing of the size can be carved in the span") (by decide) dX1_checkCarving_25 dX1_checkCarving_28 dX1_checkCarving_29 dX1_checkCarving_31 dX1_checkCarving_34 ⟨Nat.le_of_ble_eq_true rfl, Nat.le_of_ble_eq_true rfl, Nat.le_of_ble_eq_true rfl, Nat.le_of_ble_eq_true rfl⟩ ⟨Nat.le_of_ble_eq_true rfl, Nat.le_of_ble_eq_true rfl⟩ ?_
    have h5 : ¬ (T 0 2 < 60 ∧ S < T 16 x.toNat ∧ liiC T x ≤ 0) := by omega
    exact ⟨by rw [exq_f h5]; decide, by rw [exq_f h5], rfl⟩
  · refine g_iload_2 (pc := 9) C dX1_checkCarving_9 ?_
    refine g_sload_1 (pc := 10) C dX1_checkCarving_10 ?_
    first | refine g_getn_X1_114 (pc := 11) C (by omega) dX1_checkCarving_11 ?_ | refine g_get_X1_114 (pc := 11) C (by omega) dX1_checkCarving_11 ?_
    refine g_icmp_ge (pc := 14) (tgt := 25) C dX1_checkCarving_14 (by decide) (by omega) (by omega) (fun h14 => ?_) (fun h14 => ?_)
    · refine g_throw_3 (pc := 25) C hE (text := "nothing of the size can be carved in the span") (by decide) dX1_checkCarving_25 dX1_checkCarving_28 dX1_checkCarving_29 dX1_checkCarving_31 dX1_checkCarving_34 ⟨Nat.le_of_ble_eq_true rfl, Nat.le_of_ble_eq_true rfl, Nat.le_of_ble_eq_true rfl, Nat.le_of_ble_eq_true rfl⟩ ⟨Nat.le_of_ble_eq_true rfl, Nat.le_of_ble_eq_true rfl⟩ ?_
      have h5 : ¬ (T 0 2 < 60 ∧ S < T 16 x.toNat ∧ liiC T x ≤ 0) := by omega
      exact ⟨by rw [exq_f h5]; decide, by rw [exq_f h5], rfl⟩
    · refine g_aload_0 (pc := 17) C dX1_checkCarving_17 ?_
      refine g_sload_1 (pc := 18) C dX1_checkCarving_18 ?_
      refine g_cY1Pv (pc := 19) C cs_X1_160 (k_X1_lentInItself hV hA x hx) ⟨Nat.le_of_ble_eq_true rfl, Nat.le_of_ble_eq_true rfl⟩ (by omega) (Nat.le_of_ble_eq_true rfl) ⟨Nat.le_of_ble_eq_true rfl, Nat.le_of_ble_eq_true rfl⟩ dX1_checkCarving_19 ?_
      refine g_if_le (pc := 22) (tgt := 35) C dX1_checkCarving_22 (by decide) (by omega) (fun h22 => ?_) (fun h22 => ?_)
      · refine g_vret (pc := 35) C (Nat.le_of_ble_eq_true rfl) (Nat.le_of_ble_eq_true rfl) dX1_checkCarving_35 ?_
        exact ⟨exq_t (by omega), rfl, rfl⟩
      · refine g_throw_3 (pc := 25) C hE (text := "nothing of the size can be carved in the span") (by decide) dX1_checkCarving_25 dX1_checkCarving_28 dX1_checkCarving_29 dX1_checkCarving_31 dX1_checkCarving_34 ⟨Nat.le_of_ble_eq_true rfl, Nat.le_of_ble_eq_true rfl, Nat.le_of_ble_eq_true rfl, Nat.le_of_ble_eq_true rfl⟩ ⟨Nat.le_of_ble_eq_true rfl, Nat.le_of_ble_eq_true rfl⟩ ?_
        have h5 : ¬ (T 0 2 < 60 ∧ S < T 16 x.toNat ∧ liiC T x ≤ 0) := by omega
        exact ⟨by rw [exq_f h5]; decide, by rw [exq_f h5], rfl⟩
theorem k_X1_childAt {l : Launch} {cs : CSt} {np : Nat} {ad : Nat → Nat} {T : MT} (hV : VC np T) (x a : Int) (hx : 0 ≤ x ∧ x + 13 < np) (ha : -2147483648 ≤ a ∧ a < 2147483648) : KD l cs yX1_childAt (Cond.code yX1_childAt cX1_childAt 7 (some (.object "PrefixYard$Span")) :: GW) 2 0 0 [.ref (ad 0), grf ad x, .int (zI a)] np ad T 0 (some (grf ad (chC T x a 60))) (np, ad, T) := by
  have hV0 := hV.1
  refine KC_of (cc := cX1_childAt) (nL := 7) (rt := (some (.object "PrefixYard$Span"))) (by decide) (by simp [grf_cat, cat_int, cat_ref]) (by simp) ?_
  intro p e s m args below meth c A C hE hin
  refine g_eq (lv2 := [some (.ref (ad 0)), some (grf ad x), some (.int (zI a)), none, none, none, none]) rfl rfl rfl ?_
  refine g_aload_0 (pc := 0) C dX1_childAt_0 ?_
  refine g_get_X1_18 (pc := 1) C (by omega) dX1_childAt_1 ?_
  refine g_astore_3 (pc := 4) C dX1_childAt_4 ?_
  refine g_aload_3 (pc := 5) C dX1_childAt_5 ?_
  refine g_alen1 (pc := 6) C (by omega) dX1_childAt_6 ?_
  refine g_istore_4 (pc := 7) C dX1_childAt_7 ?_
  refine g_iconst (pc := 9) C dX1_childAt_9 ?_
  refine g_istore_5 (pc := 10) C dX1_childAt_10 ?_
  refine g_loop (σ := Option Value) (Tf := fun _ _ => T) (lvf := fun j a8 => [some (.ref (ad 0)), some (grf ad x), some (.int (zI a)), some (.ref (ad 1)), some (.int (zI 60)), some (.int (zI (j : Int))), a8]) (inv := fun j _ => chA (T 1) (T 14) (T 15) (T 16) x a j = -1) (N := 60) 0 none rfl (by omega) (fun j a8 hi hN ih => ?_)
  refine g_iload_5 (pc := 12) C dX1_childAt_12 ?_
  refine g_iload_4 (pc := 14) C dX1_childAt_14 ?_
  refine g_icmp_ge (pc := 16) (tgt := 57) C dX1_childAt_16 (by decide) (by omega) (by omega) (fun h16 => ?_) (fun h16 => ?_)
  · refine g_snull (pc := 57) C dX1_childAt_57 ?_
    refine g_aret (pc := 58) C grf_or (Nat.le_of_ble_eq_true rfl) (Nat.le_of_ble_eq_true rfl) dX1_childAt_58 ?_
    obtain rfl : j = 60 := by omega
    exact ⟨rfl, by rw [chC_eq, hi], rfl⟩
  · have hj := hV.2 j (by omega)
    have e9 : chA (T 1) (T 14) (T 15) (T 16) x a (j + 1) = if 0 ≤ chA (T 1) (T 14) (T 15) (T 16) x a j then chA (T 1) (T 14) (T 15) (T 16) x a j else if T 1 j ≠ 0 ∧ T 14 j = x ∧ T 15 j ≤ a ∧ a < T 15 j + T 16 j then (j : Int) else -1 := rfl
    rw [if_neg (by omega)] at e9
    refine g_aload_3 (pc := 19) C dX1_childAt_19 ?_
    refine g_iload_5 (pc := 20) C dX1_childAt_20 ?_
    first | refine g_aaldn (pc := 22) C (by omega) (by omega) dX1_childAt_22 ?_ | refine g_aald (pc := 22) C (by omega) (by omega) dX1_childAt_22 ?_
    rcases mkd_or T j with ⟨m1, m2⟩ | ⟨m1, m2⟩
    · rw [m2]
      refine g_sstore_6 (pc := 23) C dX1_childAt_23 ?_
      refine g_sload_6 (pc := 25) C dX1_childAt_25 ?_
      refine g_ifnull (pc := 27) (tgt := 51) C dX1_childAt_27 (by decide) (fun h27 => ?_) (fun h27 => ?_)
      · refine g_iinc_5 (pc := 51) C dX1_childAt_51 ?_
        refine g_goto (pc := 54) (tgt := 12) C dX1_childAt_54 (by decide) ?_
        rw [if_neg (by omega)] at e9
        exact ih _ (by omega) e9
      · omega
    · rw [m2]
      refine g_sstore_6 (pc := 23) C dX1_childAt_23 ?_
      refine g_sload_6 (pc := 25) C dX1_childAt_25 ?_
      refine g_ifnull (pc := 27) (tgt := 51) C dX1_childAt_27 (by decide) (fun h27 => ?_) (fun h27 => ?_)
      · omega
      · refine g_sload_6 (pc := 30) C dX1_childAt_30 ?_
        first | refine g_getn_X1_94 (pc := 32) C (by omega) dX1_childAt_32 ?_ | refine g_get_X1_94 (pc := 32) C (by omega) dX1_childAt_32 ?_
        refine g_sload_1 (pc := 35) C dX1_childAt_35 ?_
        refine g_acmp_ne (pc := 36) (tgt := 51) C dX1_childAt_36 (by decide) (by omega) (by omega) (fun h36 => ?_) (fun h36 => ?_)
        · refine g_iinc_5 (pc := 51) C dX1_childAt_51 ?_
          refine g_goto (pc := 54) (tgt := 12) C dX1_childAt_54 (by decide) ?_
          rw [if_neg (by omega)] at e9
          exact ih _ (by omega) e9
        · refine g_sload_6 (pc := 39) C dX1_childAt_39 ?_
          refine g_iload_2 (pc := 41) C dX1_childAt_41 ?_
          refine g_cS1Pv (pc := 42) C cs_X1_84 (kn_X0_has j a (by omega) (by omega) ha) ⟨Nat.le_of_ble_eq_true rfl, Nat.le_of_ble_eq_true rfl⟩ (by omega) (Nat.le_of_ble_eq_true rfl) ⟨Nat.le_of_ble_eq_true rfl, Nat.le_of_ble_eq_true rfl⟩ dX1_childAt_42 ?_
          refine g_if_eq (pc := 45) (tgt := 51) C dX1_childAt_45 (by decide) (by split <;> omega) (fun h45 => ?_) (fun h45 => ?_)
          · refine g_iinc_5 (pc := 51) C dX1_childAt_51 ?_
            refine g_goto (pc := 54) (tgt := 12) C dX1_childAt_54 (by decide) ?_
            rw [if_neg (by split at h45 <;> omega)] at e9
            exact ih _ (by omega) e9
          · rw [if_pos (by split at h45 <;> omega)] at e9
            have e11 : chA (T 1) (T 14) (T 15) (T 16) x a 60 = chA (T 1) (T 14) (T 15) (T 16) x a (j + 1) := chA_st (T 1) (T 14) (T 15) (T 16) x a (by show 0 ≤ chA (T 1) (T 14) (T 15) (T 16) x a (j + 1); rw [e9]; omega) (by omega)
            refine g_sload_6 (pc := 48) C dX1_childAt_48 ?_
            refine g_aret (pc := 50) C grf_or (Nat.le_of_ble_eq_true rfl) (Nat.le_of_ble_eq_true rfl) dX1_childAt_50 ?_
            exact ⟨rfl, by rw [chC_eq, e11, e9], rfl⟩
theorem k_X1_outsideChildren {l : Launch} {cs : CSt} {np : Nat} {ad : Nat → Nat} {T : MT} (hV : VC np T) (x : Int) (hx : 0 ≤ x ∧ x + 13 < np) : KD l cs yX1_outsideChildren (Cond.code yX1_outsideChildren cX1_outsideChildren 7 (some .int) :: GW) 0 0 0 [.ref (ad 0), grf ad x] np ad T 0 (some (.int (zI (outC T x)))) (np, ad, T) := by
  have hV0 := hV.1
  refine KC_of (cc := cX1_outsideChildren) (nL := 7) (rt := (some .int)) (by decide) (by simp [grf_cat, cat_int, cat_ref]) (by simp) ?_
  intro p e s m args below meth c A C hE hin
  refine g_eq (lv2 := [some (.ref (ad 0)), some (grf ad x), none, none, none, none, none]) rfl rfl rfl ?_
  refine g_sload_1 (pc := 0) C dX1_outsideChildren_0 ?_
  first | refine g_getn_X1_114 (pc := 1) C (by omega) dX1_outsideChildren_1 ?_ | refine g_get_X1_114 (pc := 1) C (by omega) dX1_outsideChildren_1 ?_
  refine g_istore_2 (pc := 4) C dX1_outsideChildren_4 ?_
  refine g_aload_0 (pc := 5) C dX1_outsideChildren_5 ?_
  refine g_get_X1_18 (pc := 6) C (by omega) dX1_outsideChildren_6 ?_
  refine g_astore_3 (pc := 9) C dX1_outsideChildren_9 ?_
  refine g_aload_3 (pc := 10) C dX1_outsideChildren_10 ?_
  refine g_alen1 (pc := 11) C (by omega) dX1_outsideChildren_11 ?_
  refine g_istore_4 (pc := 12) C dX1_outsideChildren_12 ?_
  refine g_iconst (pc := 14) C dX1_outsideChildren_14 ?_
  refine g_istore_5 (pc := 15) C dX1_outsideChildren_15 ?_
  refine g_eq (lv2 := [some (.ref (ad 0)), some (grf ad x), some (.int (zI (T 16 x.toNat - chS (T 1) (T 14) (T 16) x 0))), some (.ref (ad 1)), some (.int (zI 60)), some (.int (zI (0 : Nat))), none]) rfl (by rw [show chS (T 1) (T 14) (T 16) x 0 = 0 from rfl, Int.sub_zero]; rfl) rfl ?_
  refine g_loop (σ := Option Value) (Tf := fun _ _ => T) (lvf := fun j a8 => [some (.ref (ad 0)), some (grf ad x), some (.int (zI (T 16 x.toNat - chS (T 1) (T 14) (T 16) x j))), some (.ref (ad 1)), some (.int (zI 60)), some (.int (zI (j : Int))), a8]) (inv := fun _ _ => True) (N := 60) 0 none trivial (by omega) (fun j a8 _ hN ih => ?_)
  refine g_iload_5 (pc := 17) C dX1_outsideChildren_17 ?_
  refine g_iload_4 (pc := 19) C dX1_outsideChildren_19 ?_
  refine g_icmp_ge (pc := 21) (tgt := 58) C dX1_outsideChildren_21 (by decide) (by omega) (by omega) (fun h21 => ?_) (fun h21 => ?_)
  · refine g_iload_2 (pc := 58) C dX1_outsideChildren_58 ?_
    refine g_iret (pc := 59) C (Nat.le_of_ble_eq_true rfl) (Nat.le_of_ble_eq_true rfl) dX1_outsideChildren_59 ?_
    obtain rfl : j = 60 := by omega
    exact ⟨rfl, rfl, rfl⟩
  · have hj := hV.2 j (by omega)
    have e9 : chS (T 1) (T 14) (T 16) x (j + 1) = chS (T 1) (T 14) (T 16) x j + (if T 1 j ≠ 0 ∧ T 14 j = x then T 16 j else 0) := rfl
    refine g_aload_3 (pc := 24) C dX1_outsideChildren_24 ?_
    refine g_iload_5 (pc := 25) C dX1_outsideChildren_25 ?_
    first | refine g_aaldn (pc := 27) C (by omega) (by omega) dX1_outsideChildren_27 ?_ | refine g_aald (pc := 27) C (by omega) (by omega) dX1_outsideChildren_27 ?_
    rcases mkd_or T j with ⟨m1, m2⟩ | ⟨m1, m2⟩
    · rw [m2]
      refine g_sstore_6 (pc := 28) C dX1_outsideChildren_28 ?_
      refine g_sload_6 (pc := 30) C dX1_outsideChildren_30 ?_
      refine g_ifnull (pc := 32) (tgt := 52) C dX1_outsideChildren_32 (by decide) (fun h32 => ?_) (fun h32 => ?_)
      · refine g_iinc_5 (pc := 52) C dX1_outsideChildren_52 ?_
        refine g_goto (pc := 55) (tgt := 17) C dX1_outsideChildren_55 (by decide) ?_
        rw [if_neg (by omega)] at e9
        exact g_eq rfl (by rw [e9, Int.add_zero]; rfl) rfl (ih _ (by omega) trivial)
      · omega
    · rw [m2]
      refine g_sstore_6 (pc := 28) C dX1_outsideChildren_28 ?_
      refine g_sload_6 (pc := 30) C dX1_outsideChildren_30 ?_
      refine g_ifnull (pc := 32) (tgt := 52) C dX1_outsideChildren_32 (by decide) (fun h32 => ?_) (fun h32 => ?_)
      · omega
      · refine g_sload_6 (pc := 35) C dX1_outsideChildren_35 ?_
        first | refine g_getn_X1_94 (pc := 37) C (by omega) dX1_outsideChildren_37 ?_ | refine g_get_X1_94 (pc := 37) C (by omega) dX1_outsideChildren_37 ?_
        refine g_sload_1 (pc := 40) C dX1_outsideChildren_40 ?_
        refine g_acmp_ne (pc := 41) (tgt := 52) C dX1_outsideChildren_41 (by decide) (by omega) (by omega) (fun h41 => ?_) (fun h41 => ?_)
        · refine g_iinc_5 (pc := 52) C dX1_outsideChildren_52 ?_
          refine g_goto (pc := 55) (tgt := 17) C dX1_outsideChildren_55 (by decide) ?_
          rw [if_neg (by omega)] at e9
          exact g_eq rfl (by rw [e9, Int.add_zero]; rfl) rfl (ih _ (by omega) trivial)
        · refine g_iload_2 (pc := 44) C dX1_outsideChildren_44 ?_
          refine g_sload_6 (pc := 45) C dX1_outsideChildren_45 ?_
          first | refine g_getn_X1_114 (pc := 47) C (by omega) dX1_outsideChildren_47 ?_ | refine g_get_X1_114 (pc := 47) C (by omega) dX1_outsideChildren_47 ?_
          refine g_isub (pc := 50) C dX1_outsideChildren_50 ?_
          refine g_istore_2 (pc := 51) C dX1_outsideChildren_51 ?_
          refine g_iinc_5 (pc := 52) C dX1_outsideChildren_52 ?_
          refine g_goto (pc := 55) (tgt := 17) C dX1_outsideChildren_55 (by decide) ?_
          rw [if_pos (by omega)] at e9
          exact g_eq rfl (by rw [e9, ← Int.sub_sub]; rfl) rfl (ih _ (by omega) trivial)
theorem k_X1_greatestBlock {l : Launch} {cs : CSt} {np : Nat} {ad : Nat → Nat} {T : MT} (a b : Int) (ha : 0 ≤ a ∧ a ≤ 4096 ∧ 0 ≤ b ∧ b ≤ 4096) : KD l cs yX1_greatestBlock (Cond.code yX1_greatestBlock cX1_greatestBlock 4 (some .int) :: GW) 0 0 0 [.int (zI a), .int (zI b)] np ad T 0 (some (.int (zI (gbk a b)))) (np, ad, T) := by
  refine KC_of (cc := cX1_greatestBlock) (nL := 4) (rt := (some .int)) (by decide) (by simp [grf_cat, cat_int, cat_ref]) (by simp) ?_
  intro p e s m args below meth c A C hE hin
  refine g_eq (lv2 := [some (.int (zI a)), some (.int (zI b)), none, none]) rfl rfl rfl ?_
  refine g_iconst (pc := 0) C dX1_greatestBlock_0 ?_
  refine g_istore_2 (pc := 1) C dX1_greatestBlock_1 ?_
  refine g_iconst (pc := 2) C dX1_greatestBlock_2 ?_
  refine g_istore_3 (pc := 3) C dX1_greatestBlock_3 ?_
  refine g_loop (σ := Int) (Tf := fun _ _ => T) (lvf := fun j w => [some (.int (zI a)), some (.int (zI b)), some (.int (zI w)), some (.int (zI (2 * w)))]) (inv := fun j w => gbf a b (13 - j) w = gbk a b ∧ w = 2 ^ j) (N := 12) 0 1 ⟨rfl, rfl⟩ (by omega) (fun j w hi hN ih => ?_)
  obtain ⟨h1, h2⟩ := hi
  have h3 : gbf a b (13 - j) w = if 2 * w ≤ b - a ∧ 2 * w ≤ 4096 ∧ a % (2 * w) = 0 then gbf a b (13 - (j + 1)) (2 * w) else w := by
    rw [show 13 - j = (13 - (j + 1)) + 1 by omega]
    rfl
  have hw := p2_case hN h2
  refine g_iload_3 (pc := 4) C dX1_greatestBlock_4 ?_
  refine g_iload_1 (pc := 5) C dX1_greatestBlock_5 ?_
  refine g_iload_0 (pc := 6) C dX1_greatestBlock_6 ?_
  refine g_isub (pc := 7) C dX1_greatestBlock_7 ?_
  refine g_icmp_gt (pc := 8) (tgt := 35) C dX1_greatestBlock_8 (by decide) (by omega) (by omega) (fun h8 => ?_) (fun h8 => ?_)
  · refine g_iload_2 (pc := 35) C dX1_greatestBlock_35 ?_
    refine g_iret (pc := 36) C (Nat.le_of_ble_eq_true rfl) (Nat.le_of_ble_eq_true rfl) dX1_greatestBlock_36 ?_
    rw [if_neg (by omega)] at h3
    exact ⟨rfl, by rw [← h1, h3], rfl⟩
  · refine g_iload_3 (pc := 11) C dX1_greatestBlock_11 ?_
    refine g_sipush (pc := 12) C dX1_greatestBlock_12 (by decide) ?_
    refine g_icmp_gt (pc := 15) (tgt := 35) C dX1_greatestBlock_15 (by decide) (by omega) (by omega) (fun h15 => ?_) (fun h15 => ?_)
    · refine g_iload_2 (pc := 35) C dX1_greatestBlock_35 ?_
      refine g_iret (pc := 36) C (Nat.le_of_ble_eq_true rfl) (Nat.le_of_ble_eq_true rfl) dX1_greatestBlock_36 ?_
      rw [if_neg (by omega)] at h3
      exact ⟨rfl, by rw [← h1, h3], rfl⟩
    · have h4 := (hw.2.2 (by omega)).1
      have h5 := and_p2 (a := a) (t := 2 * w) (by omega) h4
      have h6 : 0 ≤ a % (2 * w) := Int.emod_nonneg _ (by omega)
      have h7 : a % (2 * w) < 2 * w := Int.emod_lt_of_pos _ (by omega)
      refine g_iload_0 (pc := 18) C dX1_greatestBlock_18 ?_
      refine g_iload_3 (pc := 19) C dX1_greatestBlock_19 ?_
      refine g_iconst (pc := 20) C dX1_greatestBlock_20 ?_
      refine g_isub (pc := 21) C dX1_greatestBlock_21 ?_
      refine g_iandz (pc := 22) C dX1_greatestBlock_22 h5 ?_
      refine g_if_ne (pc := 23) (tgt := 35) C dX1_greatestBlock_23 (by decide) (by omega) (fun h23 => ?_) (fun h23 => ?_)
      · refine g_iload_2 (pc := 35) C dX1_greatestBlock_35 ?_
        refine g_iret (pc := 36) C (Nat.le_of_ble_eq_true rfl) (Nat.le_of_ble_eq_true rfl) dX1_greatestBlock_36 ?_
        rw [if_neg (by omega)] at h3
        exact ⟨rfl, by rw [← h1, h3], rfl⟩
      · refine g_iload_3 (pc := 26) C dX1_greatestBlock_26 ?_
        refine g_istore_2 (pc := 27) C dX1_greatestBlock_27 ?_
        refine g_iload_3 (pc := 28) C dX1_greatestBlock_28 ?_
        refine g_iconst (pc := 29) C dX1_greatestBlock_29 ?_
        refine g_imul (pc := 30) C dX1_greatestBlock_30 ?_
        refine g_istore_3 (pc := 31) C dX1_greatestBlock_31 ?_
        refine g_goto (pc := 32) (tgt := 4) C dX1_greatestBlock_32 (by decide) ?_
        rw [if_pos (by omega)] at h3
        exact g_eq rfl (by rw [Int.mul_comm (2 * w) 2]) rfl (ih (2 * w) (by omega) ⟨by rw [← h3, h1], by rw [h2, Int.pow_succ, Int.mul_comm]⟩)
end
section
theorem k_X1_roomAt {l : Launch} {cs : CSt} {np : Nat} {ad : Nat → Nat} {T : MT} (hV : VC np T) (x a : Int) (hx : isS T x) (ha : 0 ≤ a ∧ a ≤ 4096) : KD l cs yX1_roomAt (Cond.code yX1_roomAt cX1_roomAt 8 (some .int) :: GW) 1 0 0 [.ref (ad 0), grf ad x, .int (zI a)] np ad T 0 (some (.int (zI (roomC T x a)))) (np, ad, T) := by
  have hV0 := hV.s hx
  have hV1 := hV.1
  have hb : ∀ j : Nat, j ≤ 60 → 0 ≤ rmE (T 1) (T 14) (T 15) x a (T 15 x.toNat + T 16 x.toNat) j ∧ rmE (T 1) (T 14) (T 15) x a (T 15 x.toNat + T 16 x.toNat) j ≤ 4096 := fun j hj => by
    have h := rmE_bd (T 1) (T 14) (T 15) x a (T 15 x.toNat + T 16 x.toNat) (by omega) (by omega) j (fun i hi h => by have := hV.2 i (by omega); omega)
    omega
  refine KC_of (cc := cX1_roomAt) (nL := 8) (rt := (some .int)) (by decide) (by simp [grf_cat, cat_int, cat_ref]) (by simp) ?_
  intro p e s m args below meth c A C hE hin
  refine g_eq (lv2 := [some (.ref (ad 0)), some (grf ad x), some (.int (zI a)), none, none, none, none, none]) rfl rfl rfl ?_
  refine g_sload_1 (pc := 0) C dX1_roomAt_0 ?_
  refine g_cS0Pv (pc := 1) C cs_X1_104 (k_X0_end x (by omega)) ⟨Nat.le_of_ble_eq_true rfl, Nat.le_of_ble_eq_true rfl⟩ (by omega) (Nat.le_of_ble_eq_true rfl) ⟨Nat.le_of_ble_eq_true rfl, Nat.le_of_ble_eq_true rfl⟩ dX1_roomAt_1 ?_
  refine g_istore_3 (pc := 4) C dX1_roomAt_4 ?_
  refine g_aload_0 (pc := 5) C dX1_roomAt_5 ?_
  refine g_get_X1_18 (pc := 6) C (by omega) dX1_roomAt_6 ?_
  refine g_astore_4 (pc := 9) C dX1_roomAt_9 ?_
  refine g_aload_4 (pc := 11) C dX1_roomAt_11 ?_
  refine g_alen1 (pc := 13) C (by omega) dX1_roomAt_13 ?_
  refine g_istore_5 (pc := 14) C dX1_roomAt_14 ?_
  refine g_iconst (pc := 16) C dX1_roomAt_16 ?_
  refine g_istore_6 (pc := 17) C dX1_roomAt_17 ?_
  refine g_loop (σ := Option Value) (Tf := fun _ _ => T) (lvf := fun j a8 => [some (.ref (ad 0)), some (grf ad x), some (.int (zI a)), some (.int (zI (rmE (T 1) (T 14) (T 15) x a (T 15 x.toNat + T 16 x.toNat) j))), some (.ref (ad 1)), some (.int (zI 60)), some (.int (zI (j : Int))), a8]) (inv := fun _ _ => True) (N := 60) 0 none trivial (by omega) (fun j a8 _ hN ih => ?_)
  have hbj := hb j hN
  refine g_iload_6 (pc := 19) C dX1_roomAt_19 ?_
  refine g_iload_5 (pc := 21) C dX1_roomAt_21 ?_
  refine g_icmp_ge (pc := 23) (tgt := 72) C dX1_roomAt_23 (by decide) (by omega) (by omega) (fun h23 => ?_) (fun h23 => ?_)
  · obtain rfl : j = 60 := by omega
    refine g_iload_2 (pc := 72) C dX1_roomAt_72 ?_
    refine g_iload_3 (pc := 73) C dX1_roomAt_73 ?_
    refine g_cT2Pv (pc := 74) C cs_X1_197 (k_X1_greatestBlock _ _ (by omega)) ⟨Nat.le_of_ble_eq_true rfl, Nat.le_of_ble_eq_true rfl⟩ (Nat.le_of_ble_eq_true rfl) ⟨Nat.le_of_ble_eq_true rfl, Nat.le_of_ble_eq_true rfl⟩ dX1_roomAt_74 ?_
    refine g_iret (pc := 77) C (Nat.le_of_ble_eq_true rfl) (Nat.le_of_ble_eq_true rfl) dX1_roomAt_77 ?_
    exact ⟨rfl, by rw [roomC_eq], rfl⟩
  · have hj := hV.2 j (by omega)
    have e9 : rmE (T 1) (T 14) (T 15) x a (T 15 x.toNat + T 16 x.toNat) (j + 1) = if T 1 j ≠ 0 ∧ T 14 j = x ∧ a < T 15 j then min (rmE (T 1) (T 14) (T 15) x a (T 15 x.toNat + T 16 x.toNat) j) (T 15 j) else rmE (T 1) (T 14) (T 15) x a (T 15 x.toNat + T 16 x.toNat) j := rfl
    refine g_aload_4 (pc := 26) C dX1_roomAt_26 ?_
    refine g_iload_6 (pc := 28) C dX1_roomAt_28 ?_
    first | refine g_aaldn (pc := 30) C (by omega) (by omega) dX1_roomAt_30 ?_ | refine g_aald (pc := 30) C (by omega) (by omega) dX1_roomAt_30 ?_
    rcases mkd_or T j with ⟨m1, m2⟩ | ⟨m1, m2⟩
    · rw [m2]
      refine g_sstore_7 (pc := 31) C dX1_roomAt_31 ?_
      refine g_sload_7 (pc := 33) C dX1_roomAt_33 ?_
      refine g_ifnull (pc := 35) (tgt := 66) C dX1_roomAt_35 (by decide) (fun h35 => ?_) (fun h35 => ?_)
      · refine g_iinc_6 (pc := 66) C dX1_roomAt_66 ?_
        refine g_goto (pc := 69) (tgt := 19) C dX1_roomAt_69 (by decide) ?_
        rw [if_neg (by omega)] at e9
        exact g_eq rfl (by rw [e9]; rfl) rfl (ih _ (by omega) trivial)
      · omega
    · rw [m2]
      refine g_sstore_7 (pc := 31) C dX1_roomAt_31 ?_
      refine g_sload_7 (pc := 33) C dX1_roomAt_33 ?_
      refine g_ifnull (pc := 35) (tgt := 66) C dX1_roomAt_35 (by decide) (fun h35 => ?_) (fun h35 => ?_)
      · omega
      · refine g_sload_7 (pc := 38) C dX1_roomAt_38 ?_
        first | refine g_getn_X1_94 (pc := 40) C (by omega) dX1_roomAt_40 ?_ | refine g_get_X1_94 (pc := 40) C (by omega) dX1_roomAt_40 ?_
        refine g_sload_1 (pc := 43) C dX1_roomAt_43 ?_
        refine g_acmp_ne (pc := 44) (tgt := 66) C dX1_roomAt_44 (by decide) (by omega) (by omega) (fun h44 => ?_) (fun h44 => ?_)
        · refine g_iinc_6 (pc := 66) C dX1_roomAt_66 ?_
          refine g_goto (pc := 69) (tgt := 19) C dX1_roomAt_69 (by decide) ?_
          rw [if_neg (by omega)] at e9
          exact g_eq rfl (by rw [e9]; rfl) rfl (ih _ (by omega) trivial)
        · refine g_sload_7 (pc := 47) C dX1_roomAt_47 ?_
          first | refine g_getn_X1_101 (pc := 49) C (by omega) dX1_roomAt_49 ?_ | refine g_get_X1_101 (pc := 49) C (by omega) dX1_roomAt_49 ?_
          refine g_iload_2 (pc := 52) C dX1_roomAt_52 ?_
          refine g_icmp_le (pc := 53) (tgt := 66) C dX1_roomAt_53 (by decide) (by omega) (by omega) (fun h53 => ?_) (fun h53 => ?_)
          · refine g_iinc_6 (pc := 66) C dX1_roomAt_66 ?_
            refine g_goto (pc := 69) (tgt := 19) C dX1_roomAt_69 (by decide) ?_
            rw [if_neg (by omega)] at e9
            exact g_eq rfl (by rw [e9]; rfl) rfl (ih _ (by omega) trivial)
          · refine g_iload_3 (pc := 56) C dX1_roomAt_56 ?_
            refine g_sload_7 (pc := 57) C dX1_roomAt_57 ?_
            first | refine g_getn_X1_101 (pc := 59) C (by omega) dX1_roomAt_59 ?_ | refine g_get_X1_101 (pc := 59) C (by omega) dX1_roomAt_59 ?_
            refine g_min (pc := 62) C ml_X1_163 ini_java_lang_Math ⟨Nat.le_of_ble_eq_true rfl, Nat.le_of_ble_eq_true rfl, Nat.le_of_ble_eq_true rfl, Nat.le_of_ble_eq_true rfl⟩ (by omega) (by omega) dX1_roomAt_62 ?_
            refine g_istore_3 (pc := 65) C dX1_roomAt_65 ?_
            refine g_iinc_6 (pc := 66) C dX1_roomAt_66 ?_
            refine g_goto (pc := 69) (tgt := 19) C dX1_roomAt_69 (by decide) ?_
            rw [if_pos (by omega)] at e9
            exact g_eq rfl (by rw [e9]; rfl) rfl (ih _ (by omega) trivial)
theorem k_X1_countBlocks {l : Launch} {cs : CSt} {np : Nat} {ad : Nat → Nat} {T : MT} (a b : Int) (ha : 0 ≤ a ∧ a ≤ 4096 ∧ 0 ≤ b ∧ b ≤ 4096) : KD l cs yX1_countBlocks (Cond.code yX1_countBlocks cX1_countBlocks 4 (some .int) :: GW) 1 0 0 [.int (zI a), .int (zI b)] np ad T 0 (some (.int (zI (cbk b 4096 a)))) (np, ad, T) := by
  refine KC_of (cc := cX1_countBlocks) (nL := 4) (rt := (some .int)) (by decide) (by simp [grf_cat, cat_int, cat_ref]) (by simp) ?_
  intro p e s m args below meth c A C hE hin
  refine g_eq (lv2 := [some (.int (zI a)), some (.int (zI b)), none, none]) rfl rfl rfl ?_
  refine g_iconst (pc := 0) C dX1_countBlocks_0 ?_
  refine g_istore_2 (pc := 1) C dX1_countBlocks_1 ?_
  refine g_iload_0 (pc := 2) C dX1_countBlocks_2 ?_
  refine g_istore_3 (pc := 3) C dX1_countBlocks_3 ?_
  refine g_loop (σ := Int) (Tf := fun _ _ => T) (lvf := fun j w => [some (.int (zI a)), some (.int (zI b)), some (.int (zI (j : Int))), some (.int (zI w))]) (inv := fun j w => 0 ≤ w ∧ w ≤ 4096 ∧ cbk b 4096 a = j + cbk b (4096 - j) w) (N := 4096) 0 a ⟨by omega, by omega, by simp⟩ (by omega) (fun j w hi hN ih => ?_)
  obtain ⟨h1, h2, h3⟩ := hi
  have hg := gbk_bd w b
  refine g_iload_3 (pc := 4) C dX1_countBlocks_4 ?_
  refine g_iload_1 (pc := 5) C dX1_countBlocks_5 ?_
  refine g_icmp_ge (pc := 6) (tgt := 30) C dX1_countBlocks_6 (by decide) (by omega) (by omega) (fun h6 => ?_) (fun h6 => ?_)
  · refine g_iload_2 (pc := 30) C dX1_countBlocks_30 ?_
    refine g_iret (pc := 31) C (Nat.le_of_ble_eq_true rfl) (Nat.le_of_ble_eq_true rfl) dX1_countBlocks_31 ?_
    have e9 : cbk b (4096 - j) w = 0 := by
      cases hq : 4096 - j with
      | zero => rfl
      | succ q => show ite _ _ _ = _; rw [if_neg (by omega)]
    exact ⟨rfl, by rw [h3, e9, Int.add_zero], rfl⟩
  · refine g_iload_2 (pc := 9) C dX1_countBlocks_9 ?_
    refine g_sipush (pc := 10) C dX1_countBlocks_10 (by decide) ?_
    refine g_icmp_ge (pc := 13) (tgt := 30) C dX1_countBlocks_13 (by decide) (by omega) (by omega) (fun h13 => ?_) (fun h13 => ?_)
    · refine g_iload_2 (pc := 30) C dX1_countBlocks_30 ?_
      refine g_iret (pc := 31) C (Nat.le_of_ble_eq_true rfl) (Nat.le_of_ble_eq_true rfl) dX1_countBlocks_31 ?_
      obtain rfl : j = 4096 := by omega
      exact ⟨rfl, by rw [h3, show cbk b (4096 - 4096) w = 0 from rfl, Int.add_zero], rfl⟩
    · refine g_iload_3 (pc := 16) C dX1_countBlocks_16 ?_
      refine g_iload_3 (pc := 17) C dX1_countBlocks_17 ?_
      refine g_iload_1 (pc := 18) C dX1_countBlocks_18 ?_
      refine g_cT2Pv (pc := 19) C cs_X1_197 (k_X1_greatestBlock _ _ (by omega)) ⟨Nat.le_of_ble_eq_true rfl, Nat.le_of_ble_eq_true rfl⟩ (Nat.le_of_ble_eq_true rfl) ⟨Nat.le_of_ble_eq_true rfl, Nat.le_of_ble_eq_true rfl⟩ dX1_countBlocks_19 ?_
      refine g_iadd (pc := 22) C dX1_countBlocks_22 ?_
      refine g_istore_3 (pc := 23) C dX1_countBlocks_23 ?_
      refine g_iinc_2 (pc := 24) C dX1_countBlocks_24 ?_
      refine g_goto (pc := 27) (tgt := 4) C dX1_countBlocks_27 (by decide) ?_
      have e9 : cbk b (4096 - j) w = 1 + cbk b (4096 - (j + 1)) (w + gbk w b) := by
        rw [show 4096 - j = (4096 - (j + 1)) + 1 by omega]
        show ite _ _ _ = _
        rw [if_pos (by omega)]
      exact ih (w + gbk w b) (by omega) ⟨by omega, by omega, by rw [h3, e9]; omega⟩
theorem k_X1_lowestFree {l : Launch} {cs : CSt} {np : Nat} {ad : Nat → Nat} {T : MT} (hV : VC np T) (hA : VA T) (x : Int) (hx : isS T x) : KD l cs yX1_lowestFree (Cond.code yX1_lowestFree cX1_lowestFree 3 (some .int) :: GW) 1 0 0 [.ref (ad 0), grf ad x] np ad T 0 (some (.int (zI (lwf (T 2) (T 15 x.toNat).toNat (T 16 x.toNat).toNat)))) (np, ad, T) := by
  have hV0 := hV.s hx
  refine KC_of (cc := cX1_lowestFree) (nL := 3) (rt := (some .int)) (by decide) (by simp [grf_cat, cat_int, cat_ref]) (by simp) ?_
  intro p e s m args below meth c A C hE hin
  refine g_eq (lv2 := [some (.ref (ad 0)), some (grf ad x), none]) rfl rfl rfl ?_
  refine g_sload_1 (pc := 0) C dX1_lowestFree_0 ?_
  first | refine g_getn_X1_101 (pc := 1) C (by omega) dX1_lowestFree_1 ?_ | refine g_get_X1_101 (pc := 1) C (by omega) dX1_lowestFree_1 ?_
  refine g_istore_2 (pc := 4) C dX1_lowestFree_4 ?_
  refine g_eq (lv2 := [some (.ref (ad 0)), some (grf ad x), some (.int (zI (T 15 x.toNat + (0 : Nat))))]) rfl (by rw [Int.natCast_zero, Int.add_zero]) rfl ?_
  refine g_loop (σ := Unit) (Tf := fun _ _ => T) (lvf := fun j _ => [some (.ref (ad 0)), some (grf ad x), some (.int (zI (T 15 x.toNat + (j : Int))))]) (inv := fun j _ => (j : Int) ≤ T 16 x.toNat ∧ lwf (T 2) (T 15 x.toNat).toNat j = -1) (N := 4096) 0 () ⟨by omega, rfl⟩ (by omega) (fun j _ hi hN ih => ?_)
  obtain ⟨h1, h2⟩ := hi
  have e9 : lwf (T 2) (T 15 x.toNat).toNat (j + 1) = if 0 ≤ lwf (T 2) (T 15 x.toNat).toNat j then lwf (T 2) (T 15 x.toNat).toNat j else if T 2 ((T 15 x.toNat).toNat + j) = 0 then ((T 15 x.toNat).toNat : Int) + j else -1 := rfl
  rw [if_neg (by omega)] at e9
  have e8 : (T 15 x.toNat + (j : Int)).toNat = (T 15 x.toNat).toNat + j := by omega
  refine g_iload_2 (pc := 5) C dX1_lowestFree_5 ?_
  refine g_sload_1 (pc := 6) C dX1_lowestFree_6 ?_
  refine g_cS0Pv (pc := 7) C cs_X1_104 (k_X0_end x (by omega)) ⟨Nat.le_of_ble_eq_true rfl, Nat.le_of_ble_eq_true rfl⟩ (by omega) (Nat.le_of_ble_eq_true rfl) ⟨Nat.le_of_ble_eq_true rfl, Nat.le_of_ble_eq_true rfl⟩ dX1_lowestFree_7 ?_
  refine g_icmp_ge (pc := 10) (tgt := 37) C dX1_lowestFree_10 (by decide) (by omega) (by omega) (fun h10 => ?_) (fun h10 => ?_)
  · refine g_iconst (pc := 37) C dX1_lowestFree_37 ?_
    refine g_iret (pc := 38) C (Nat.le_of_ble_eq_true rfl) (Nat.le_of_ble_eq_true rfl) dX1_lowestFree_38 ?_
    obtain rfl : j = (T 16 x.toNat).toNat := by omega
    exact ⟨rfl, by rw [h2], rfl⟩
  · have hj2 := hA.2 ((T 15 x.toNat).toNat + j) (by omega)
    refine g_iload_2 (pc := 13) C dX1_lowestFree_13 ?_
    refine g_cT1Pv (pc := 14) C cs_X1_136 (k_X1_isAddress _ (by omega)) ⟨Nat.le_of_ble_eq_true rfl, Nat.le_of_ble_eq_true rfl⟩ (Nat.le_of_ble_eq_true rfl) ⟨Nat.le_of_ble_eq_true rfl, Nat.le_of_ble_eq_true rfl⟩ dX1_lowestFree_14 ?_
    refine g_if_eq (pc := 17) (tgt := 37) C dX1_lowestFree_17 (by decide) (by split <;> omega) (fun h17 => ?_) (fun h17 => ?_)
    · rw [if_pos (by omega)] at h17
      omega
    · refine g_aload_0 (pc := 20) C dX1_lowestFree_20 ?_
      refine g_get_X1_26 (pc := 21) C (by omega) dX1_lowestFree_21 ?_
      refine g_iload_2 (pc := 24) C dX1_lowestFree_24 ?_
      first | refine g_aldn_2 (pc := 25) C (by omega) (by omega) dX1_lowestFree_25 ?_ | refine g_ald_2 (pc := 25) C (by omega) (by omega) dX1_lowestFree_25 ?_
      rw [e8]
      refine g_if_ne (pc := 26) (tgt := 31) C dX1_lowestFree_26 (by decide) (by omega) (fun h26 => ?_) (fun h26 => ?_)
      · refine g_iinc_2 (pc := 31) C dX1_lowestFree_31 ?_
        refine g_goto (pc := 34) (tgt := 5) C dX1_lowestFree_34 (by decide) ?_
        rw [if_neg (by omega)] at e9
        exact g_eq rfl (by rw [Int.add_assoc]; rfl) rfl (ih () (by omega) ⟨by omega, e9⟩)
      · refine g_iload_2 (pc := 29) C dX1_lowestFree_29 ?_
        refine g_iret (pc := 30) C (Nat.le_of_ble_eq_true rfl) (Nat.le_of_ble_eq_true rfl) dX1_lowestFree_30 ?_
        rw [if_pos (by omega)] at e9
        have e10 : ∀ k, j + 1 ≤ k → lwf (T 2) (T 15 x.toNat).toNat k = lwf (T 2) (T 15 x.toNat).toNat (j + 1) := by
          intro k hk
          induction k with
          | zero => omega
          | succ k ihk =>
            by_cases e : j = k
            · rw [e]
            · have h9 := ihk (by omega)
              show ite _ _ _ = _
              rw [if_pos (by rw [h9, e9]; omega), h9]
        exact ⟨rfl, by rw [e10 _ (by omega), e9, Int.toNat_of_nonneg (by omega)], rfl⟩
set_option maxRecDepth 100000 in
theorem k_X1_chosenBlock {l : Launch} {cs : CSt} {np : Nat} {ad : Nat → Nat} {T : MT} (hV : VC np T) (x S : Int) (lst : Bool) (hx : isS T x) (hS : 1 ≤ S ∧ S ≤ 4096) : KD l cs yX1_chosenBlock (Cond.code yX1_chosenBlock cX1_chosenBlock 11 (some .int) :: GW) 3 0 0 [.ref (ad 0), grf ad x, .int (zI S), .int (zI (if lst = true then 1 else 0))] np ad T 0 (some (.int (zI (chB T x S lst)))) (np, ad, T) := by
  have hV0 := hV.s hx
  have hV1 := hV.1
  have hl1 : (lst = true ∧ (if lst = true then (1 : Int) else 0) = 1) ∨ (lst = false ∧ (if lst = true then (1 : Int) else 0) = 0) := by cases lst <;> simp
  refine KC_of (cc := cX1_chosenBlock) (nL := 11) (rt := (some .int)) (by decide) (by simp [grf_cat, cat_int, cat_ref]) (by simp) ?_
  intro p e s m args below meth c A C hE hin
  refine g_eq (lv2 := [some (.ref (ad 0)), some (grf ad x), some (.int (zI S)), some (.int (zI (if lst = true then 1 else 0))), none, none, none, none, none, none, none]) rfl rfl rfl ?_
  refine g_iconst (pc := 0) C dX1_chosenBlock_0 ?_
  refine g_istore_4 (pc := 1) C dX1_chosenBlock_1 ?_
  refine g_iconst (pc := 3) C dX1_chosenBlock_3 ?_
  refine g_istore_5 (pc := 4) C dX1_chosenBlock_4 ?_
  refine g_sload_1 (pc := 6) C dX1_chosenBlock_6 ?_
  first | refine g_getn_X1_101 (pc := 7) C (by omega) dX1_chosenBlock_7 ?_ | refine g_get_X1_101 (pc := 7) C (by omega) dX1_chosenBlock_7 ?_
  refine g_istore_6 (pc := 10) C dX1_chosenBlock_10 ?_
  refine g_iconst (pc := 12) C dX1_chosenBlock_12 ?_
  refine g_istore_7 (pc := 13) C dX1_chosenBlock_13 ?_
  refine g_loop (σ := (Int × Int × Int) × Option Value × Option Value × Option Value) (Tf := fun _ _ => T) (lvf := fun j z => [some (.ref (ad 0)), some (grf ad x), some (.int (zI S)), some (.int (zI (if lst = true then 1 else 0))), some (.int (zI z.1.1)), some (.int (zI z.1.2.1)), some (.int (zI z.1.2.2)), some (.int (zI (j : Int))), z.2.1, z.2.2.1, z.2.2.2]) (inv := fun j z => cbI T x S lst j = z.1 ∧ -1 ≤ z.1.1 ∧ z.1.1 ≤ 4096 ∧ 0 ≤ z.1.2.1 ∧ z.1.2.1 ≤ 4096 ∧ 0 ≤ z.1.2.2 ∧ z.1.2.2 ≤ 4096) (N := 4096) 0 ((-1, 0, T 15 x.toNat), none, none, none) ⟨rfl, by simp, by simp, by simp, by simp, hV0.2.2.2.2.2.2.2.1, by show T 15 x.toNat ≤ 4096; omega⟩ (by omega) (fun j z hi hN ih => ?_)
  obtain ⟨⟨ch, cr, at_⟩, a8, a9, a10⟩ := z
  dsimp only at hi ih ⊢
  obtain ⟨h1, h2, h3, h4, h5, h6, h7⟩ := hi
  have e9 : cbI T x S lst (j + 1) = cbS T x S lst (cbI T x S lst j) := rfl
  rw [h1] at e9
  unfold cbS at e9
  dsimp only at e9
  refine g_iload_7 (pc := 15) C dX1_chosenBlock_15 ?_
  refine g_sipush (pc := 17) C dX1_chosenBlock_17 (by decide) ?_
  refine g_icmp_ge (pc := 20) (tgt := 131) C dX1_chosenBlock_20 (by decide) (by omega) (by omega) (fun h20 => ?_) (fun h20 => ?_)
  · refine g_iload_4 (pc := 131) C dX1_chosenBlock_131 ?_
    refine g_iret (pc := 133) C (Nat.le_of_ble_eq_true rfl) (Nat.le_of_ble_eq_true rfl) dX1_chosenBlock_133 ?_
    obtain rfl : j = 4096 := by omega
    exact ⟨rfl, by rw [chB_eq, h1], rfl⟩
  · refine g_iload_6 (pc := 23) C dX1_chosenBlock_23 ?_
    refine g_sload_1 (pc := 25) C dX1_chosenBlock_25 ?_
    refine g_cS0Pv (pc := 26) C cs_X1_104 (k_X0_end x (by omega)) ⟨Nat.le_of_ble_eq_true rfl, Nat.le_of_ble_eq_true rfl⟩ (by omega) (Nat.le_of_ble_eq_true rfl) ⟨Nat.le_of_ble_eq_true rfl, Nat.le_of_ble_eq_true rfl⟩ dX1_chosenBlock_26 ?_
    refine g_icmp_ge (pc := 29) (tgt := 131) C dX1_chosenBlock_29 (by decide) (by omega) (by omega) (fun h29 => ?_) (fun h29 => ?_)
    · refine g_iload_4 (pc := 131) C dX1_chosenBlock_131 ?_
      refine g_iret (pc := 133) C (Nat.le_of_ble_eq_true rfl) (Nat.le_of_ble_eq_true rfl) dX1_chosenBlock_133 ?_
      have e10 := cbI_fix T x S lst j (4096 - j) (by rw [h1]; exact h29)
      rw [show j + (4096 - j) = 4096 by omega, h1] at e10
      exact ⟨rfl, by rw [chB_eq, e10], rfl⟩
    · rw [if_neg (by omega)] at e9
      have hcb := chC_bd T x at_ 60
      refine g_aload_0 (pc := 32) C dX1_chosenBlock_32 ?_
      refine g_sload_1 (pc := 33) C dX1_chosenBlock_33 ?_
      refine g_iload_6 (pc := 34) C dX1_chosenBlock_34 ?_
      refine g_cY2Pv (pc := 36) C cs_X1_168 (k_X1_childAt hV x at_ (by omega) (by omega)) ⟨Nat.le_of_ble_eq_true rfl, Nat.le_of_ble_eq_true rfl⟩ (by omega) (Nat.le_of_ble_eq_true rfl) ⟨Nat.le_of_ble_eq_true rfl, Nat.le_of_ble_eq_true rfl⟩ dX1_chosenBlock_36 ?_
      refine g_sstore_8 (pc := 39) C dX1_chosenBlock_39 ?_
      refine g_sload_8 (pc := 41) C dX1_chosenBlock_41 ?_
      refine g_ifnull (pc := 43) (tgt := 56) C dX1_chosenBlock_43 (by decide) (fun h43 => ?_) (fun h43 => ?_)
      · rw [if_neg (by omega)] at e9
        obtain ⟨rm, hrm⟩ : ∃ rm, rm = roomC T x at_ := ⟨_, rfl⟩
        have hrm0 := roomC_bd hV hx (a := at_) (by omega)
        have hrm2 : 1 ≤ rm ∧ at_ + rm ≤ 4096 := by rw [hrm]; constructor <;> omega
        have hrm3 : roomC T x at_ = rm := hrm.symm
        rw [hrm3] at e9
        refine g_aload_0 (pc := 56) C dX1_chosenBlock_56 ?_
        refine g_sload_1 (pc := 57) C dX1_chosenBlock_57 ?_
        refine g_iload_6 (pc := 58) C dX1_chosenBlock_58 ?_
        refine g_cY2Pv (pc := 60) C cs_X1_74 (k_X1_roomAt hV x at_ hx (by omega)) ⟨Nat.le_of_ble_eq_true rfl, Nat.le_of_ble_eq_true rfl⟩ (by omega) (Nat.le_of_ble_eq_true rfl) ⟨Nat.le_of_ble_eq_true rfl, Nat.le_of_ble_eq_true rfl⟩ dX1_chosenBlock_60 ?_
        rw [hrm3]
        refine g_istore_9 (pc := 63) C dX1_chosenBlock_63 ?_
        refine g_iload_4 (pc := 65) C dX1_chosenBlock_65 ?_
        refine g_iconst (pc := 67) C dX1_chosenBlock_67 ?_
        refine g_icmp_eq (pc := 68) (tgt := 92) C dX1_chosenBlock_68 (by decide) (by omega) (by omega) (fun h68 => ?_) (fun h68 => ?_)
        · have hbt : ch = -1 ∨ (if lst = true then rm < cr else cr < rm) := Or.inl h68
          refine g_iconst (pc := 92) C dX1_chosenBlock_92 ?_
          refine g_goto (pc := 93) (tgt := 97) C dX1_chosenBlock_93 (by decide) ?_
          refine g_istore_10 (pc := 97) C dX1_chosenBlock_97 ?_
          refine g_iload_9 (pc := 99) C dX1_chosenBlock_99 ?_
          refine g_iload_2 (pc := 101) C dX1_chosenBlock_101 ?_
          refine g_icmp_lt (pc := 102) (tgt := 118) C dX1_chosenBlock_102 (by decide) (by omega) (by omega) (fun h102 => ?_) (fun h102 => ?_)
          · have hno : ¬ (S ≤ rm ∧ (ch = -1 ∨ if lst = true then rm < cr else cr < rm)) := fun h => by omega
            refine g_iload_6 (pc := 118) C dX1_chosenBlock_118 ?_
            refine g_iload_9 (pc := 120) C dX1_chosenBlock_120 ?_
            refine g_iadd (pc := 122) C dX1_chosenBlock_122 ?_
            refine g_istore_6 (pc := 123) C dX1_chosenBlock_123 ?_
            refine g_iinc_7 (pc := 125) C dX1_chosenBlock_125 ?_
            refine g_goto (pc := 128) (tgt := 15) C dX1_chosenBlock_128 (by decide) ?_
            rw [if_neg hno] at e9
            exact ih ((ch, cr, at_ + rm), _, _, _) (by omega) ⟨e9, h2, h3, h4, h5, (by omega : 0 ≤ at_ + rm), (by omega : at_ + rm ≤ 4096)⟩
          · refine g_iload_10 (pc := 105) C dX1_chosenBlock_105 ?_
            refine g_if_eq (pc := 107) (tgt := 118) C dX1_chosenBlock_107 (by decide) (by omega) (fun h107 => ?_) (fun h107 => ?_)
            · omega
            · refine g_iload_6 (pc := 110) C dX1_chosenBlock_110 ?_
              refine g_istore_4 (pc := 112) C dX1_chosenBlock_112 ?_
              refine g_iload_9 (pc := 114) C dX1_chosenBlock_114 ?_
              refine g_istore_5 (pc := 116) C dX1_chosenBlock_116 ?_
              refine g_iload_6 (pc := 118) C dX1_chosenBlock_118 ?_
              refine g_iload_9 (pc := 120) C dX1_chosenBlock_120 ?_
              refine g_iadd (pc := 122) C dX1_chosenBlock_122 ?_
              refine g_istore_6 (pc := 123) C dX1_chosenBlock_123 ?_
              refine g_iinc_7 (pc := 125) C dX1_chosenBlock_125 ?_
              refine g_goto (pc := 128) (tgt := 15) C dX1_chosenBlock_128 (by decide) ?_
              rw [if_pos ⟨by omega, hbt⟩] at e9
              exact ih ((at_, rm, at_ + rm), _, _, _) (by omega) ⟨e9, (by omega : -1 ≤ at_), (by omega : at_ ≤ 4096), (by omega : 0 ≤ rm), (by omega : rm ≤ 4096), (by omega : 0 ≤ at_ + rm), (by omega : at_ + rm ≤ 4096)⟩
        · refine g_iload_3 (pc := 71) C dX1_chosenBlock_71 ?_
          refine g_if_eq (pc := 72) (tgt := 85) C dX1_chosenBlock_72 (by decide) (by omega) (fun h72 => ?_) (fun h72 => ?_)
          · have hl2 : lst = false := by rcases hl1 with h | h; omega; exact h.1
            refine g_iload_9 (pc := 85) C dX1_chosenBlock_85 ?_
            refine g_iload_5 (pc := 87) C dX1_chosenBlock_87 ?_
            refine g_icmp_le (pc := 89) (tgt := 96) C dX1_chosenBlock_89 (by decide) (by omega) (by omega) (fun h89 => ?_) (fun h89 => ?_)
            · have hbt : ¬ (ch = -1 ∨ (if lst = true then rm < cr else cr < rm)) := by
                rw [hl2]
                simp only [Bool.false_eq_true, if_false]
                omega
              refine g_iconst (pc := 96) C dX1_chosenBlock_96 ?_
              refine g_istore_10 (pc := 97) C dX1_chosenBlock_97 ?_
              refine g_iload_9 (pc := 99) C dX1_chosenBlock_99 ?_
              refine g_iload_2 (pc := 101) C dX1_chosenBlock_101 ?_
              refine g_icmp_lt (pc := 102) (tgt := 118) C dX1_chosenBlock_102 (by decide) (by omega) (by omega) (fun h102 => ?_) (fun h102 => ?_)
              · have hno : ¬ (S ≤ rm ∧ (ch = -1 ∨ if lst = true then rm < cr else cr < rm)) := fun h => hbt h.2
                refine g_iload_6 (pc := 118) C dX1_chosenBlock_118 ?_
                refine g_iload_9 (pc := 120) C dX1_chosenBlock_120 ?_
                refine g_iadd (pc := 122) C dX1_chosenBlock_122 ?_
                refine g_istore_6 (pc := 123) C dX1_chosenBlock_123 ?_
                refine g_iinc_7 (pc := 125) C dX1_chosenBlock_125 ?_
                refine g_goto (pc := 128) (tgt := 15) C dX1_chosenBlock_128 (by decide) ?_
                rw [if_neg hno] at e9
                exact ih ((ch, cr, at_ + rm), _, _, _) (by omega) ⟨e9, h2, h3, h4, h5, (by omega : 0 ≤ at_ + rm), (by omega : at_ + rm ≤ 4096)⟩
              · refine g_iload_10 (pc := 105) C dX1_chosenBlock_105 ?_
                refine g_if_eq (pc := 107) (tgt := 118) C dX1_chosenBlock_107 (by decide) (by omega) (fun h107 => ?_) (fun h107 => ?_)
                · have hno : ¬ (S ≤ rm ∧ (ch = -1 ∨ if lst = true then rm < cr else cr < rm)) := fun h => hbt h.2
                  refine g_iload_6 (pc := 118) C dX1_chosenBlock_118 ?_
                  refine g_iload_9 (pc := 120) C dX1_chosenBlock_120 ?_
                  refine g_iadd (pc := 122) C dX1_chosenBlock_122 ?_
                  refine g_istore_6 (pc := 123) C dX1_chosenBlock_123 ?_
                  refine g_iinc_7 (pc := 125) C dX1_chosenBlock_125 ?_
                  refine g_goto (pc := 128) (tgt := 15) C dX1_chosenBlock_128 (by decide) ?_
                  rw [if_neg hno] at e9
                  exact ih ((ch, cr, at_ + rm), _, _, _) (by omega) ⟨e9, h2, h3, h4, h5, (by omega : 0 ≤ at_ + rm), (by omega : at_ + rm ≤ 4096)⟩
                · omega
            · have hbt : ch = -1 ∨ (if lst = true then rm < cr else cr < rm) := by
                rw [hl2]
                simp only [Bool.false_eq_true, if_false]
                omega
              refine g_iconst (pc := 92) C dX1_chosenBlock_92 ?_
              refine g_goto (pc := 93) (tgt := 97) C dX1_chosenBlock_93 (by decide) ?_
              refine g_istore_10 (pc := 97) C dX1_chosenBlock_97 ?_
              refine g_iload_9 (pc := 99) C dX1_chosenBlock_99 ?_
              refine g_iload_2 (pc := 101) C dX1_chosenBlock_101 ?_
              refine g_icmp_lt (pc := 102) (tgt := 118) C dX1_chosenBlock_102 (by decide) (by omega) (by omega) (fun h102 => ?_) (fun h102 => ?_)
              · have hno : ¬ (S ≤ rm ∧ (ch = -1 ∨ if lst = true then rm < cr else cr < rm)) := fun h => by omega
                refine g_iload_6 (pc := 118) C dX1_chosenBlock_118 ?_
                refine g_iload_9 (pc := 120) C dX1_chosenBlock_120 ?_
                refine g_iadd (pc := 122) C dX1_chosenBlock_122 ?_
                refine g_istore_6 (pc := 123) C dX1_chosenBlock_123 ?_
                refine g_iinc_7 (pc := 125) C dX1_chosenBlock_125 ?_
                refine g_goto (pc := 128) (tgt := 15) C dX1_chosenBlock_128 (by decide) ?_
                rw [if_neg hno] at e9
                exact ih ((ch, cr, at_ + rm), _, _, _) (by omega) ⟨e9, h2, h3, h4, h5, (by omega : 0 ≤ at_ + rm), (by omega : at_ + rm ≤ 4096)⟩
              · refine g_iload_10 (pc := 105) C dX1_chosenBlock_105 ?_
                refine g_if_eq (pc := 107) (tgt := 118) C dX1_chosenBlock_107 (by decide) (by omega) (fun h107 => ?_) (fun h107 => ?_)
                · omega
                · refine g_iload_6 (pc := 110) C dX1_chosenBlock_110 ?_
                  refine g_istore_4 (pc := 112) C dX1_chosenBlock_112 ?_
                  refine g_iload_9 (pc := 114) C dX1_chosenBlock_114 ?_
                  refine g_istore_5 (pc := 116) C dX1_chosenBlock_116 ?_
                  refine g_iload_6 (pc := 118) C dX1_chosenBlock_118 ?_
                  refine g_iload_9 (pc := 120) C dX1_chosenBlock_120 ?_
                  refine g_iadd (pc := 122) C dX1_chosenBlock_122 ?_
                  refine g_istore_6 (pc := 123) C dX1_chosenBlock_123 ?_
                  refine g_iinc_7 (pc := 125) C dX1_chosenBlock_125 ?_
                  refine g_goto (pc := 128) (tgt := 15) C dX1_chosenBlock_128 (by decide) ?_
                  rw [if_pos ⟨by omega, hbt⟩] at e9
                  exact ih ((at_, rm, at_ + rm), _, _, _) (by omega) ⟨e9, (by omega : -1 ≤ at_), (by omega : at_ ≤ 4096), (by omega : 0 ≤ rm), (by omega : rm ≤ 4096), (by omega : 0 ≤ at_ + rm), (by omega : at_ + rm ≤ 4096)⟩
          · have hl2 : lst = true := by rcases hl1 with h | h; exact h.1; omega
            refine g_iload_9 (pc := 75) C dX1_chosenBlock_75 ?_
            refine g_iload_5 (pc := 77) C dX1_chosenBlock_77 ?_
            refine g_icmp_ge (pc := 79) (tgt := 96) C dX1_chosenBlock_79 (by decide) (by omega) (by omega) (fun h79 => ?_) (fun h79 => ?_)
            · have hbt : ¬ (ch = -1 ∨ (if lst = true then rm < cr else cr < rm)) := by
                rw [hl2]
                simp only [if_true]
                omega
              refine g_iconst (pc := 96) C dX1_chosenBlock_96 ?_
              refine g_istore_10 (pc := 97) C dX1_chosenBlock_97 ?_
              refine g_iload_9 (pc := 99) C dX1_chosenBlock_99 ?_
              refine g_iload_2 (pc := 101) C dX1_chosenBlock_101 ?_
              refine g_icmp_lt (pc := 102) (tgt := 118) C dX1_chosenBlock_102 (by decide) (by omega) (by omega) (fun h102 => ?_) (fun h102 => ?_)
              · have hno : ¬ (S ≤ rm ∧ (ch = -1 ∨ if lst = true then rm < cr else cr < rm)) := fun h => hbt h.2
                refine g_iload_6 (pc := 118) C dX1_chosenBlock_118 ?_
                refine g_iload_9 (pc := 120) C dX1_chosenBlock_120 ?_
                refine g_iadd (pc := 122) C dX1_chosenBlock_122 ?_
                refine g_istore_6 (pc := 123) C dX1_chosenBlock_123 ?_
                refine g_iinc_7 (pc := 125) C dX1_chosenBlock_125 ?_
                refine g_goto (pc := 128) (tgt := 15) C dX1_chosenBlock_128 (by decide) ?_
                rw [if_neg hno] at e9
                exact ih ((ch, cr, at_ + rm), _, _, _) (by omega) ⟨e9, h2, h3, h4, h5, (by omega : 0 ≤ at_ + rm), (by omega : at_ + rm ≤ 4096)⟩
              · refine g_iload_10 (pc := 105) C dX1_chosenBlock_105 ?_
                refine g_if_eq (pc := 107) (tgt := 118) C dX1_chosenBlock_107 (by decide) (by omega) (fun h107 => ?_) (fun h107 => ?_)
                · have hno : ¬ (S ≤ rm ∧ (ch = -1 ∨ if lst = true then rm < cr else cr < rm)) := fun h => hbt h.2
                  refine g_iload_6 (pc := 118) C dX1_chosenBlock_118 ?_
                  refine g_iload_9 (pc := 120) C dX1_chosenBlock_120 ?_
                  refine g_iadd (pc := 122) C dX1_chosenBlock_122 ?_
                  refine g_istore_6 (pc := 123) C dX1_chosenBlock_123 ?_
                  refine g_iinc_7 (pc := 125) C dX1_chosenBlock_125 ?_
                  refine g_goto (pc := 128) (tgt := 15) C dX1_chosenBlock_128 (by decide) ?_
                  rw [if_neg hno] at e9
                  exact ih ((ch, cr, at_ + rm), _, _, _) (by omega) ⟨e9, h2, h3, h4, h5, (by omega : 0 ≤ at_ + rm), (by omega : at_ + rm ≤ 4096)⟩
                · omega
            · have hbt : ch = -1 ∨ (if lst = true then rm < cr else cr < rm) := by
                rw [hl2]
                simp only [if_true]
                omega
              refine g_goto (pc := 82) (tgt := 92) C dX1_chosenBlock_82 (by decide) ?_
              refine g_iconst (pc := 92) C dX1_chosenBlock_92 ?_
              refine g_goto (pc := 93) (tgt := 97) C dX1_chosenBlock_93 (by decide) ?_
              refine g_istore_10 (pc := 97) C dX1_chosenBlock_97 ?_
              refine g_iload_9 (pc := 99) C dX1_chosenBlock_99 ?_
              refine g_iload_2 (pc := 101) C dX1_chosenBlock_101 ?_
              refine g_icmp_lt (pc := 102) (tgt := 118) C dX1_chosenBlock_102 (by decide) (by omega) (by omega) (fun h102 => ?_) (fun h102 => ?_)
              · have hno : ¬ (S ≤ rm ∧ (ch = -1 ∨ if lst = true then rm < cr else cr < rm)) := fun h => by omega
                refine g_iload_6 (pc := 118) C dX1_chosenBlock_118 ?_
                refine g_iload_9 (pc := 120) C dX1_chosenBlock_120 ?_
                refine g_iadd (pc := 122) C dX1_chosenBlock_122 ?_
                refine g_istore_6 (pc := 123) C dX1_chosenBlock_123 ?_
                refine g_iinc_7 (pc := 125) C dX1_chosenBlock_125 ?_
                refine g_goto (pc := 128) (tgt := 15) C dX1_chosenBlock_128 (by decide) ?_
                rw [if_neg hno] at e9
                exact ih ((ch, cr, at_ + rm), _, _, _) (by omega) ⟨e9, h2, h3, h4, h5, (by omega : 0 ≤ at_ + rm), (by omega : at_ + rm ≤ 4096)⟩
              · refine g_iload_10 (pc := 105) C dX1_chosenBlock_105 ?_
                refine g_if_eq (pc := 107) (tgt := 118) C dX1_chosenBlock_107 (by decide) (by omega) (fun h107 => ?_) (fun h107 => ?_)
                · omega
                · refine g_iload_6 (pc := 110) C dX1_chosenBlock_110 ?_
                  refine g_istore_4 (pc := 112) C dX1_chosenBlock_112 ?_
                  refine g_iload_9 (pc := 114) C dX1_chosenBlock_114 ?_
                  refine g_istore_5 (pc := 116) C dX1_chosenBlock_116 ?_
                  refine g_iload_6 (pc := 118) C dX1_chosenBlock_118 ?_
                  refine g_iload_9 (pc := 120) C dX1_chosenBlock_120 ?_
                  refine g_iadd (pc := 122) C dX1_chosenBlock_122 ?_
                  refine g_istore_6 (pc := 123) C dX1_chosenBlock_123 ?_
                  refine g_iinc_7 (pc := 125) C dX1_chosenBlock_125 ?_
                  refine g_goto (pc := 128) (tgt := 15) C dX1_chosenBlock_128 (by decide) ?_
                  rw [if_pos ⟨by omega, hbt⟩] at e9
                  exact ih ((at_, rm, at_ + rm), _, _, _) (by omega) ⟨e9, (by omega : -1 ≤ at_), (by omega : at_ ≤ 4096), (by omega : 0 ≤ rm), (by omega : rm ≤ 4096), (by omega : 0 ≤ at_ + rm), (by omega : at_ + rm ≤ 4096)⟩
      · have hcc : isS T (chC T x at_ 60) := ⟨h43, by have := hcb.2.1; omega, (hcb.2.2 h43).1⟩
        have hcs := hV.s hcc
        rw [if_pos h43] at e9
        refine g_sload_8 (pc := 46) C dX1_chosenBlock_46 ?_
        refine g_cS0Pv (pc := 48) C cs_X1_104 (k_X0_end _ (by omega)) ⟨Nat.le_of_ble_eq_true rfl, Nat.le_of_ble_eq_true rfl⟩ (by omega) (Nat.le_of_ble_eq_true rfl) ⟨Nat.le_of_ble_eq_true rfl, Nat.le_of_ble_eq_true rfl⟩ dX1_chosenBlock_48 ?_
        refine g_istore_6 (pc := 51) C dX1_chosenBlock_51 ?_
        refine g_goto (pc := 53) (tgt := 125) C dX1_chosenBlock_53 (by decide) ?_
        refine g_iinc_7 (pc := 125) C dX1_chosenBlock_125 ?_
        refine g_goto (pc := 128) (tgt := 15) C dX1_chosenBlock_128 (by decide) ?_
        exact ih ((ch, cr, T 15 (chC T x at_ 60).toNat + T 16 (chC T x at_ 60).toNat), _, _, _) (by omega) ⟨e9, h2, h3, h4, h5, by show 0 ≤ T 15 _ + T 16 _; omega, by show T 15 _ + T 16 _ ≤ 4096; omega⟩
end
section
theorem k_X1_laySpan {l : Launch} {cs : CSt} {np : Nat} {ad : Nat → Nat} {T : MT} (hV : VC np T) (x : Int) (hx : isS T x) : KD l cs yX1_laySpan (Cond.code yX1_laySpan cX1_laySpan 3 none :: GW) 1 0 0 [.ref (ad 0), grf ad x] np ad T 0 none (np, ad, lyS T x.toNat) := by
  have hV0 := hV.s hx
  refine KC_of (cc := cX1_laySpan) (nL := 3) (rt := none) (by decide) (by simp [grf_cat, cat_int, cat_ref]) (by simp) ?_
  intro p e s m args below meth c A C hE hin
  refine g_eq (lv2 := [some (.ref (ad 0)), some (grf ad x), none]) rfl rfl rfl ?_
  refine g_sload_1 (pc := 0) C dX1_laySpan_0 ?_
  first | refine g_getn_X1_101 (pc := 1) C (by omega) dX1_laySpan_1 ?_ | refine g_get_X1_101 (pc := 1) C (by omega) dX1_laySpan_1 ?_
  refine g_istore_2 (pc := 4) C dX1_laySpan_4 ?_
  refine g_eq (T2 := lyP T x.toNat 0) (lv2 := [some (.ref (ad 0)), some (grf ad x), some (.int (zI (T 15 x.toNat + (0 : Nat))))]) (lyP_0 _ _).symm (by rw [Int.natCast_zero, Int.add_zero]) rfl ?_
  refine g_loop (σ := Unit) (Tf := fun j _ => lyP T x.toNat j) (lvf := fun j _ => [some (.ref (ad 0)), some (grf ad x), some (.int (zI (T 15 x.toNat + (j : Int))))]) (inv := fun j _ => (j : Int) ≤ T 16 x.toNat) (N := 4096) 0 () (by omega) (by omega) (fun j _ hi hN ih => ?_)
  have e8 : (T 15 x.toNat + (j : Int)).toNat = (T 15 x.toNat).toNat + j := by omega
  refine g_iload_2 (pc := 5) C dX1_laySpan_5 ?_
  refine g_sload_1 (pc := 6) C dX1_laySpan_6 ?_
  refine g_cS0Pv (pc := 7) C cs_X1_104 (k_X0_end x (by omega)) ⟨Nat.le_of_ble_eq_true rfl, Nat.le_of_ble_eq_true rfl⟩ (by omega) (Nat.le_of_ble_eq_true rfl) ⟨Nat.le_of_ble_eq_true rfl, Nat.le_of_ble_eq_true rfl⟩ dX1_laySpan_7 ?_
  rw [lyP_r (by decide), lyP_r (by decide)]
  refine g_icmp_ge (pc := 10) (tgt := 36) C dX1_laySpan_10 (by decide) (by omega) (by omega) (fun h10 => ?_) (fun h10 => ?_)
  · refine g_vret (pc := 36) C (Nat.le_of_ble_eq_true rfl) (Nat.le_of_ble_eq_true rfl) dX1_laySpan_36 ?_
    exact ⟨rfl, rfl, by rw [lyP_e _ _ _ (by omega)]⟩
  · refine g_iload_2 (pc := 13) C dX1_laySpan_13 ?_
    refine g_cT1Pv (pc := 14) C cs_X1_136 (k_X1_isAddress _ (by omega)) ⟨Nat.le_of_ble_eq_true rfl, Nat.le_of_ble_eq_true rfl⟩ (Nat.le_of_ble_eq_true rfl) ⟨Nat.le_of_ble_eq_true rfl, Nat.le_of_ble_eq_true rfl⟩ dX1_laySpan_14 ?_
    refine g_if_eq (pc := 17) (tgt := 36) C dX1_laySpan_17 (by decide) (by split <;> omega) (fun h17 => ?_) (fun h17 => ?_)
    · rw [if_pos (by omega)] at h17
      omega
    · refine g_aload_0 (pc := 20) C dX1_laySpan_20 ?_
      refine g_get_X1_36 (pc := 21) C (by omega) dX1_laySpan_21 ?_
      refine g_iload_2 (pc := 24) C dX1_laySpan_24 ?_
      refine g_sload_1 (pc := 25) C dX1_laySpan_25 ?_
      first | refine g_getn_X1_154 (pc := 26) C (by omega) dX1_laySpan_26 ?_ | refine g_get_X1_154 (pc := 26) C (by omega) dX1_laySpan_26 ?_
      rw [lyP_r (by decide)]
      first | refine g_astn_3 (pc := 29) C (by omega) (by omega) dX1_laySpan_29 ?_ | refine g_ast_3 (pc := 29) C (by omega) (by omega) dX1_laySpan_29 ?_
      rw [e8, lyP_s _ _ _ (by omega)]
      refine g_iinc_2 (pc := 30) C dX1_laySpan_30 ?_
      refine g_goto (pc := 33) (tgt := 5) C dX1_laySpan_33 (by decide) ?_
      exact g_eq rfl (by rw [Int.add_assoc]; rfl) rfl (ih () (by omega) (by omega))
theorem k_X1_layRow {l : Launch} {cs : CSt} {np : Nat} {ad : Nat → Nat} {T : MT} (hV : VC np T) (hA : VA T) : KD l cs yX1_layRow (Cond.code yX1_layRow cX1_layRow 6 none :: GW) 2 0 0 [.ref (ad 0)] np ad T 0 none (np, ad, lyR T) := by
  have hV0 := hV.1
  have hA0 := hA.1
  refine KC_of (cc := cX1_layRow) (nL := 6) (rt := none) (by decide) (by simp [grf_cat, cat_int, cat_ref]) (by simp) ?_
  intro p e s m args below meth c A C hE hin
  refine g_eq (lv2 := [some (.ref (ad 0)), none, none, none, none, none]) rfl rfl rfl ?_
  refine g_aload_0 (pc := 0) C dX1_layRow_0 ?_
  refine g_get_X1_39 (pc := 1) C (by omega) dX1_layRow_1 ?_
  refine g_if_eq (pc := 4) (tgt := 8) C dX1_layRow_4 (by decide) (by omega) (fun h4 => ?_) (fun h4 => ?_)
  · refine g_sipush (pc := 8) C dX1_layRow_8 (by decide) ?_
    refine g_istore_1 (pc := 11) C dX1_layRow_11 ?_
    refine g_loop (σ := Option Value × Option Value × Option Value × Option Value) (Tf := fun k _ => lyK T k) (lvf := fun k z => [some (.ref (ad 0)), some (.int (zI (4096 / 2 ^ k))), z.1, z.2.1, z.2.2.1, z.2.2.2]) (inv := fun _ _ => True) (N := 13) 0 (none, none, none, none) trivial (by omega) (fun k z hi hN ih => ?_)
    obtain ⟨z1, z2, z3, z4⟩ := z
    have hw := p2_div hN
    have hVk : VC np (lyK T k) := hV.ly (fun r i h => lyK_r h)
    refine g_iload_1 (pc := 12) C dX1_layRow_12 ?_
    refine g_iconst (pc := 13) C dX1_layRow_13 ?_
    refine g_icmp_lt (pc := 14) (tgt := 73) C dX1_layRow_14 (by decide) (by omega) (by omega) (fun h14 => ?_) (fun h14 => ?_)
    · obtain rfl : k = 13 := by omega
      refine g_aload_0 (pc := 73) C dX1_layRow_73 ?_
      refine g_iconst (pc := 74) C dX1_layRow_74 ?_
      refine g_put_X1_39 (pc := 75) C (by omega) (by omega) dX1_layRow_75 ?_
      refine g_vret (pc := 78) C (Nat.le_of_ble_eq_true rfl) (Nat.le_of_ble_eq_true rfl) dX1_layRow_78 ?_
      exact ⟨rfl, rfl, by rw [lyR, if_pos h4]⟩
    · refine g_aload_0 (pc := 17) C dX1_layRow_17 ?_
      refine g_get_X1_18 (pc := 18) C (by omega) dX1_layRow_18 ?_
      refine g_astore_2 (pc := 21) C dX1_layRow_21 ?_
      refine g_aload_2 (pc := 22) C dX1_layRow_22 ?_
      refine g_alen1 (pc := 23) C (by omega) dX1_layRow_23 ?_
      refine g_istore_3 (pc := 24) C dX1_layRow_24 ?_
      refine g_iconst (pc := 25) C dX1_layRow_25 ?_
      refine g_istore_4 (pc := 26) C dX1_layRow_26 ?_
      refine g_loop (σ := Option Value) (Tf := fun j _ => lyJ (lyK T k) (4096 / 2 ^ k) j) (lvf := fun j z => [some (.ref (ad 0)), some (.int (zI (4096 / 2 ^ k))), some (.ref (ad 1)), some (.int (zI 60)), some (.int (zI (j : Int))), z]) (inv := fun _ _ => True) (N := 60) 0 z4 trivial (by omega) (fun j z _ hN2 ih2 => ?_)
      have hJr : ∀ r i, r ≠ 3 → lyJ (lyK T k) (4096 / 2 ^ k) j r i = T r i := fun r i h => by rw [lyJ_r h, lyK_r h]
      have hVj : VC np (lyJ (lyK T k) (4096 / 2 ^ k) j) := hV.ly hJr
      refine g_iload_4 (pc := 28) C dX1_layRow_28 ?_
      refine g_iload_3 (pc := 30) C dX1_layRow_30 ?_
      refine g_icmp_ge (pc := 31) (tgt := 66) C dX1_layRow_31 (by decide) (by omega) (by omega) (fun h31 => ?_) (fun h31 => ?_)
      · obtain rfl : j = 60 := by omega
        refine g_iload_1 (pc := 66) C dX1_layRow_66 ?_
        refine g_iconst (pc := 67) C dX1_layRow_67 ?_
        refine g_idiv (pc := 68) C dX1_layRow_68 (by omega) (by omega) ?_
        refine g_istore_1 (pc := 69) C dX1_layRow_69 ?_
        refine g_goto (pc := 70) (tgt := 12) C dX1_layRow_70 (by decide) ?_
        exact g_eq rfl (by rw [hw.2.2.2]) rfl (ih (_, _, _, _) (by omega) trivial)
      · have hj := hV.2 j (by omega)
        have e9 : lyJ (lyK T k) (4096 / 2 ^ k) (j + 1) = if (lyK T k) 1 j ≠ 0 ∧ (lyK T k) 16 j = 4096 / 2 ^ k then lyS (lyJ (lyK T k) (4096 / 2 ^ k) j) j else lyJ (lyK T k) (4096 / 2 ^ k) j := rfl
        rw [lyK_r (by decide), lyK_r (by decide)] at e9
        have m0 := mkd_or (lyJ (lyK T k) (4096 / 2 ^ k) j) j
        rw [hJr 1 j (by decide)] at m0
        refine g_aload_2 (pc := 34) C dX1_layRow_34 ?_
        refine g_iload_4 (pc := 35) C dX1_layRow_35 ?_
        first | refine g_aaldn (pc := 37) C (by omega) (by omega) dX1_layRow_37 ?_ | refine g_aald (pc := 37) C (by omega) (by omega) dX1_layRow_37 ?_
        refine g_sstore_5 (pc := 38) C dX1_layRow_38 ?_
        rcases m0 with ⟨m1, m2⟩ | ⟨m1, m2⟩
        · rw [m2]
          refine g_sload_5 (pc := 40) C dX1_layRow_40 ?_
          refine g_ifnull (pc := 42) (tgt := 60) C dX1_layRow_42 (by decide) (fun h42 => ?_) (fun h42 => ?_)
          · refine g_iinc_4 (pc := 60) C dX1_layRow_60 ?_
            refine g_goto (pc := 63) (tgt := 28) C dX1_layRow_63 (by decide) ?_
            rw [if_neg (by omega)] at e9
            exact g_eq e9.symm rfl rfl (ih2 _ (by omega) trivial)
          · omega
        · rw [m2]
          refine g_sload_5 (pc := 40) C dX1_layRow_40 ?_
          refine g_ifnull (pc := 42) (tgt := 60) C dX1_layRow_42 (by decide) (fun h42 => ?_) (fun h42 => ?_)
          · omega
          · refine g_sload_5 (pc := 45) C dX1_layRow_45 ?_
            first | refine g_getn_X1_114 (pc := 47) C (by omega) dX1_layRow_47 ?_ | refine g_get_X1_114 (pc := 47) C (by omega) dX1_layRow_47 ?_
            rw [hJr 16 j (by decide)]
            refine g_iload_1 (pc := 50) C dX1_layRow_50 ?_
            refine g_icmp_ne (pc := 51) (tgt := 60) C dX1_layRow_51 (by decide) (by omega) (by omega) (fun h51 => ?_) (fun h51 => ?_)
            · refine g_iinc_4 (pc := 60) C dX1_layRow_60 ?_
              refine g_goto (pc := 63) (tgt := 28) C dX1_layRow_63 (by decide) ?_
              rw [if_neg (by omega)] at e9
              exact g_eq e9.symm rfl rfl (ih2 _ (by omega) trivial)
            · refine g_aload_0 (pc := 54) C dX1_layRow_54 ?_
              refine g_sload_5 (pc := 55) C dX1_layRow_55 ?_
              refine g_cY1Pn (pc := 57) C cs_X1_200 (k_X1_laySpan hVj (j : Int) ⟨by omega, by omega, by show lyJ (lyK T k) (4096 / 2 ^ k) j 1 j ≠ 0; rw [hJr 1 j (by decide)]; exact m1⟩) ⟨Nat.le_of_ble_eq_true rfl, Nat.le_of_ble_eq_true rfl⟩ (by omega) (Nat.le_of_ble_eq_true rfl) ⟨Nat.le_of_ble_eq_true rfl, Nat.le_of_ble_eq_true rfl⟩ dX1_layRow_57 ?_
              refine g_iinc_4 (pc := 60) C dX1_layRow_60 ?_
              refine g_goto (pc := 63) (tgt := 28) C dX1_layRow_63 (by decide) ?_
              rw [if_pos (by omega)] at e9
              exact g_eq e9.symm rfl rfl (ih2 _ (by omega) trivial)
  · refine g_vret (pc := 7) C (Nat.le_of_ble_eq_true rfl) (Nat.le_of_ble_eq_true rfl) dX1_layRow_7 ?_
    exact ⟨rfl, rfl, by rw [lyR, if_neg h4]⟩
end
section
/-! ===== BEGIN a constructor that throws (launches without stack traces) ===== -/
section VXIA
variable {p : Program} {l : Launch} {e : Env} {R : Room} {s : State} {m : MethodId} {args : Array Value} {below : List Frame} {meth : Method} {c : Code} {T : State} {locs : List Loc} {cells slots : Nat}
theorem vx_callI (X : Stand p l e R s m args below meth c T locs cells slots) (hexec : p.tables.exec = Jvm.exec) {own : String} {index : Nat} {y : MethodName} {bytes : ByteArray} {maxL : Nat}
    (hown : s.vm.findClass own = some m.cls) (hy1 : y.name = "<init>") (hlink : (Cond.methodLink own index y).before args s = true) (hinst : (Cond.instanceMethod y).before args s = true)
    (hcode : (Cond.code y bytes maxL none).before args s = true) (hy : y.cls ≠ "java/lang/invoke/MethodHandle" ∧ y.cls ≠ "java/lang/invoke/VarHandle")
    {W9 : Nat} {Pre : Pt → Array Value → Prop} {Post : Pt → Array Value → Option Value → Pt → Prop} {PostX : Pt → Array Value → Addr → Pt → Prop} (hK : vx_Back l R p e below s args y 3 W9 Pre Post PostX)
    {g : JFrame} (hg : g.method = m) (hsize : g.locals.size = c.maxLocals) {a : Addr} {argsL rest : List Value} (hlen : ∀ sig, parseMethodDescriptor y.desc = some sig → argsL.length = sig.parameters.length)
    (hstack : g.stack = argsL.reverse ++ .ref a :: rest) (hW : 2 * g.monitorRoom + (rest.map fun v => v.category).sum ≤ W9) (hdg : decode c.code g.pc = .ok (.invokespecial index, 3))
    (hpre : ∀ vm₁, s.WarmedH vm₁ → Pre ⟨T.setVm vm₁, locs, cells, slots⟩ (Value.ref a :: argsL).toArray) :
    (∃ (v : Option Value) (vm₁ : Vm) (B : Pt), s.WarmedH vm₁ ∧ Stand p l e R s m args below meth c B.U B.locs B.cells B.slots ∧ Post ⟨T.setVm vm₁, locs, cells, slots⟩ (Value.ref a :: argsL).toArray v B ∧
      ∀ target, Steps p.tables e below (B.U.setTop { g with pc := g.pc + 3, stack := v.toList ++ rest }) target → Steps p.tables e below (T.setTop g) target) ∨
    (∃ (q : Addr) (vm₁ : Vm) (B : Pt), s.WarmedH vm₁ ∧ Stand p l e R s m args below meth c B.U B.locs B.cells B.slots ∧ PostX ⟨T.setVm vm₁, locs, cells, slots⟩ (Value.ref a :: argsL).toArray q B ∧
      Steps p.tables e below (T.setTop g) ((B.U.setTop { g with stack := rest }).pushFrame (.throwing q))) := by
  subst hg
  have hpl : e.platform.magicAccessors = ({} : Platform).magicAccessors := by rw [X.admits.platform]
  obtain ⟨mk, methM, cM, kP, vm₁, hnamed, hmethM, hcodeM, -, hlocalsM, -, hkP, -, hW₁, hstep₁⟩ := Steps.initColdArgs (e := e) X.here hexec X.warmed hpl hown hy1 hy hlink hinst hcode (f := g) rfl hlen hstack hdg
  have X₁ := X.noted hW₁
  rcases hK g.method meth c ⟨T.setVm vm₁, locs, cells, slots⟩ { g with stack := rest } (.invokespecial index) mk (Value.ref a :: argsL).toArray X₁ rfl hsize hdg hW (X₁.named hnamed) (hpre vm₁ X₁.warmed) with ⟨v, B, X', hpost, hsteps⟩ | ⟨q, B, X', hpost, hsteps⟩
  · exact Or.inl ⟨v, vm₁, B, X₁.warmed, X', hpost, fun target h => hstep₁ _ fun acts => by rw [doInvoke_state]; exact hsteps.trans h⟩
  · exact Or.inr ⟨q, vm₁, B, X₁.warmed, X', hpost, hstep₁ _ fun acts => by rw [doInvoke_state]; exact hsteps⟩
end VXIA
section VXIB
variable {p : Program} {l : Launch} {e : Env} {R : Room} {s : State} {m : MethodId} {args : Array Value} {below : List Frame} {meth : Method} {c : Code} {H : Heap} {locs : List Loc} {cells slots : Nat}
variable {y : MethodName} {bytes cc : ByteArray} {maxL nL mc ms n index : Nat} {ret : Option FieldType} {ws : List Cond} {rm : Room} {Pc : Array Value → State → Prop} {Qc : Array Value → State → Outcome → State → Prop} {XC : String → State → State → Prop} {free : Addr → Prop} {Ts : List Cond} {own C : String} {b : Addr} {As rest : List Value} {g : JFrame}
theorem vx_runI (S : CallFix p m c cc nL s args Ts own) (hM : vx_Met l y ws rm Pc Qc XC mc ms free) (cw : CallB R s args own index y bytes maxL none ws rm mc ms n ∧ y.name = "<init>" ∧ (Cond.instanceMethod y).before args s = true) (hp : PreS s H Pc (.ref b :: As))
    (hg : g.method = m) (hn : As.length = n) (hsize : g.locals.size = nL) (hstack : g.stack = As.reverse ++ .ref b :: rest) (hW : 2 * g.monitorRoom + (rest.map fun v => v.category).sum ≤ 8) (hdg : decode cc g.pc = .ok (.invokespecial index, 3)) (hf : cells + mc ≤ R.cells ∧ slots + ms ≤ R.slots) :
    vx_Run p l e R s m args below meth c H locs cells slots mc ms g rest (Qc (Value.ref b :: As).toArray) XC free := by
  have hK : vx_Back l R p e below s args y 3 8 (PreOf R mc ms Pc) (PostOf Qc mc ms free) (vx_Post XC mc ms free) := vx_callBack cw.1 hM hp.1
  obtain ⟨⟨-, -, -, -, -, -, hcode, -, hy, hlen, hl⟩, hy1, hin⟩ := cw
  obtain ⟨hx, hb, hml, ho, -⟩ := S
  have hPc := hp.2
  intro T hT X
  rcases vx_callI X hx (bytes := bytes) (maxL := maxL) ho hy1 hl hin hcode hy hK hg (hsize.trans hml.symm) (a := b) (argsL := As) (rest := rest) (fun sig h => hn.trans (hlen sig h)) hstack hW (by rw [hb]; exact hdg)
    (fun vm₁ hW₁ => ⟨hf.1, hf.2, hPc (T.setVm vm₁) hT hW₁⟩) with ⟨v, vm₁, ⟨U', l2, c2, s2⟩, hW₁, X', ⟨g', mk, t, L, e1, e2, hq, h1, hL, h2, h3⟩, st⟩ | ⟨q, vm₁, ⟨U', l2, c2, s2⟩, hW₁, X', ⟨g', mk, t, L, E, ce, e1, e2, hq, hce, hcv, hcl, h1, hL, h2, h3⟩, st⟩
  · dsimp only [Pt.U, Pt.locs, Pt.cells, Pt.slots] at X' e1 e2 h1 h2 h3 st
    subst h1; subst h2; subst h3
    exact Or.inl ⟨v, (T.setVm vm₁).calling g' mk (Value.ref b :: As).toArray, t, U', L, hT, X', hL, e1, e2, hq, st⟩
  · dsimp only [Pt.U, Pt.locs, Pt.cells, Pt.slots] at X' e1 e2 h1 h2 h3 st hcl
    subst h1; subst h2; subst h3
    exact Or.inr ⟨q, (T.setVm vm₁).calling g' mk (Value.ref b :: As).toArray, t, U', L, E, ce, hT, X', hL, e1, e2, hq, hce, hcv, vx_cls hW₁ hcl, st⟩
end VXIB
/-! ===== END ===== -/
def VP (T : MT) : Prop := ∀ j : Nat, (j : Int) < T 0 2 → -1 ≤ T 14 j ∧ T 14 j < j
def newT (T : MT) (j : Nat) : MT := fun r i => if 13 ≤ r ∧ r ≤ 17 ∧ i = j then (if r = 14 then -1 else 0) else T r i
theorem gO_up {ad : Nat → Nat} {np q : Nat} {x : Int} (h : x + 13 ≠ np ∨ x < 0) : gO (va_up ad np q) x = gO ad x := by
  unfold gO
  by_cases h1 : x < 0
  · rw [if_pos h1, if_pos h1]
  · rw [if_neg h1, if_neg h1, va_up_ne _ _ (by omega)]
theorem grf_up {ad : Nat → Nat} {np q : Nat} {x : Int} (h : x + 13 ≠ np ∨ x < 0) : grf (va_up ad np q) x = grf ad x := by
  unfold grf
  rw [gO_up h]
theorem cel_new {cs : CSt} {ad : Nat → Nat} {T : MT} {np q : Nat} (h13 : 13 < np) (hm : T 1 (np - 13) = 0) (hp : ∀ j : Nat, j + 13 < np → -1 ≤ T 14 j ∧ T 14 j < j) (j : Nat) (hj : j < np) : cel cs (va_up ad np q) (newT T (np - 13)) j = cel cs ad T j := by
  have hf : ∀ r i, r < 13 → newT T (np - 13) r i = T r i := fun r i hr => by unfold newT; rw [if_neg (by omega)]
  have hF : ∀ r, r < 13 → newT T (np - 13) r = T r := fun r hr => funext fun i => hf r i hr
  have ha : ∀ i, i < 14 → va_up ad np q i = ad i := fun i hi => va_up_ne _ _ (by omega)
  match j, hj with
  | 0, hj => simp only [cel, hF 0 (by omega), ha 13 (by omega), ha 1 (by omega), ha 2 (by omega), ha 3 (by omega)]
  | 1, hj =>
    have e1 : (fun j => gO (va_up ad np q) (mkd (newT T (np - 13)) j)) = fun j => gO ad (mkd T j) := by
      funext i
      have e2 : mkd (newT T (np - 13)) i = mkd T i := by unfold mkd; rw [hF 1 (by omega)]
      rw [e2]
      rcases mkd_or T i with ⟨h1, h2⟩ | ⟨h1, h2⟩
      · rw [h2]; exact gO_up (Or.inr (by decide))
      · rw [h2]
        refine gO_up (Or.inl fun h => h1 ?_)
        rw [show i = np - 13 by omega]
        exact hm
    simp only [cel, e1]
  | 2, hj => simp only [cel, hF 2 (by omega)]
  | 3, hj => simp only [cel, hF 3 (by omega)]
  | 4, hj => rfl
  | 5, hj => rfl
  | 6, hj => rfl
  | 7, hj => rfl
  | 8, hj => rfl
  | 9, hj => rfl
  | 10, hj => rfl
  | 11, hj => rfl
  | 12, hj => rfl
  | j + 13, hj =>
    have hg : ∀ r, newT T (np - 13) r j = T r j := fun r => by unfold newT; rw [if_neg (by omega)]
    have hp2 := hp j hj
    simp only [cel, hg, grf_up (ad := ad) (np := np) (q := q) (x := T 14 j) (by omega)]
section
variable {p : Program} {l : Launch} {e : Env} {R : Room} {s : State} {m : MethodId} {args : Array Value} {below : List Frame} {meth : Method} {c : Code} {Q : State → Prop} {cs : CSt} {A : Nat → Prop} {nL : Nat}
variable {cc : ByteArray} {own : String} {rt : Option FieldType} {k n np : Nat} {ad : Nat → Nat} {T : MT} {pc : Nat} {lv : List (Option Value)} {st : List Value}
variable {PR : Option Value → St3 → Prop} {PX : String → St3 → Prop} {mc ms : Nat}
theorem g_objI (C : gC p l s m args meth c cs A nL cc own rt) {x : Int} {idx : Nat} (hx : 0 ≤ x) (hlink : Cond.methodLink own idx objectInit ∈ GW) (hR : 1 ≤ R.frames ∧ (st.map fun v => v.category).sum + 12 ≤ R.locals) (d : decode cc pc = .ok (.invokespecial idx, 3)) (kk : GG p l e R s m args below meth c Q cs A nL k n np ad T (pc + 3) lv st) : GG p l e R s m args below meth c Q cs A nL k n np ad T pc lv (grf ad x :: st) := fun H locs ls hP hD hS hl => by
  rw [grf_ref hx]
  refine W.objInit C.1 C.2.1 C.2.2.2.1 (C.2.2.2.2.1 _ hlink) (C.2.2.2.2.1 _ ob_i) (C.2.2.2.2.1 _ ob_c) rfl (by rw [C.2.2.1]; exact hl.1) rfl d hR.1 (by show 2 * 0 + _ + 12 ≤ _; omega) ?_
  exact W.eq (g2 := F0 m (pc + 3) ls st) rfl (kk H locs ls hP hD hS hl)
/-- new Span: the next place -/
theorem g_newS (C : gC p l s m args meth c cs A nL cc own rt) {idx : Nat} (h13 : 13 < np) (hm : T 1 (np - 13) = 0) (hp : ∀ j : Nat, j + 13 < np → -1 ≤ T 14 j ∧ T 14 j < j) (hcl : Cond.classLink own idx RX0 ∈ GW) (hf : k + 1 ≤ R.cells ∧ n + 5 ≤ R.slots) (d : decode cc pc = .ok (.new idx, 3))
    (kk : ∀ q : Nat, GG p l e R s m args below meth c Q cs A nL (k + 1) (n + 5) (np + 1) (va_up ad np q) (newT T (np - 13)) (pc + 3) lv (.ref q :: st)) : GG p l e R s m args below meth c Q cs A nL k n np ad T pc lv st := fun H locs ls hP hD hS hl => by
  refine va_new (ci := 0) (fs := [.int 0, .null, .int 0, .int 0, .int 0]) (C := RX0) (T := TX0) (N := 5) C.1 C.2.1 C.2.2.2.2.1 in_RX0 tyX0 tyX0_ok C.2.2.2.1 (C.2.2.2.2.1 _ hcl) (C.2.2.2.2.1 _ ins_PrefixYard_Span) (C.2.2.2.2.1 _ ini_PrefixYard_Span) C.2.2.2.2.2.2.1 hP hD hS C.2.2.2.2.2.2.2.1 rfl (fun j hj => by rcases (show j = 0 ∨ j = 1 ∨ j = 2 ∨ j = 3 ∨ j = 4 by omega) with rfl | rfl | rfl | rfl | rfl <;> rfl) hf.1 hf.2 d (fun q H1 hP1 hD1 hS1 => ?_)
  have e1 : gW cs np ad T ++ [(q, .inr (0, [.int 0, .null, .int 0, .int 0, .int 0]))] = gW cs (np + 1) (va_up ad np q) (newT T (np - 13)) := by
    unfold gW
    rw [show np + 1 - 9 = (np - 9) + 1 by omega, List.range_succ, List.map_append]
    congr 1
    · refine List.map_congr_left fun i hi => ?_
      rw [List.mem_range] at hi
      have hj : gI i < np := (gI_ok (by omega) hi).2
      rw [va_up_ne _ _ (by omega), cel_new h13 hm hp (gI i) hj]
    · obtain ⟨j, rfl⟩ : ∃ j, np = j + 13 := ⟨np - 13, by omega⟩
      have e5 : gI (j + 13 - 9) = j + 13 := by unfold gI; rw [if_neg (by omega)]; omega
      rw [show j + 13 - 13 = j by omega, List.map_singleton, e5, va_up_self]
      simp [cel, newT, grf_null, zI_0]
  rw [e1] at hP1 hD1
  exact kk q H1 locs ls hP1 hD1 hS1 hl
/-- a constructor's call -/
theorem g_runI (C : gC p l s m args meth c cs A nL cc own rt) {y : MethodName} {b : ByteArray} {maxL : Nat} {d mc' ms' idx : Nat} {a : Nat} {As rest : List Value} {PR' : Option Value → St3 → Prop} {PX' : String → St3 → Prop}
    (K : KC l cs y (Cond.code y b maxL none :: GW) d mc' ms' (.ref a :: As) np ad T PR' PX') (h1 : Cond.methodLink own idx y ∈ GW) (h2 : Cond.instanceMethod y ∈ GW) (h3 : Cond.initialized y.cls ∈ GW) (h4 : Cond.code y b maxL none ∈ GW) (hy : y.name = "<init>")
    (hd : y.cls ≠ "java/lang/invoke/MethodHandle" ∧ y.cls ≠ "java/lang/invoke/VarHandle" ∧ (parseMethodDescriptor y.desc).map (fun d => d.parameters.length) = some As.length) (hR : d + 1 ≤ R.frames ∧ 8 + (maxL + 11) + 40 * d ≤ R.locals)
    (hW : (rest.map fun v => v.category).sum ≤ 8) (hf : k + mc' ≤ R.cells ∧ n + ms' ≤ R.slots) (dd : decode cc pc = .ok (.invokespecial idx, 3)) :
    ∀ (H : Heap) (locs : List Loc) (ls : Array Slot), va_P cs.1 vwCl (gW cs np ad T) H → va_D A (gW cs np ad T) → va_S A s.heap H locs → gl ls nL lv → vx_Run p l e R s m args below meth c H locs k n mc' ms' (F0 m pc ls (As.reverse ++ .ref a :: rest)) rest (gQ cs (va_A (gW cs np ad T) H.size) PR' (Value.ref a :: As).toArray) (gXC cs (va_A (gW cs np ad T) H.size) PX') (va_A (gW cs np ad T) H.size) := fun H locs ls hP hD hS hl =>
  vx_runI (own := own) (Ts := GW) ⟨C.1, C.2.1, C.2.2.1, C.2.2.2.1, C.2.2.2.2.1⟩ (K C.2.2.2.2.2.2.2.2.2.1 H.size) (cwI As.length C.2.2.2.2.1 (GW_in fun w hw => by rcases List.mem_cons.mp hw with rfl | hw; exact h4; exact hw) rfl rfl rfl (C.2.2.2.2.1 _ h3) (C.2.2.2.2.1 _ h1) (C.2.2.2.2.1 _ h2) hy hd hR) ⟨gB_blind, g_pre C hP hD hS _⟩ rfl rfl hl.1 rfl (lv_room hW) dd hf
end
end
section
theorem k_X0_init {l : Launch} {cs : CSt} {np : Nat} {ad : Nat → Nat} {T : MT} (x i q B S o : Int) (hx : 0 ≤ x ∧ x + 13 < np) : KD l cs yX0_init (Cond.code yX0_init cX0_init 6 none :: GW) 1 0 0 [grf ad x, .int (zI i), grf ad q, .int (zI B), .int (zI S), .int (zI o)] np ad T 0 none (np, ad, mst (mst (mst (mst (mst T 13 x.toNat i) 14 x.toNat q) 15 x.toNat B) 16 x.toNat S) 17 x.toNat o) := by
  refine KC_of (cc := cX0_init) (nL := 6) (rt := none) (by decide) (by simp [grf_cat, cat_int, cat_ref]) (by simp) ?_
  intro p e s m args below meth c A C hE hin
  refine g_eq (lv2 := [some (grf ad x), some (.int (zI i)), some (grf ad q), some (.int (zI B)), some (.int (zI S)), some (.int (zI o))]) rfl rfl rfl ?_
  refine g_sload_0 (pc := 0) C dX0_init_0 ?_
  refine g_objI (pc := 1) C (by omega) ml_X0_1 ⟨Nat.le_of_ble_eq_true rfl, Nat.le_of_ble_eq_true rfl⟩ dX0_init_1 ?_
  refine g_sload_0 (pc := 4) C dX0_init_4 ?_
  refine g_iload_1 (pc := 5) C dX0_init_5 ?_
  refine g_put_X0_7 (pc := 6) C (by omega) hin dX0_init_6 ?_
  refine g_sload_0 (pc := 9) C dX0_init_9 ?_
  refine g_sload_2 (pc := 10) C dX0_init_10 ?_
  refine g_put_X0_13 (pc := 11) C (by omega) hin dX0_init_11 ?_
  refine g_sload_0 (pc := 14) C dX0_init_14 ?_
  refine g_iload_3 (pc := 15) C dX0_init_15 ?_
  refine g_put_X0_17 (pc := 16) C (by omega) dX0_init_16 ?_
  refine g_sload_0 (pc := 19) C dX0_init_19 ?_
  refine g_iload_4 (pc := 20) C dX0_init_20 ?_
  refine g_put_X0_20 (pc := 22) C (by omega) dX0_init_22 ?_
  refine g_sload_0 (pc := 25) C dX0_init_25 ?_
  refine g_iload_5 (pc := 26) C dX0_init_26 ?_
  refine g_put_X0_23 (pc := 28) C (by omega) dX0_init_28 ?_
  refine g_vret (pc := 31) C (Nat.le_of_ble_eq_true rfl) (Nat.le_of_ble_eq_true rfl) dX0_init_31 ?_
  exact ⟨rfl, rfl, rfl⟩
theorem initS_d : yX0_init.cls ≠ "java/lang/invoke/MethodHandle" ∧ yX0_init.cls ≠ "java/lang/invoke/VarHandle" ∧ (parseMethodDescriptor yX0_init.desc).map (fun d => d.parameters.length) = some 5 := by decide +kernel
/-- a span made: its number, its parent and the rest -/
def mkT (T : MT) (j : Nat) (x B S o : Int) : MT := fun r i =>
  if i = j ∧ 13 ≤ r ∧ r ≤ 17 then (if r = 13 then (j : Int) else if r = 14 then x else if r = 15 then B else if r = 16 then S else o)
  else if r = 1 ∧ i = j then 1 else if r = 0 ∧ i = 2 then T 0 2 + 1 else if r = 0 ∧ i = 7 then 0 else T r i
theorem mkT_eq (T : MT) (j : Nat) (x B S o : Int) (hj : (j : Int) = T 0 2) : mst (mst (mst (mst (mst (mst (mst (mst (newT T j) 13 j (T 0 2)) 14 j x) 15 j B) 16 j S) 17 j o) 1 j 1) 0 2 (T 0 2 + 1)) 0 7 0 = mkT T j x B S o := by
  funext r i
  unfold mkT
  by_cases h1 : i = j ∧ 13 ≤ r ∧ r ≤ 17
  · obtain ⟨rfl, h2, h3⟩ := h1
    have h4 : r = 13 ∨ r = 14 ∨ r = 15 ∨ r = 16 ∨ r = 17 := by omega
    rcases h4 with rfl | rfl | rfl | rfl | rfl <;> simp [mst, hj]
  · rw [if_neg h1]
    have h5 : newT T j r i = T r i := by unfold newT; rw [if_neg (by omega)]
    have h6 : ∀ (U : MT) (w : Nat) (v : Int), 13 ≤ w ∧ w ≤ 17 → mst U w j v r i = U r i := fun U w v hw => mst_ne (by omega)
    by_cases h7 : r = 0 ∧ i = 7
    · obtain ⟨rfl, rfl⟩ := h7
      simp [mst]
    · rw [mst_ne h7]
      by_cases h8 : r = 0 ∧ i = 2
      · obtain ⟨rfl, rfl⟩ := h8
        simp [mst]
      · rw [mst_ne h8]
        by_cases h9 : r = 1 ∧ i = j
        · obtain ⟨rfl, rfl⟩ := h9
          simp [mst]
        · rw [mst_ne h9, h6 _ 17 _ (by omega), h6 _ 16 _ (by omega), h6 _ 15 _ (by omega), h6 _ 14 _ (by omega), h6 _ 13 _ (by omega), h5, if_neg h9, if_neg h8, if_neg h7]
section
variable {p : Program} {l : Launch} {e : Env} {R : Room} {s : State} {m : MethodId} {args : Array Value} {below : List Frame} {meth : Method} {c : Code} {Q : State → Prop} {cs : CSt} {A : Nat → Prop} {nL : Nat}
variable {cc : ByteArray} {own : String} {rt : Option FieldType} {k n np : Nat} {ad : Nat → Nat} {T T' : MT} {pc : Nat} {lv : List (Option Value)} {rest : List Value}
theorem g_cInitS (C : gC p l s m args meth c cs A nL cc RX1 rt) {x : Int} {a1 a2 a3 a4 a5 : Value} (hx : 0 ≤ x) (K : KD l cs yX0_init (Cond.code yX0_init cX0_init 6 none :: GW) 1 0 0 [grf ad x, a1, a2, a3, a4, a5] np ad T 0 none (np, ad, T')) (hR : 2 ≤ R.frames ∧ 65 ≤ R.locals) (hW : (rest.map fun v => v.category).sum ≤ 8) (hf : k + 0 ≤ R.cells ∧ n + 0 ≤ R.slots) (dd : decode cc pc = .ok (.invokespecial 11, 3)) (kk : GG p l e R s m args below meth c Q cs A nL (k + 0) (n + 0) np ad T' (pc + 3) lv rest) : GG p l e R s m args below meth c Q cs A nL k n np ad T pc lv (a5 :: a4 :: a3 :: a2 :: a1 :: grf ad x :: rest) := by
  rw [grf_ref hx] at K ⊢
  exact g_call0 C (g_runI (As := [a1, a2, a3, a4, a5]) C K ml_X1_11 mi_X0_init ini_PrefixYard_Span mc_X0_init rfl initS_d hR hW hf dd) (fun E u h => absurd rfl h.1) (fun v u h => by obtain ⟨-, rfl, rfl⟩ := h; exact kk)
end
theorem k_X1_makeSpan {l : Launch} {cs : CSt} {np : Nat} {ad : Nat → Nat} {T : MT} (hV : VC np T) (hP : VP T) (x B S o : Int) (hx : 0 ≤ x ∧ x + 13 < np) : KC l cs yX1_makeSpan (Cond.code yX1_makeSpan cX1_makeSpan 6 (some .int) :: GW) 6 1 6 [.ref (ad 0), grf ad x, .int (zI B), .int (zI S), .int (zI o)] np ad T (fun v u => T 0 2 < 60 ∧ v = some (.int (zI (T 0 2))) ∧ ∃ q, u = (np + 1, va_up ad np q, mkT T (T 0 2).toNat x B S o)) (fun E u => ¬ T 0 2 < 60 ∧ E = xn 3 ∧ u = (np, ad, T)) := by
  have hV0 := hV.1
  refine KC_of (cc := cX1_makeSpan) (nL := 6) (rt := (some .int)) (by decide) (by simp [grf_cat, cat_int, cat_ref]) (by simp) ?_
  intro p e s m args below meth c A C hE hin
  refine g_eq (lv2 := [some (.ref (ad 0)), some (grf ad x), some (.int (zI B)), some (.int (zI S)), some (.int (zI o)), none]) rfl rfl rfl ?_
  refine g_aload_0 (pc := 0) C dX1_makeSpan_0 ?_
  refine g_get_X1_22 (pc := 1) C (by omega) dX1_makeSpan_1 ?_
  refine g_istore_5 (pc := 4) C dX1_makeSpan_4 ?_
  refine g_iload_5 (pc := 6) C dX1_makeSpan_6 ?_
  refine g_aload_0 (pc := 8) C dX1_makeSpan_8 ?_
  refine g_get_X1_18 (pc := 9) C (by omega) dX1_makeSpan_9 ?_
  refine g_alen1 (pc := 12) C (by omega) dX1_makeSpan_12 ?_
  refine g_icmp_lt (pc := 13) (tgt := 26) C dX1_makeSpan_13 (by decide) (by omega) (by omega) (fun h13 => ?_) (fun h13 => ?_)
  · have hj : np - 13 = (T 0 2).toNat := by omega
    have hm : T 1 (np - 13) = 0 := by
      have := hV.2 (np - 13) (by omega)
      omega
    refine g_aload_0 (pc := 26) C dX1_makeSpan_26 ?_
    refine g_get_X1_18 (pc := 27) C (by omega) dX1_makeSpan_27 ?_
    refine g_iload_5 (pc := 30) C dX1_makeSpan_30 ?_
    refine g_newS (pc := 32) C (by omega) hm (fun j hj => hP j (by omega)) cl_X1_7 ⟨Nat.le_of_ble_eq_true rfl, Nat.le_of_ble_eq_true rfl⟩ dX1_makeSpan_32 (fun q => ?_)
    have had : ∀ i, i < 13 → va_up ad np q i = ad i := fun i hi => va_up_ne _ _ (by omega)
    have hself : va_up ad np q np = q := va_up_self _ _ _
    have hgx : grf (va_up ad np q) x = grf ad x := grf_up (Or.inl (by omega))
    have hgn : grf (va_up ad np q) (T 0 2) = .ref q := by rw [grf_ref (by omega), show (T 0 2).toNat + 13 = np by omega, hself]
    obtain ⟨ad', hd'⟩ : ∃ ad', ad' = va_up ad np q := ⟨_, rfl⟩
    rw [← hd'] at had hself hgx hgn ⊢
    rw [hj]
    refine g_eq (lv2 := [some (.ref (ad' 0)), some (grf ad' x), some (.int (zI B)), some (.int (zI S)), some (.int (zI o)), some (.int (zI (T 0 2)))]) (st2 := [grf ad' (T 0 2), .int (zI (T 0 2)), .ref (ad' 1)]) rfl (by rw [had 0 (by omega), hgx]) (by rw [had 1 (by omega), hgn]) ?_
    refine g_dup (pc := 35) C dX1_makeSpan_35 grf_cat ?_
    refine g_iload_5 (pc := 36) C dX1_makeSpan_36 ?_
    refine g_sload_1 (pc := 38) C dX1_makeSpan_38 ?_
    refine g_iload_2 (pc := 39) C dX1_makeSpan_39 ?_
    refine g_iload_3 (pc := 40) C dX1_makeSpan_40 ?_
    refine g_iload_4 (pc := 41) C dX1_makeSpan_41 ?_
    refine g_cInitS (pc := 43) C (by omega) (k_X0_init (T 0 2) (T 0 2) x B S o (by omega)) ⟨Nat.le_of_ble_eq_true rfl, Nat.le_of_ble_eq_true rfl⟩ (by simp [grf_cat, cat_int, cat_ref]) ⟨Nat.le_of_ble_eq_true rfl, Nat.le_of_ble_eq_true rfl⟩ dX1_makeSpan_43 ?_
    refine g_aast (pc := 46) C (by omega) (by omega) dX1_makeSpan_46 ?_
    refine g_aload_0 (pc := 47) C dX1_makeSpan_47 ?_
    refine g_dup (pc := 48) C dX1_makeSpan_48 rfl ?_
    refine g_get_X1_22 (pc := 49) C (by omega) dX1_makeSpan_49 ?_
    have e1 : ∀ i, mst (mst (mst (mst (mst (mst (newT T (T 0 2).toNat) 13 (T 0 2).toNat (T 0 2)) 14 (T 0 2).toNat x) 15 (T 0 2).toNat B) 16 (T 0 2).toNat S) 17 (T 0 2).toNat o) 1 (T 0 2).toNat 1 0 i = T 0 i := fun i => by
      rw [mst_r (by decide), mst_r (by decide), mst_r (by decide), mst_r (by decide), mst_r (by decide), mst_r (by decide), newT, if_neg (by omega)]
    rw [e1]
    refine g_iconst (pc := 52) C dX1_makeSpan_52 ?_
    refine g_iadd (pc := 53) C dX1_makeSpan_53 ?_
    refine g_put_X1_22 (pc := 54) C (by omega) dX1_makeSpan_54 ?_
    refine g_aload_0 (pc := 57) C dX1_makeSpan_57 ?_
    refine g_iconst (pc := 58) C dX1_makeSpan_58 ?_
    refine g_put_X1_39 (pc := 59) C (by omega) (by omega) dX1_makeSpan_59 ?_
    refine g_iload_5 (pc := 62) C dX1_makeSpan_62 ?_
    refine g_iret (pc := 64) C (Nat.le_of_ble_eq_true rfl) (Nat.le_of_ble_eq_true rfl) dX1_makeSpan_64 ?_
    exact ⟨by omega, rfl, q, by rw [← hd', mkT_eq _ _ _ _ _ _ (by omega)]⟩
  · refine g_throw_3 (pc := 16) C hE (text := "60 spans were made") (by decide) dX1_makeSpan_16 dX1_makeSpan_19 dX1_makeSpan_20 dX1_makeSpan_22 dX1_makeSpan_25 ⟨Nat.le_of_ble_eq_true rfl, Nat.le_of_ble_eq_true rfl, Nat.le_of_ble_eq_true rfl, Nat.le_of_ble_eq_true rfl⟩ ⟨Nat.le_of_ble_eq_true rfl, Nat.le_of_ble_eq_true rfl⟩ ?_
    exact ⟨by omega, rfl, rfl⟩
end
section
theorem dEx_of {ex c : Nat} {u0 : St3} {E : String} (h : ex = c) (hc : c ≠ 0) (hE : E = xn c) : dEx ex u0 E u0 := by
  subst h
  exact ⟨hc, hE, rfl⟩
def pasT (T : MT) (D : Int) (j : Nat) : MT := fun r i => if r = 2 ∧ i < j ∧ T 2 i ≠ 0 ∧ T 2 i ≠ -1 ∧ T 2 i ≤ D then 0 else T r i
def psN (T : MT) (D : Int) : Nat → Int
  | 0 => 0
  | j + 1 => psN T D j + (if T 2 j ≠ 0 ∧ T 2 j ≠ -1 ∧ T 2 j ≤ D then 1 else 0)
theorem psN_bd (T : MT) (D : Int) (j : Nat) : 0 ≤ psN T D j ∧ psN T D j ≤ j := by
  induction j with
  | zero => exact ⟨Int.le_refl 0, Int.le_refl 0⟩
  | succ j ih =>
    unfold psN
    split <;> omega
theorem pasT_r {T : MT} {D : Int} {j r i : Nat} (h : r ≠ 2 ∨ j ≤ i) : pasT T D j r i = T r i := by
  unfold pasT
  rw [if_neg (by omega)]
theorem pasT_0 (T : MT) (D : Int) : pasT T D 0 = T := by
  funext r i
  exact pasT_r (Or.inr (Nat.zero_le _))
theorem pasT_y (T : MT) (D : Int) (j : Nat) (h : T 2 j ≠ 0 ∧ T 2 j ≠ -1 ∧ T 2 j ≤ D) : mst (pasT T D j) 2 j 0 = pasT T D (j + 1) := by
  funext r i
  unfold mst pasT
  by_cases h1 : r = 2 ∧ i = j
  · obtain ⟨rfl, rfl⟩ := h1
    rw [if_pos ⟨rfl, rfl⟩, if_pos ⟨rfl, by omega, h⟩]
  · rw [if_neg h1]
    by_cases h2 : r = 2 ∧ i < j ∧ T 2 i ≠ 0 ∧ T 2 i ≠ -1 ∧ T 2 i ≤ D
    · rw [if_pos h2, if_pos ⟨h2.1, by omega, h2.2.2⟩]
    · rw [if_neg h2, if_neg (fun q => h2 ⟨q.1, by omega, q.2.2⟩)]
theorem pasT_n (T : MT) (D : Int) (j : Nat) (h : ¬ (T 2 j ≠ 0 ∧ T 2 j ≠ -1 ∧ T 2 j ≤ D)) : pasT T D j = pasT T D (j + 1) := by
  funext r i
  unfold pasT
  by_cases h2 : r = 2 ∧ i < j ∧ T 2 i ≠ 0 ∧ T 2 i ≠ -1 ∧ T 2 i ≤ D
  · rw [if_pos h2, if_pos ⟨h2.1, by omega, h2.2.2⟩]
  · rw [if_neg h2, if_neg]
    rintro ⟨q1, q2, q3⟩
    by_cases e : i = j
    · rw [e] at q3; exact h q3
    · exact h2 ⟨q1, by omega, q3⟩
def spN (h : Nat → Int) : Nat → Int
  | 0 => 0
  | j + 1 => spN h j + (if h j ≠ 0 then 1 else 0)
noncomputable def itS (T : MT) (x S : Int) (u : Int × Int) : Int × Int :=
  if T 15 x.toNat + T 16 x.toNat ≤ u.2 ∨ u.1 ≤ 0 then u
  else (min u.1 (cntC T x u.2 S 60), if 0 ≤ chC T x u.2 60 ∧ S < T 16 (chC T x u.2 60).toNat then T 15 (chC T x u.2 60).toNat + T 16 (chC T x u.2 60).toNat else u.2 + S)
noncomputable def itI (T : MT) (x S : Int) : Nat → Int × Int
  | 0 => (60, T 15 x.toNat)
  | n + 1 => itS T x S (itI T x S n)
theorem itI_fix (T : MT) (x S : Int) (j k : Nat) (h : T 15 x.toNat + T 16 x.toNat ≤ (itI T x S j).2 ∨ (itI T x S j).1 ≤ 0) : itI T x S (j + k) = itI T x S j := by
  induction k with
  | zero => rfl
  | succ k ih =>
    show itS T x S (itI T x S (j + k)) = _
    rw [ih, itS, if_pos h]
noncomputable def nsI (T : MT) (a : Int) : Nat → Int
  | 0 => 0
  | n + 1 => if 0 ≤ chC T (nsI T a n) a 60 then chC T (nsI T a n) a 60 else nsI T a n
theorem nsI_fix (T : MT) (a : Int) (j k : Nat) (h : ¬ 0 ≤ chC T (nsI T a j) a 60) : nsI T a (j + k) = nsI T a j := by
  induction k with
  | zero => rfl
  | succ k ih =>
    show (if 0 ≤ chC T (nsI T a (j + k)) a 60 then chC T (nsI T a (j + k)) a 60 else nsI T a (j + k)) = _
    rw [ih, if_neg h]
theorem nsI_isS {T : MT} (hw : T 1 0 ≠ 0) (a : Int) (j : Nat) : isS T (nsI T a j) := by
  induction j with
  | zero => exact ⟨Int.le_refl _, (by decide : (0 : Int) < 60), hw⟩
  | succ j ih =>
    unfold nsI
    split
    · rename_i h
      have hc := chC_bd T (nsI T a j) a 60
      exact ⟨h, hc.2.1, (hc.2.2 h).1⟩
    · exact ih
def ownS (T : MT) (o : Int) : Nat → Int
  | 0 => 0
  | j + 1 => ownS T o j + (if T 1 j ≠ 0 ∧ T 17 j = o then outC T j else 0)
noncomputable def cbkC (e a : Int) : Int := hid (cbk e 4096 a)
theorem cbkC_eq (e a : Int) : cbkC e a = cbk e 4096 a := hid_eq _
noncomputable def blS (T : MT) (o : Int) : Nat → Int × Int
  | 0 => (0, 0)
  | j + 1 => if 0 ≤ fsp T (T 3 j) ∧ T 17 (fsp T (T 3 j)).toNat = o then blS T o j else ((blS T o j).1 + cbkC j (blS T o j).2, (j : Int) + 1)
theorem blS_bd (T : MT) (o : Int) (j : Nat) : 0 ≤ (blS T o j).2 ∧ (blS T o j).2 ≤ j := by
  induction j with
  | zero => exact ⟨Int.le_refl 0, Int.le_refl 0⟩
  | succ j ih =>
    unfold blS
    split
    · omega
    · dsimp only
      omega
theorem lyS_3 {T : MT} {x : Nat} {i : Nat} (h : 0 ≤ T 13 x ∧ T 13 x < 60) (hi : 0 ≤ T 3 i ∧ T 3 i < 60) : 0 ≤ lyS T x 3 i ∧ lyS T x 3 i < 60 := by
  unfold lyS
  split
  · exact h
  · exact hi
theorem lyJ_3 {np : Nat} {T : MT} (hV : VC np T) (w : Int) (i : Nat) (hi : 0 ≤ T 3 i ∧ T 3 i < 60) (j : Nat) (hj : j ≤ 60) : 0 ≤ lyJ T w j 3 i ∧ lyJ T w j 3 i < 60 := by
  induction j with
  | zero => exact hi
  | succ j ih =>
    have ih := ih (by omega)
    unfold lyJ
    split
    · rename_i h
      have h2 := hV.2 j (by omega)
      exact lyS_3 (by rw [lyJ_r (by decide)]; omega) ih
    · exact ih
theorem lyK_3 {np : Nat} {T : MT} (hV : VC np T) (i : Nat) (hi : 0 ≤ T 3 i ∧ T 3 i < 60) (k : Nat) : 0 ≤ lyK T k 3 i ∧ lyK T k 3 i < 60 := by
  induction k with
  | zero => exact hi
  | succ k ih =>
    unfold lyK
    exact lyJ_3 (hV.ly (fun r i h => lyK_r h)) _ i ih 60 (by omega)
theorem lyR_r {T : MT} {r i : Nat} (h : r ≠ 3) (h7 : ¬ (r = 0 ∧ i = 7)) : lyR T r i = T r i := by
  unfold lyR
  split
  · rw [mst_ne h7, lyK_r h]
  · rfl
theorem lyR_7 {T : MT} (h : T 0 7 = 0 ∨ T 0 7 = 1) : lyR T 0 7 = 1 := by
  unfold lyR
  split
  · rw [mst_eq]
  · omega
theorem VC.lyR {np : Nat} {T : MT} (h : VC np T) : VC np (lyR T) := h.same (fun r i hr => lyR_r (by omega) (by omega))
theorem VA.lyR {np : Nat} {T : MT} (h : VA T) (hV : VC np T) : VA (lyR T) := by
  obtain ⟨h1, h2⟩ := h
  refine ⟨?_, fun a ha => ?_⟩
  · rw [lyR_r (by decide) (by decide), lyR_r (by decide) (by decide), lyR_7 h1.2.2.2.2]
    omega
  · have h3 := h2 a ha
    have h4 : 0 ≤ _root_.Jvm.Pilot.@@N@@.lyR T 3 a ∧ _root_.Jvm.Pilot.@@N@@.lyR T 3 a < 60 := by
      unfold _root_.Jvm.Pilot.@@N@@.lyR
      split
      · rw [mst_r (by decide)]
        exact lyK_3 hV a (by omega) 13
      · omega
    rw [lyR_r (r := 2) (by decide) (fun q => absurd q.1 (by decide))]
    omega
theorem nx_and (a b : Nat) : nI a &&& nI b = nI (a &&& b) := by
  show Int32.ofNat a &&& Int32.ofNat b = Int32.ofNat (a &&& b)
  rw [← Int32.toBitVec_inj, Int32.toBitVec_and]
  simp [Int32.toBitVec_ofNat', BitVec.ofNat_and]
theorem nat_and_neg (a k : Nat) (ha : a < 2 ^ 32) : a &&& ((2 ^ (32 - k) - 1) <<< k) = (a >>> k) <<< k := by
  refine Nat.eq_of_testBit_eq fun i => ?_
  rw [Nat.testBit_and, Nat.testBit_shiftLeft, Nat.testBit_shiftLeft, Nat.testBit_two_pow_sub_one, Nat.testBit_shiftRight]
  by_cases h1 : k ≤ i
  · rw [show k + (i - k) = i by omega]
    by_cases h2 : i - k < 32 - k
    · simp [h1, h2]
    · have h3 : a.testBit i = false := Nat.testBit_lt_two_pow (Nat.lt_of_lt_of_le ha (Nat.pow_le_pow_right (by decide) (by omega)))
      simp [h3]
  · simp [h1]
theorem and_neg {a t : Int} (ha : 0 ≤ a ∧ a < 2147483648) (ht : t = 2 ∨ t = 4 ∨ t = 8 ∨ t = 16 ∨ t = 32 ∨ t = 64 ∨ t = 128 ∨ t = 256 ∨ t = 512 ∨ t = 1024 ∨ t = 2048 ∨ t = 4096 ∨ t = 8192) : zI a &&& zI (-t) = zI (a - a % t) := by
  have e1 : zI a = nI a.toNat := by
    show zI a = Int32.ofNat a.toNat
    rw [zI_ofNat, Int.toNat_of_nonneg ha.1]
  have key : ∀ (k : Nat) (u : Int), u = ((2 ^ k : Nat) : Int) → zI (-u) = nI ((2 ^ (32 - k) - 1) <<< k) → zI a &&& zI (-u) = zI (a - a % u) := by
    intro k u hu hm
    rw [hm, e1, nx_and, nat_and_neg _ _ (by omega)]
    show Int32.ofNat _ = _
    rw [zI_ofNat, Nat.shiftLeft_eq, Nat.shiftRight_eq_div_pow]
    congr 1
    have h1 := Nat.div_add_mod a.toNat (2 ^ k)
    have h2 : ((a.toNat % 2 ^ k : Nat) : Int) = a % u := by
      rw [Int.natCast_emod, Int.toNat_of_nonneg ha.1, hu]
    rw [← h2]
    have h3 : (a.toNat : Int) = a := Int.toNat_of_nonneg ha.1
    rw [Nat.mul_comm] at h1
    omega
  rcases ht with rfl | rfl | rfl | rfl | rfl | rfl | rfl | rfl | rfl | rfl | rfl | rfl | rfl
  · exact key 1 2 (by decide) (by decide)
  · exact key 2 4 (by decide) (by decide)
  · exact key 3 8 (by decide) (by decide)
  · exact key 4 16 (by decide) (by decide)
  · exact key 5 32 (by decide) (by decide)
  · exact key 6 64 (by decide) (by decide)
  · exact key 7 128 (by decide) (by decide)
  · exact key 8 256 (by decide) (by decide)
  · exact key 9 512 (by decide) (by decide)
  · exact key 10 1024 (by decide) (by decide)
  · exact key 11 2048 (by decide) (by decide)
  · exact key 12 4096 (by decide) (by decide)
  · exact key 13 8192 (by decide) (by decide)
noncomputable def itwC (T : MT) (x S : Int) : Int := hid (itI T x S 4096).1
theorem itwC_eq (T : MT) (x S : Int) : itwC T x S = (itI T x S 4096).1 := hid_eq _
end
section
theorem szp_mod {a S : Int} (ha : 0 ≤ a ∧ a < 2147483648) (hS : szp S) : zI a &&& zI (S - 1) = zI (a % S) := by
  by_cases h1 : S = 1
  · subst h1
    rw [Int.emod_one, Int.sub_self]
    have e : zI (0 : Int) = 0 := by decide
    rw [e]
    exact Int32.and_zero
  · exact and_p2 ha (by unfold szp at hS; omega)
theorem szp_bd {S : Int} (hS : szp S) : 1 ≤ S ∧ S ≤ 2048 := by unfold szp at hS; omega
theorem cbI_bd {np : Nat} {T : MT} (hV : VC np T) {x : Int} (hx : isS T x) (S : Int) (lst : Bool) (j : Nat) : -1 ≤ (cbI T x S lst j).1 ∧ (cbI T x S lst j).1 ≤ 4096 ∧ T 15 x.toNat ≤ (cbI T x S lst j).2.2 ∧ (cbI T x S lst j).2.2 ≤ 4096 := by
  have hV0 := hV.s hx
  have key : ∀ u : Int × Int × Int, (-1 ≤ u.1 ∧ u.1 ≤ 4096 ∧ T 15 x.toNat ≤ u.2.2 ∧ u.2.2 ≤ 4096) → (-1 ≤ (cbS T x S lst u).1 ∧ (cbS T x S lst u).1 ≤ 4096 ∧ T 15 x.toNat ≤ (cbS T x S lst u).2.2 ∧ (cbS T x S lst u).2.2 ≤ 4096) := by
    intro u ih
    unfold cbS
    by_cases h1 : T 15 x.toNat + T 16 x.toNat ≤ u.2.2
    · rw [if_pos h1]; exact ih
    · rw [if_neg h1]
      have hcb := chC_bd T x u.2.2 60
      by_cases h2 : 0 ≤ chC T x u.2.2 60
      · rw [if_pos h2]
        have hcc : isS T (chC T x u.2.2 60) := ⟨h2, hcb.2.1, (hcb.2.2 h2).1⟩
        have hcs := hV.s hcc
        have h3 := (hcb.2.2 h2).2.2
        exact ⟨ih.1, ih.2.1, by show T 15 x.toNat ≤ T 15 (chC T x u.2.2 60).toNat + T 16 (chC T x u.2.2 60).toNat; omega, by show T 15 (chC T x u.2.2 60).toNat + T 16 (chC T x u.2.2 60).toNat ≤ 4096; omega⟩
      · rw [if_neg h2]
        have hrm0 := roomC_bd hV hx (a := u.2.2) (by omega)
        by_cases h4 : S ≤ roomC T x u.2.2 ∧ (u.1 = -1 ∨ (if lst = true then roomC T x u.2.2 < u.2.1 else u.2.1 < roomC T x u.2.2))
        · rw [if_pos h4]
          exact ⟨by show -1 ≤ u.2.2; omega, by show u.2.2 ≤ 4096; omega, by show _ ≤ u.2.2 + roomC T x u.2.2; omega, by show u.2.2 + roomC T x u.2.2 ≤ 4096; omega⟩
        · rw [if_neg h4]
          exact ⟨ih.1, ih.2.1, by show _ ≤ u.2.2 + roomC T x u.2.2; omega, by show u.2.2 + roomC T x u.2.2 ≤ 4096; omega⟩
  induction j with
  | zero => exact ⟨by show (-1 : Int) ≤ -1; omega, by show (-1 : Int) ≤ 4096; omega, Int.le_refl _, by show T 15 x.toNat ≤ 4096; omega⟩
  | succ j ih => exact key _ ih
theorem k_X1_base {l : Launch} {cs : CSt} {np : Nat} {ad : Nat → Nat} {T : MT} (hV : VC np T) (a : Int) (ha : -2147483648 ≤ a ∧ a < 2147483648) : KD l cs yX1_base (Cond.code yX1_base cX1_base 2 (some .int) :: GW) 7 8 48 [.ref (ad 0), .int (zI a)] np ad T (if fsp T a < 0 then 1 else 0) (some (.int (zI (T 15 a.toNat)))) (np, ad, T) := by
  have hV0 := hV.1
  refine KC_of (cc := cX1_base) (nL := 2) (rt := (some .int)) (by decide) (by simp [grf_cat, cat_int, cat_ref]) (by simp) ?_
  intro p e s m args below meth c A C hE hin
  refine g_eq (lv2 := [some (.ref (ad 0)), some (.int (zI a))]) rfl rfl rfl ?_
  refine g_aload_0 (pc := 0) C dX1_base_0 ?_
  refine g_iload_1 (pc := 1) C dX1_base_1 ?_
  refine g_cY1Dv (pc := 2) C hE cs_X1_43 (k_X1_spanOf a (by omega) ha) ⟨Nat.le_of_ble_eq_true rfl, Nat.le_of_ble_eq_true rfl⟩ (by omega) (Nat.le_of_ble_eq_true rfl) ⟨Nat.le_of_ble_eq_true rfl, Nat.le_of_ble_eq_true rfl⟩ ⟨Nat.le_of_ble_eq_true rfl, Nat.le_of_ble_eq_true rfl⟩ (fun hx2 => ?_) dX1_base_2 (fun hn2 => ?_)
  · have h2 := exq_ne hx2
    exact dEx_of (c := 1) (by rw [if_pos (by omega)]) (by decide) (by rw [exq_f h2])
  · have h2 := exq_eq hn2 (by decide)
    rcases fsp_or T a with ⟨q1, q2⟩ | ⟨q1, q2⟩
    · omega
    have hV1 := hV.s q2
    rw [q1]
    first | refine g_getn_X1_101 (pc := 5) C (by omega) dX1_base_5 ?_ | refine g_get_X1_101 (pc := 5) C (by omega) dX1_base_5 ?_
    refine g_iret (pc := 8) C (Nat.le_of_ble_eq_true rfl) (Nat.le_of_ble_eq_true rfl) dX1_base_8 ?_
    exact ⟨by rw [if_neg (by omega)], rfl, rfl⟩
theorem k_X1_size {l : Launch} {cs : CSt} {np : Nat} {ad : Nat → Nat} {T : MT} (hV : VC np T) (a : Int) (ha : -2147483648 ≤ a ∧ a < 2147483648) : KD l cs yX1_size (Cond.code yX1_size cX1_size 2 (some .int) :: GW) 7 8 48 [.ref (ad 0), .int (zI a)] np ad T (if fsp T a < 0 then 1 else 0) (some (.int (zI (T 16 a.toNat)))) (np, ad, T) := by
  have hV0 := hV.1
  refine KC_of (cc := cX1_size) (nL := 2) (rt := (some .int)) (by decide) (by simp [grf_cat, cat_int, cat_ref]) (by simp) ?_
  intro p e s m args below meth c A C hE hin
  refine g_eq (lv2 := [some (.ref (ad 0)), some (.int (zI a))]) rfl rfl rfl ?_
  refine g_aload_0 (pc := 0) C dX1_size_0 ?_
  refine g_iload_1 (pc := 1) C dX1_size_1 ?_
  refine g_cY1Dv (pc := 2) C hE cs_X1_43 (k_X1_spanOf a (by omega) ha) ⟨Nat.le_of_ble_eq_true rfl, Nat.le_of_ble_eq_true rfl⟩ (by omega) (Nat.le_of_ble_eq_true rfl) ⟨Nat.le_of_ble_eq_true rfl, Nat.le_of_ble_eq_true rfl⟩ ⟨Nat.le_of_ble_eq_true rfl, Nat.le_of_ble_eq_true rfl⟩ (fun hx2 => ?_) dX1_size_2 (fun hn2 => ?_)
  · have h2 := exq_ne hx2
    exact dEx_of (c := 1) (by rw [if_pos (by omega)]) (by decide) (by rw [exq_f h2])
  · have h2 := exq_eq hn2 (by decide)
    rcases fsp_or T a with ⟨q1, q2⟩ | ⟨q1, q2⟩
    · omega
    have hV1 := hV.s q2
    rw [q1]
    first | refine g_getn_X1_114 (pc := 5) C (by omega) dX1_size_5 ?_ | refine g_get_X1_114 (pc := 5) C (by omega) dX1_size_5 ?_
    refine g_iret (pc := 8) C (Nat.le_of_ble_eq_true rfl) (Nat.le_of_ble_eq_true rfl) dX1_size_8 ?_
    exact ⟨by rw [if_neg (by omega)], rfl, rfl⟩
def VT (T : MT) : Prop := ∀ j : Nat, j < 60 → T 1 j ≠ 0 → 0 ≤ T 14 j → T 1 (T 14 j).toNat ≠ 0
theorem k_X1_parent {l : Launch} {cs : CSt} {np : Nat} {ad : Nat → Nat} {T : MT} (hV : VC np T) (hT : VT T) (a : Int) (ha : -2147483648 ≤ a ∧ a < 2147483648) : KD l cs yX1_parent (Cond.code yX1_parent cX1_parent 3 (some .int) :: GW) 7 8 48 [.ref (ad 0), .int (zI a)] np ad T (if fsp T a < 0 then 1 else 0) (some (.int (zI (T 14 a.toNat)))) (np, ad, T) := by
  have hV0 := hV.1
  refine KC_of (cc := cX1_parent) (nL := 3) (rt := (some .int)) (by decide) (by simp [grf_cat, cat_int, cat_ref]) (by simp) ?_
  intro p e s m args below meth c A C hE hin
  refine g_eq (lv2 := [some (.ref (ad 0)), some (.int (zI a)), none]) rfl rfl rfl ?_
  refine g_aload_0 (pc := 0) C dX1_parent_0 ?_
  refine g_iload_1 (pc := 1) C dX1_parent_1 ?_
  refine g_cY1Dv (pc := 2) C hE cs_X1_43 (k_X1_spanOf a (by omega) ha) ⟨Nat.le_of_ble_eq_true rfl, Nat.le_of_ble_eq_true rfl⟩ (by omega) (Nat.le_of_ble_eq_true rfl) ⟨Nat.le_of_ble_eq_true rfl, Nat.le_of_ble_eq_true rfl⟩ ⟨Nat.le_of_ble_eq_true rfl, Nat.le_of_ble_eq_true rfl⟩ (fun hx2 => ?_) dX1_parent_2 (fun hn2 => ?_)
  · have h2 := exq_ne hx2
    exact dEx_of (c := 1) (by rw [if_pos (by omega)]) (by decide) (by rw [exq_f h2])
  · have h2 := exq_eq hn2 (by decide)
    rcases fsp_or T a with ⟨q1, q2⟩ | ⟨q1, q2⟩
    · omega
    have hV1 := hV.s q2
    rw [q1]
    first | refine g_getn_X1_94 (pc := 5) C (by omega) dX1_parent_5 ?_ | refine g_get_X1_94 (pc := 5) C (by omega) dX1_parent_5 ?_
    refine g_sstore_2 (pc := 8) C dX1_parent_8 ?_
    refine g_sload_2 (pc := 9) C dX1_parent_9 ?_
    refine g_ifnonnull (pc := 10) (tgt := 17) C dX1_parent_10 (by decide) (fun h10 => ?_) (fun h10 => ?_)
    · have hp := hV.s (x := T 14 a.toNat) ⟨h10, by omega, hT a.toNat (by omega) q2.2.2 h10⟩
      refine g_sload_2 (pc := 17) C dX1_parent_17 ?_
      first | refine g_getn_X1_154 (pc := 18) C (by omega) dX1_parent_18 ?_ | refine g_get_X1_154 (pc := 18) C (by omega) dX1_parent_18 ?_
      refine g_iret (pc := 21) C (Nat.le_of_ble_eq_true rfl) (Nat.le_of_ble_eq_true rfl) dX1_parent_21 ?_
      exact ⟨by rw [if_neg (by omega)], by rw [hp.2.2.2.2.1], rfl⟩
    · refine g_iconst (pc := 13) C dX1_parent_13 ?_
      refine g_goto (pc := 14) (tgt := 21) C dX1_parent_14 (by decide) ?_
      refine g_iret (pc := 21) C (Nat.le_of_ble_eq_true rfl) (Nat.le_of_ble_eq_true rfl) dX1_parent_21 ?_
      exact ⟨by rw [if_neg (by omega)], by rw [show T 14 a.toNat = -1 by omega], rfl⟩
theorem k_X1_free {l : Launch} {cs : CSt} {np : Nat} {ad : Nat → Nat} {T : MT} (hV : VC np T) (hA : VA T) (a : Int) (ha : -2147483648 ≤ a ∧ a < 2147483648) : KD l cs yX1_free (Cond.code yX1_free cX1_free 3 (some .int) :: GW) 7 8 48 [.ref (ad 0), .int (zI a)] np ad T (if fsp T a < 0 then 1 else 0) (some (.int (zI (outC T a - liiC T a)))) (np, ad, T) := by
  have hV0 := hV.1
  refine KC_of (cc := cX1_free) (nL := 3) (rt := (some .int)) (by decide) (by simp [grf_cat, cat_int, cat_ref]) (by simp) ?_
  intro p e s m args below meth c A C hE hin
  refine g_eq (lv2 := [some (.ref (ad 0)), some (.int (zI a)), none]) rfl rfl rfl ?_
  refine g_aload_0 (pc := 0) C dX1_free_0 ?_
  refine g_iload_1 (pc := 1) C dX1_free_1 ?_
  refine g_cY1Dv (pc := 2) C hE cs_X1_43 (k_X1_spanOf a (by omega) ha) ⟨Nat.le_of_ble_eq_true rfl, Nat.le_of_ble_eq_true rfl⟩ (by omega) (Nat.le_of_ble_eq_true rfl) ⟨Nat.le_of_ble_eq_true rfl, Nat.le_of_ble_eq_true rfl⟩ ⟨Nat.le_of_ble_eq_true rfl, Nat.le_of_ble_eq_true rfl⟩ (fun hx2 => ?_) dX1_free_2 (fun hn2 => ?_)
  · have h2 := exq_ne hx2
    exact dEx_of (c := 1) (by rw [if_pos (by omega)]) (by decide) (by rw [exq_f h2])
  · have h2 := exq_eq hn2 (by decide)
    rcases fsp_or T a with ⟨q1, q2⟩ | ⟨q1, q2⟩
    · omega
    have hV1 := hV.s q2
    rw [q1]
    refine g_sstore_2 (pc := 5) C dX1_free_5 ?_
    refine g_aload_0 (pc := 6) C dX1_free_6 ?_
    refine g_sload_2 (pc := 7) C dX1_free_7 ?_
    refine g_cY1Pv (pc := 8) C cs_X1_157 (k_X1_outsideChildren hV a (by omega)) ⟨Nat.le_of_ble_eq_true rfl, Nat.le_of_ble_eq_true rfl⟩ (by omega) (Nat.le_of_ble_eq_true rfl) ⟨Nat.le_of_ble_eq_true rfl, Nat.le_of_ble_eq_true rfl⟩ dX1_free_8 ?_
    refine g_aload_0 (pc := 11) C dX1_free_11 ?_
    refine g_sload_2 (pc := 12) C dX1_free_12 ?_
    refine g_cY1Pv (pc := 13) C cs_X1_160 (k_X1_lentInItself hV hA a q2) ⟨Nat.le_of_ble_eq_true rfl, Nat.le_of_ble_eq_true rfl⟩ (by omega) (Nat.le_of_ble_eq_true rfl) ⟨Nat.le_of_ble_eq_true rfl, Nat.le_of_ble_eq_true rfl⟩ dX1_free_13 ?_
    refine g_isub (pc := 16) C dX1_free_16 ?_
    refine g_iret (pc := 17) C (Nat.le_of_ble_eq_true rfl) (Nat.le_of_ble_eq_true rfl) dX1_free_17 ?_
    exact ⟨by rw [if_neg (by omega)], rfl, rfl⟩
noncomputable def gfC (T : MT) (x : Int) : Int := if chB T x 1 false = -1 then 0 else if roomC T x (chB T x 1 false) < T 16 x.toNat then roomC T x (chB T x 1 false) else T 16 x.toNat / 2
theorem k_X1_greatestFree {l : Launch} {cs : CSt} {np : Nat} {ad : Nat → Nat} {T : MT} (hV : VC np T) (a : Int) (ha : -2147483648 ≤ a ∧ a < 2147483648) : KD l cs yX1_greatestFree (Cond.code yX1_greatestFree cX1_greatestFree 5 (some .int) :: GW) 7 8 48 [.ref (ad 0), .int (zI a)] np ad T (if fsp T a < 0 then 1 else 0) (some (.int (zI (gfC T a)))) (np, ad, T) := by
  have hV0 := hV.1
  refine KC_of (cc := cX1_greatestFree) (nL := 5) (rt := (some .int)) (by decide) (by simp [grf_cat, cat_int, cat_ref]) (by simp) ?_
  intro p e s m args below meth c A C hE hin
  refine g_eq (lv2 := [some (.ref (ad 0)), some (.int (zI a)), none, none, none]) rfl rfl rfl ?_
  refine g_aload_0 (pc := 0) C dX1_greatestFree_0 ?_
  refine g_iload_1 (pc := 1) C dX1_greatestFree_1 ?_
  refine g_cY1Dv (pc := 2) C hE cs_X1_43 (k_X1_spanOf a (by omega) ha) ⟨Nat.le_of_ble_eq_true rfl, Nat.le_of_ble_eq_true rfl⟩ (by omega) (Nat.le_of_ble_eq_true rfl) ⟨Nat.le_of_ble_eq_true rfl, Nat.le_of_ble_eq_true rfl⟩ ⟨Nat.le_of_ble_eq_true rfl, Nat.le_of_ble_eq_true rfl⟩ (fun hx2 => ?_) dX1_greatestFree_2 (fun hn2 => ?_)
  · have h2 := exq_ne hx2
    exact dEx_of (c := 1) (by rw [if_pos (by omega)]) (by decide) (by rw [exq_f h2])
  · have h2 := exq_eq hn2 (by decide)
    rcases fsp_or T a with ⟨q1, q2⟩ | ⟨q1, q2⟩
    · omega
    have hV1 := hV.s q2
    rw [q1]
    have hcb : -1 ≤ chB T a 1 false ∧ chB T a 1 false ≤ 4096 := by rw [chB_eq]; exact ⟨(cbI_bd hV q2 1 false 4096).1, (cbI_bd hV q2 1 false 4096).2.1⟩
    have hg2 := roomC_b2 T a (chB T a 1 false)
    refine g_sstore_2 (pc := 5) C dX1_greatestFree_5 ?_
    refine g_aload_0 (pc := 6) C dX1_greatestFree_6 ?_
    refine g_sload_2 (pc := 7) C dX1_greatestFree_7 ?_
    refine g_iconst (pc := 8) C dX1_greatestFree_8 ?_
    refine g_iconst (pc := 9) C dX1_greatestFree_9 ?_
    refine g_cY3Pv (pc := 10) C cs_X1_65 (k_X1_chosenBlock hV a 1 false q2 (by omega)) ⟨Nat.le_of_ble_eq_true rfl, Nat.le_of_ble_eq_true rfl⟩ (by omega) (Nat.le_of_ble_eq_true rfl) ⟨Nat.le_of_ble_eq_true rfl, Nat.le_of_ble_eq_true rfl⟩ dX1_greatestFree_10 ?_
    refine g_istore_3 (pc := 13) C dX1_greatestFree_13 ?_
    refine g_iload_3 (pc := 14) C dX1_greatestFree_14 ?_
    refine g_iconst (pc := 15) C dX1_greatestFree_15 ?_
    refine g_icmp_ne (pc := 16) (tgt := 21) C dX1_greatestFree_16 (by decide) (by omega) (by omega) (fun h16 => ?_) (fun h16 => ?_)
    · refine g_aload_0 (pc := 21) C dX1_greatestFree_21 ?_
      refine g_sload_2 (pc := 22) C dX1_greatestFree_22 ?_
      refine g_iload_3 (pc := 23) C dX1_greatestFree_23 ?_
      refine g_cY2Pv (pc := 24) C cs_X1_74 (k_X1_roomAt hV a _ q2 (by omega)) ⟨Nat.le_of_ble_eq_true rfl, Nat.le_of_ble_eq_true rfl⟩ (by omega) (Nat.le_of_ble_eq_true rfl) ⟨Nat.le_of_ble_eq_true rfl, Nat.le_of_ble_eq_true rfl⟩ dX1_greatestFree_24 ?_
      refine g_istore_4 (pc := 27) C dX1_greatestFree_27 ?_
      refine g_iload_4 (pc := 29) C dX1_greatestFree_29 ?_
      refine g_sload_2 (pc := 31) C dX1_greatestFree_31 ?_
      first | refine g_getn_X1_114 (pc := 32) C (by omega) dX1_greatestFree_32 ?_ | refine g_get_X1_114 (pc := 32) C (by omega) dX1_greatestFree_32 ?_
      refine g_icmp_ge (pc := 35) (tgt := 43) C dX1_greatestFree_35 (by decide) (by omega) (by omega) (fun h35 => ?_) (fun h35 => ?_)
      · refine g_sload_2 (pc := 43) C dX1_greatestFree_43 ?_
        first | refine g_getn_X1_114 (pc := 44) C (by omega) dX1_greatestFree_44 ?_ | refine g_get_X1_114 (pc := 44) C (by omega) dX1_greatestFree_44 ?_
        refine g_iconst (pc := 47) C dX1_greatestFree_47 ?_
        refine g_idiv (pc := 48) C dX1_greatestFree_48 (by omega) (by omega) ?_
        refine g_iret (pc := 49) C (Nat.le_of_ble_eq_true rfl) (Nat.le_of_ble_eq_true rfl) dX1_greatestFree_49 ?_
        exact ⟨by rw [if_neg (by omega)], by rw [gfC, if_neg h16, if_neg (by omega)], rfl⟩
      · refine g_iload_4 (pc := 38) C dX1_greatestFree_38 ?_
        refine g_goto (pc := 40) (tgt := 49) C dX1_greatestFree_40 (by decide) ?_
        refine g_iret (pc := 49) C (Nat.le_of_ble_eq_true rfl) (Nat.le_of_ble_eq_true rfl) dX1_greatestFree_49 ?_
        exact ⟨by rw [if_neg (by omega)], by rw [gfC, if_neg h16, if_pos (by omega)], rfl⟩
    · refine g_iconst (pc := 19) C dX1_greatestFree_19 ?_
      refine g_iret (pc := 20) C (Nat.le_of_ble_eq_true rfl) (Nat.le_of_ble_eq_true rfl) dX1_greatestFree_20 ?_
      exact ⟨by rw [if_neg (by omega)], by rw [gfC, if_pos h16], rfl⟩
theorem k_X1_day {l : Launch} {cs : CSt} {np : Nat} {ad : Nat → Nat} {T : MT} (h13 : 13 ≤ np) : KD l cs yX1_day (Cond.code yX1_day cX1_day 1 (some .int) :: GW) 7 8 48 [.ref (ad 0)] np ad T 0 (some (.int (zI (T 0 5)))) (np, ad, T) := by
  refine KC_of (cc := cX1_day) (nL := 1) (rt := (some .int)) (by decide) (by simp [grf_cat, cat_int, cat_ref]) (by simp) ?_
  intro p e s m args below meth c A C hE hin
  refine g_eq (lv2 := [some (.ref (ad 0))]) rfl rfl rfl ?_
  refine g_aload_0 (pc := 0) C dX1_day_0 ?_
  refine g_get_X1_33 (pc := 1) C (by omega) dX1_day_1 ?_
  refine g_iret (pc := 4) C (Nat.le_of_ble_eq_true rfl) (Nat.le_of_ble_eq_true rfl) dX1_day_4 ?_
  exact ⟨rfl, rfl, rfl⟩
theorem k_X1_lent {l : Launch} {cs : CSt} {np : Nat} {ad : Nat → Nat} {T : MT} (h13 : 13 ≤ np) : KD l cs yX1_lent (Cond.code yX1_lent cX1_lent 1 (some .int) :: GW) 7 8 48 [.ref (ad 0)] np ad T 0 (some (.int (zI (T 0 4)))) (np, ad, T) := by
  refine KC_of (cc := cX1_lent) (nL := 1) (rt := (some .int)) (by decide) (by simp [grf_cat, cat_int, cat_ref]) (by simp) ?_
  intro p e s m args below meth c A C hE hin
  refine g_eq (lv2 := [some (.ref (ad 0))]) rfl rfl rfl ?_
  refine g_aload_0 (pc := 0) C dX1_lent_0 ?_
  refine g_get_X1_30 (pc := 1) C (by omega) dX1_lent_1 ?_
  refine g_iret (pc := 4) C (Nat.le_of_ble_eq_true rfl) (Nat.le_of_ble_eq_true rfl) dX1_lent_4 ?_
  exact ⟨rfl, rfl, rfl⟩
theorem k_X1_isThere {l : Launch} {cs : CSt} {np : Nat} {ad : Nat → Nat} {T : MT} (h13 : 13 ≤ np) (a : Int) (ha : -2147483648 ≤ a ∧ a < 2147483648) : KD l cs yX1_isThere (Cond.code yX1_isThere cX1_isThere 2 (some .boolean) :: GW) 7 8 48 [.ref (ad 0), .int (zI a)] np ad T 0 (some (.int (zI (if fsp T a < 0 then 0 else 1)))) (np, ad, T) := by
  refine KC_of (cc := cX1_isThere) (nL := 2) (rt := (some .boolean)) (by decide) (by simp [grf_cat, cat_int, cat_ref]) (by simp) ?_
  intro p e s m args below meth c A C hE hin
  refine g_eq (lv2 := [some (.ref (ad 0)), some (.int (zI a))]) rfl rfl rfl ?_
  refine g_aload_0 (pc := 0) C dX1_isThere_0 ?_
  refine g_iload_1 (pc := 1) C dX1_isThere_1 ?_
  refine g_cY1Pv (pc := 2) C cs_X1_151 (k_X1_findSpan a h13 ha) ⟨Nat.le_of_ble_eq_true rfl, Nat.le_of_ble_eq_true rfl⟩ (by omega) (Nat.le_of_ble_eq_true rfl) ⟨Nat.le_of_ble_eq_true rfl, Nat.le_of_ble_eq_true rfl⟩ dX1_isThere_2 ?_
  refine g_ifnull (pc := 5) (tgt := 12) C dX1_isThere_5 (by decide) (fun h5 => ?_) (fun h5 => ?_)
  · refine g_iconst (pc := 12) C dX1_isThere_12 ?_
    refine g_zret (pc := 13) C (by omega) (Nat.le_of_ble_eq_true rfl) (Nat.le_of_ble_eq_true rfl) dX1_isThere_13 ?_
    exact ⟨rfl, by rw [if_pos h5], rfl⟩
  · refine g_iconst (pc := 8) C dX1_isThere_8 ?_
    refine g_goto (pc := 9) (tgt := 13) C dX1_isThere_9 (by decide) ?_
    refine g_zret (pc := 13) C (by omega) (Nat.le_of_ble_eq_true rfl) (Nat.le_of_ble_eq_true rfl) dX1_isThere_13 ?_
    exact ⟨rfl, by rw [if_neg (by omega)], rfl⟩
theorem k_X1_nearestByRow {l : Launch} {cs : CSt} {np : Nat} {ad : Nat → Nat} {T : MT} (hV : VC np T) (hA : VA T) (a : Int) (ha : -2147483648 ≤ a ∧ a < 2147483648) : KD l cs yX1_nearestByRow (Cond.code yX1_nearestByRow cX1_nearestByRow 2 (some .int) :: GW) 7 8 48 [.ref (ad 0), .int (zI a)] np ad T (exq (0 ≤ a ∧ a < 4096) 1) (some (.int (zI (lyR T 3 a.toNat)))) (np, ad, lyR T) := by
  have hV0 := hV.1
  refine KC_of (cc := cX1_nearestByRow) (nL := 2) (rt := (some .int)) (by decide) (by simp [grf_cat, cat_int, cat_ref]) (by simp) ?_
  intro p e s m args below meth c A C hE hin
  refine g_eq (lv2 := [some (.ref (ad 0)), some (.int (zI a))]) rfl rfl rfl ?_
  refine g_iload_1 (pc := 0) C dX1_nearestByRow_0 ?_
  refine g_cT1Dn (pc := 1) C hE cs_X1_141 (k_X1_checkAddress a ha) ⟨Nat.le_of_ble_eq_true rfl, Nat.le_of_ble_eq_true rfl⟩ (Nat.le_of_ble_eq_true rfl) ⟨Nat.le_of_ble_eq_true rfl, Nat.le_of_ble_eq_true rfl⟩ ⟨Nat.le_of_ble_eq_true rfl, Nat.le_of_ble_eq_true rfl⟩ (fun hx1 => ?_) dX1_nearestByRow_1 (fun hn1 => ?_)
  · exact dEx_of (c := 1) (exq_f (exq_ne hx1)) (by decide) (by rw [exq_f (exq_ne hx1)])
  · have h2 := exq_eq hn1 (by decide)
    refine g_aload_0 (pc := 4) C dX1_nearestByRow_4 ?_
    refine g_cY0Pn (pc := 5) C cs_X1_172 (k_X1_layRow hV hA) ⟨Nat.le_of_ble_eq_true rfl, Nat.le_of_ble_eq_true rfl⟩ (by omega) (Nat.le_of_ble_eq_true rfl) ⟨Nat.le_of_ble_eq_true rfl, Nat.le_of_ble_eq_true rfl⟩ dX1_nearestByRow_5 ?_
    refine g_aload_0 (pc := 8) C dX1_nearestByRow_8 ?_
    refine g_get_X1_36 (pc := 9) C (by omega) dX1_nearestByRow_9 ?_
    refine g_iload_1 (pc := 12) C dX1_nearestByRow_12 ?_
    first | refine g_aldn_3 (pc := 13) C (by omega) (by omega) dX1_nearestByRow_13 ?_ | refine g_ald_3 (pc := 13) C (by omega) (by omega) dX1_nearestByRow_13 ?_
    refine g_iret (pc := 14) C (Nat.le_of_ble_eq_true rfl) (Nat.le_of_ble_eq_true rfl) dX1_nearestByRow_14 ?_
    exact ⟨hn1, rfl, rfl⟩
theorem k_X1_setOwner {l : Launch} {cs : CSt} {np : Nat} {ad : Nat → Nat} {T : MT} (hV : VC np T) (a o : Int) (ha : -2147483648 ≤ a ∧ a < 2147483648) (ho : -2147483648 ≤ o ∧ o < 2147483648) : KD l cs yX1_setOwner (Cond.code yX1_setOwner cX1_setOwner 5 (some .int) :: GW) 7 8 48 [.ref (ad 0), .int (zI a), .int (zI o)] np ad T (if fsp T a < 0 then 1 else if 0 ≤ o ∧ o < 8 then 0 else 2) (some (.int (zI (T 17 a.toNat)))) (np, ad, mst T 17 a.toNat o) := by
  have hV0 := hV.1
  refine KC_of (cc := cX1_setOwner) (nL := 5) (rt := (some .int)) (by decide) (by simp [grf_cat, cat_int, cat_ref]) (by simp) ?_
  intro p e s m args below meth c A C hE hin
  refine g_eq (lv2 := [some (.ref (ad 0)), some (.int (zI a)), some (.int (zI o)), none, none]) rfl rfl rfl ?_
  refine g_aload_0 (pc := 0) C dX1_setOwner_0 ?_
  refine g_iload_1 (pc := 1) C dX1_setOwner_1 ?_
  refine g_cY1Dv (pc := 2) C hE cs_X1_43 (k_X1_spanOf a (by omega) ha) ⟨Nat.le_of_ble_eq_true rfl, Nat.le_of_ble_eq_true rfl⟩ (by omega) (Nat.le_of_ble_eq_true rfl) ⟨Nat.le_of_ble_eq_true rfl, Nat.le_of_ble_eq_true rfl⟩ ⟨Nat.le_of_ble_eq_true rfl, Nat.le_of_ble_eq_true rfl⟩ (fun hx2 => ?_) dX1_setOwner_2 (fun hn2 => ?_)
  · have h2 := exq_ne hx2
    exact dEx_of (c := 1) (by rw [if_pos (by omega)]) (by decide) (by rw [exq_f h2])
  · have h2 := exq_eq hn2 (by decide)
    rcases fsp_or T a with ⟨q1, q2⟩ | ⟨q1, q2⟩
    · omega
    have hV1 := hV.s q2
    rw [q1]
    refine g_sstore_3 (pc := 5) C dX1_setOwner_5 ?_
    refine g_iload_2 (pc := 6) C dX1_setOwner_6 ?_
    refine g_cT1Dn (pc := 7) C hE cs_X1_51 (k_X1_checkOwner o ho) ⟨Nat.le_of_ble_eq_true rfl, Nat.le_of_ble_eq_true rfl⟩ (Nat.le_of_ble_eq_true rfl) ⟨Nat.le_of_ble_eq_true rfl, Nat.le_of_ble_eq_true rfl⟩ ⟨Nat.le_of_ble_eq_true rfl, Nat.le_of_ble_eq_true rfl⟩ (fun hx7 => ?_) dX1_setOwner_7 (fun hn7 => ?_)
    · exact dEx_of (c := 2) (by rw [if_neg (by omega), if_neg (exq_ne hx7)]) (by decide) (by rw [exq_f (exq_ne hx7)])
    · have h3 := exq_eq hn7 (by decide)
      refine g_sload_3 (pc := 10) C dX1_setOwner_10 ?_
      first | refine g_getn_X1_125 (pc := 11) C (by omega) dX1_setOwner_11 ?_ | refine g_get_X1_125 (pc := 11) C (by omega) dX1_setOwner_11 ?_
      refine g_istore_4 (pc := 14) C dX1_setOwner_14 ?_
      refine g_sload_3 (pc := 16) C dX1_setOwner_16 ?_
      refine g_iload_2 (pc := 17) C dX1_setOwner_17 ?_
      refine g_put_X1_125 (pc := 18) C (by omega) dX1_setOwner_18 ?_
      refine g_iload_4 (pc := 21) C dX1_setOwner_21 ?_
      refine g_iret (pc := 23) C (Nat.le_of_ble_eq_true rfl) (Nat.le_of_ble_eq_true rfl) dX1_setOwner_23 ?_
      exact ⟨by rw [if_neg (by omega), if_pos h3], rfl, rfl⟩
theorem k_X1_takeBack {l : Launch} {cs : CSt} {np : Nat} {ad : Nat → Nat} {T : MT} (h13 : 13 ≤ np) (hA : VA T) (a : Int) (ha : -2147483648 ≤ a ∧ a < 2147483648) : KD l cs yX1_takeBack (Cond.code yX1_takeBack cX1_takeBack 3 (some .int) :: GW) 7 8 48 [.ref (ad 0), .int (zI a)] np ad T (if ¬ (0 ≤ a ∧ a < 4096) then 1 else if T 2 a.toNat = 0 then 3 else 0) (some (.int (zI (if T 2 a.toNat = -1 then 0 else T 2 a.toNat - T 0 5)))) (np, ad, mst (mst T 2 a.toNat 0) 0 4 (T 0 4 - 1)) := by
  refine KC_of (cc := cX1_takeBack) (nL := 3) (rt := (some .int)) (by decide) (by simp [grf_cat, cat_int, cat_ref]) (by simp) ?_
  intro p e s m args below meth c A C hE hin
  refine g_eq (lv2 := [some (.ref (ad 0)), some (.int (zI a)), none]) rfl rfl rfl ?_
  refine g_iload_1 (pc := 0) C dX1_takeBack_0 ?_
  refine g_cT1Dn (pc := 1) C hE cs_X1_141 (k_X1_checkAddress a ha) ⟨Nat.le_of_ble_eq_true rfl, Nat.le_of_ble_eq_true rfl⟩ (Nat.le_of_ble_eq_true rfl) ⟨Nat.le_of_ble_eq_true rfl, Nat.le_of_ble_eq_true rfl⟩ ⟨Nat.le_of_ble_eq_true rfl, Nat.le_of_ble_eq_true rfl⟩ (fun hx1 => ?_) dX1_takeBack_1 (fun hn1 => ?_)
  · exact dEx_of (c := 1) (by rw [if_pos (exq_ne hx1)]) (by decide) (by rw [exq_f (exq_ne hx1)])
  · have h2 := exq_eq hn1 (by decide)
    have h3 := hA.2 a.toNat (by omega)
    refine g_aload_0 (pc := 4) C dX1_takeBack_4 ?_
    refine g_get_X1_26 (pc := 5) C (by omega) dX1_takeBack_5 ?_
    refine g_iload_1 (pc := 8) C dX1_takeBack_8 ?_
    first | refine g_aldn_2 (pc := 9) C (by omega) (by omega) dX1_takeBack_9 ?_ | refine g_ald_2 (pc := 9) C (by omega) (by omega) dX1_takeBack_9 ?_
    refine g_istore_2 (pc := 10) C dX1_takeBack_10 ?_
    refine g_iload_2 (pc := 11) C dX1_takeBack_11 ?_
    refine g_if_ne (pc := 12) (tgt := 25) C dX1_takeBack_12 (by decide) (by omega) (fun h12 => ?_) (fun h12 => ?_)
    · refine g_aload_0 (pc := 25) C dX1_takeBack_25 ?_
      refine g_get_X1_26 (pc := 26) C (by omega) dX1_takeBack_26 ?_
      refine g_iload_1 (pc := 29) C dX1_takeBack_29 ?_
      refine g_iconst (pc := 30) C dX1_takeBack_30 ?_
      first | refine g_astn_2 (pc := 31) C (by omega) (by omega) dX1_takeBack_31 ?_ | refine g_ast_2 (pc := 31) C (by omega) (by omega) dX1_takeBack_31 ?_
      refine g_aload_0 (pc := 32) C dX1_takeBack_32 ?_
      refine g_dup (pc := 33) C dX1_takeBack_33 rfl ?_
      refine g_get_X1_30 (pc := 34) C (by omega) dX1_takeBack_34 ?_
      rw [mst_r (by decide)]
      refine g_iconst (pc := 37) C dX1_takeBack_37 ?_
      refine g_isub (pc := 38) C dX1_takeBack_38 ?_
      refine g_put_X1_30 (pc := 39) C (by omega) dX1_takeBack_39 ?_
      refine g_iload_2 (pc := 42) C dX1_takeBack_42 ?_
      refine g_iconst (pc := 43) C dX1_takeBack_43 ?_
      refine g_icmp_ne (pc := 44) (tgt := 51) C dX1_takeBack_44 (by decide) (by omega) (by omega) (fun h44 => ?_) (fun h44 => ?_)
      · refine g_iload_2 (pc := 51) C dX1_takeBack_51 ?_
        refine g_aload_0 (pc := 52) C dX1_takeBack_52 ?_
        refine g_get_X1_33 (pc := 53) C (by omega) dX1_takeBack_53 ?_
        rw [mst_ne (by decide), mst_r (by decide)]
        refine g_isub (pc := 56) C dX1_takeBack_56 ?_
        refine g_iret (pc := 57) C (Nat.le_of_ble_eq_true rfl) (Nat.le_of_ble_eq_true rfl) dX1_takeBack_57 ?_
        exact ⟨by rw [if_neg (by omega), if_neg h12], by rw [if_neg h44], rfl⟩
      · refine g_iconst (pc := 47) C dX1_takeBack_47 ?_
        refine g_goto (pc := 48) (tgt := 57) C dX1_takeBack_48 (by decide) ?_
        refine g_iret (pc := 57) C (Nat.le_of_ble_eq_true rfl) (Nat.le_of_ble_eq_true rfl) dX1_takeBack_57 ?_
        exact ⟨by rw [if_neg (by omega), if_neg h12], by rw [if_pos h44], rfl⟩
    · refine g_throw_3 (pc := 15) C hE (text := "the address is not lent") (by decide) dX1_takeBack_15 dX1_takeBack_18 dX1_takeBack_19 dX1_takeBack_21 dX1_takeBack_24 ⟨Nat.le_of_ble_eq_true rfl, Nat.le_of_ble_eq_true rfl, Nat.le_of_ble_eq_true rfl, Nat.le_of_ble_eq_true rfl⟩ ⟨Nat.le_of_ble_eq_true rfl, Nat.le_of_ble_eq_true rfl⟩ ?_
      exact dEx_of (c := 3) (by rw [if_neg (by omega), if_pos h12]) (by decide) rfl
end
section
theorem k_X1_spans {l : Launch} {cs : CSt} {np : Nat} {ad : Nat → Nat} {T : MT} (hV : VC np T) : KD l cs yX1_spans (Cond.code yX1_spans cX1_spans 6 (some .int) :: GW) 7 8 48 [.ref (ad 0)] np ad T 0 (some (.int (zI (spN (T 1) 60)))) (np, ad, T) := by
  have hV0 := hV.1
  refine KC_of (cc := cX1_spans) (nL := 6) (rt := (some .int)) (by decide) (by simp [grf_cat, cat_int, cat_ref]) (by simp) ?_
  intro p e s m args below meth c A C hE hin
  refine g_eq (lv2 := [some (.ref (ad 0)), none, none, none, none, none]) rfl rfl rfl ?_
  refine g_iconst (pc := 0) C dX1_spans_0 ?_
  refine g_istore_1 (pc := 1) C dX1_spans_1 ?_
  refine g_aload_0 (pc := 2) C dX1_spans_2 ?_
  refine g_get_X1_18 (pc := 3) C (by omega) dX1_spans_3 ?_
  refine g_astore_2 (pc := 6) C dX1_spans_6 ?_
  refine g_aload_2 (pc := 7) C dX1_spans_7 ?_
  refine g_alen1 (pc := 8) C (by omega) dX1_spans_8 ?_
  refine g_istore_3 (pc := 9) C dX1_spans_9 ?_
  refine g_iconst (pc := 10) C dX1_spans_10 ?_
  refine g_istore_4 (pc := 11) C dX1_spans_11 ?_
  refine g_loop (σ := Option Value) (Tf := fun _ _ => T) (lvf := fun j z => [some (.ref (ad 0)), some (.int (zI (spN (T 1) j))), some (.ref (ad 1)), some (.int (zI 60)), some (.int (zI (j : Int))), z]) (inv := fun _ _ => True) (N := 60) 0 none trivial (by omega) (fun j z _ hN ih => ?_)
  refine g_iload_4 (pc := 13) C dX1_spans_13 ?_
  refine g_iload_3 (pc := 15) C dX1_spans_15 ?_
  refine g_icmp_ge (pc := 16) (tgt := 39) C dX1_spans_16 (by decide) (by omega) (by omega) (fun h16 => ?_) (fun h16 => ?_)
  · refine g_iload_1 (pc := 39) C dX1_spans_39 ?_
    refine g_iret (pc := 40) C (Nat.le_of_ble_eq_true rfl) (Nat.le_of_ble_eq_true rfl) dX1_spans_40 ?_
    obtain rfl : j = 60 := by omega
    exact ⟨rfl, rfl, rfl⟩
  · have e9 : spN (T 1) (j + 1) = spN (T 1) j + (if T 1 j ≠ 0 then 1 else 0) := rfl
    refine g_aload_2 (pc := 19) C dX1_spans_19 ?_
    refine g_iload_4 (pc := 20) C dX1_spans_20 ?_
    first | refine g_aaldn (pc := 22) C (by omega) (by omega) dX1_spans_22 ?_ | refine g_aald (pc := 22) C (by omega) (by omega) dX1_spans_22 ?_
    refine g_sstore_5 (pc := 23) C dX1_spans_23 ?_
    rcases mkd_or T j with ⟨m1, m2⟩ | ⟨m1, m2⟩
    · rw [m2]
      refine g_sload_5 (pc := 25) C dX1_spans_25 ?_
      refine g_ifnull (pc := 27) (tgt := 33) C dX1_spans_27 (by decide) (fun h27 => ?_) (fun h27 => ?_)
      · refine g_iinc_4 (pc := 33) C dX1_spans_33 ?_
        refine g_goto (pc := 36) (tgt := 13) C dX1_spans_36 (by decide) ?_
        rw [if_neg (by omega)] at e9
        exact g_eq rfl (by rw [e9, Int.add_zero]; rfl) rfl (ih _ (by omega) trivial)
      · omega
    · rw [m2]
      refine g_sload_5 (pc := 25) C dX1_spans_25 ?_
      refine g_ifnull (pc := 27) (tgt := 33) C dX1_spans_27 (by decide) (fun h27 => ?_) (fun h27 => ?_)
      · omega
      · refine g_iinc_1 (pc := 30) C dX1_spans_30 ?_
        refine g_iinc_4 (pc := 33) C dX1_spans_33 ?_
        refine g_goto (pc := 36) (tgt := 13) C dX1_spans_36 (by decide) ?_
        rw [if_pos m1] at e9
        exact g_eq rfl (by rw [e9]; rfl) rfl (ih _ (by omega) trivial)
theorem k_X1_inTheWay {l : Launch} {cs : CSt} {np : Nat} {ad : Nat → Nat} {T : MT} (hV : VC np T) (a S : Int) (ha : -2147483648 ≤ a ∧ a < 2147483648) (hS : -2147483648 ≤ S ∧ S < 2147483648) : KD l cs yX1_inTheWay (Cond.code yX1_inTheWay cX1_inTheWay 8 (some .int) :: GW) 7 8 48 [.ref (ad 0), .int (zI a), .int (zI S)] np ad T (if fsp T a < 0 then 1 else if szp S then 0 else 2) (some (.int (zI (if S < T 16 a.toNat then itwC T a S else -1)))) (np, ad, T) := by
  have hV0 := hV.1
  refine KC_of (cc := cX1_inTheWay) (nL := 8) (rt := (some .int)) (by decide) (by simp [grf_cat, cat_int, cat_ref]) (by simp) ?_
  intro p e s m args below meth c A C hE hin
  refine g_eq (lv2 := [some (.ref (ad 0)), some (.int (zI a)), some (.int (zI S)), none, none, none, none, none]) rfl rfl rfl ?_
  refine g_aload_0 (pc := 0) C dX1_inTheWay_0 ?_
  refine g_iload_1 (pc := 1) C dX1_inTheWay_1 ?_
  refine g_cY1Dv (pc := 2) C hE cs_X1_43 (k_X1_spanOf a (by omega) ha) ⟨Nat.le_of_ble_eq_true rfl, Nat.le_of_ble_eq_true rfl⟩ (by omega) (Nat.le_of_ble_eq_true rfl) ⟨Nat.le_of_ble_eq_true rfl, Nat.le_of_ble_eq_true rfl⟩ ⟨Nat.le_of_ble_eq_true rfl, Nat.le_of_ble_eq_true rfl⟩ (fun hx2 => ?_) dX1_inTheWay_2 (fun hn2 => ?_)
  · have h2 := exq_ne hx2
    exact dEx_of (c := 1) (by rw [if_pos (by omega)]) (by decide) (by rw [exq_f h2])
  · have h2 := exq_eq hn2 (by decide)
    rcases fsp_or T a with ⟨q1, q2⟩ | ⟨q1, q2⟩
    · omega
    have hV1 := hV.s q2
    rw [q1]
    refine g_sstore_3 (pc := 5) C dX1_inTheWay_5 ?_
    refine g_iload_2 (pc := 6) C dX1_inTheWay_6 ?_
    refine g_cT1Dn (pc := 7) C hE cs_X1_47 (k_X1_checkSize S hS) ⟨Nat.le_of_ble_eq_true rfl, Nat.le_of_ble_eq_true rfl⟩ (Nat.le_of_ble_eq_true rfl) ⟨Nat.le_of_ble_eq_true rfl, Nat.le_of_ble_eq_true rfl⟩ ⟨Nat.le_of_ble_eq_true rfl, Nat.le_of_ble_eq_true rfl⟩ (fun hx7 => ?_) dX1_inTheWay_7 (fun hn7 => ?_)
    · exact dEx_of (c := 2) (by rw [if_neg (by omega), if_neg (exq_ne hx7)]) (by decide) (by rw [exq_f (exq_ne hx7)])
    · have h3 := exq_eq hn7 (by decide)
      have h4 := szp_bd h3
      refine g_iload_2 (pc := 10) C dX1_inTheWay_10 ?_
      refine g_sload_3 (pc := 11) C dX1_inTheWay_11 ?_
      first | refine g_getn_X1_114 (pc := 12) C (by omega) dX1_inTheWay_12 ?_ | refine g_get_X1_114 (pc := 12) C (by omega) dX1_inTheWay_12 ?_
      refine g_icmp_lt (pc := 15) (tgt := 20) C dX1_inTheWay_15 (by decide) (by omega) (by omega) (fun h15 => ?_) (fun h15 => ?_)
      · refine g_bipush (pc := 20) C dX1_inTheWay_20 (by decide) ?_
        refine g_istore_4 (pc := 22) C dX1_inTheWay_22 ?_
        refine g_sload_3 (pc := 24) C dX1_inTheWay_24 ?_
        first | refine g_getn_X1_101 (pc := 25) C (by omega) dX1_inTheWay_25 ?_ | refine g_get_X1_101 (pc := 25) C (by omega) dX1_inTheWay_25 ?_
        refine g_istore_5 (pc := 28) C dX1_inTheWay_28 ?_
        refine g_iconst (pc := 30) C dX1_inTheWay_30 ?_
        refine g_istore_6 (pc := 31) C dX1_inTheWay_31 ?_
        refine g_loop (σ := (Int × Int) × Option Value) (Tf := fun _ _ => T) (lvf := fun j z => [some (.ref (ad 0)), some (.int (zI a)), some (.int (zI S)), some (grf ad a), some (.int (zI z.1.1)), some (.int (zI z.1.2)), some (.int (zI (j : Int))), z.2]) (inv := fun j z => itI T a S j = z.1 ∧ 0 ≤ z.1.1 ∧ z.1.1 ≤ 60 ∧ 0 ≤ z.1.2 ∧ z.1.2 ≤ 8192) (N := 4096) 0 ((60, T 15 a.toNat), none) ⟨rfl, by simp, by simp, hV1.2.2.2.2.2.2.2.1, by show T 15 a.toNat ≤ 8192; omega⟩ (by omega) (fun j z hi hN ih => ?_)
        obtain ⟨⟨le, at_⟩, z8⟩ := z
        dsimp only at hi ih ⊢
        obtain ⟨i1, i2, i3, i4, i5⟩ := hi
        have e9 : itI T a S (j + 1) = itS T a S (itI T a S j) := rfl
        rw [i1] at e9
        unfold itS at e9
        dsimp only at e9
        have hcn := cntC_bd T a at_ S 60
        refine g_iload_6 (pc := 33) C dX1_inTheWay_33 ?_
        refine g_sipush (pc := 35) C dX1_inTheWay_35 (by decide) ?_
        refine g_icmp_ge (pc := 38) (tgt := 113) C dX1_inTheWay_38 (by decide) (by omega) (by omega) (fun h38 => ?_) (fun h38 => ?_)
        · refine g_iload_4 (pc := 113) C dX1_inTheWay_113 ?_
          refine g_iret (pc := 115) C (Nat.le_of_ble_eq_true rfl) (Nat.le_of_ble_eq_true rfl) dX1_inTheWay_115 ?_
          obtain rfl : j = 4096 := by omega
          exact ⟨by rw [if_neg (by omega), if_pos h3], by rw [if_pos h15, itwC_eq, i1], rfl⟩
        · refine g_iload_5 (pc := 41) C dX1_inTheWay_41 ?_
          refine g_sload_3 (pc := 43) C dX1_inTheWay_43 ?_
          refine g_cS0Pv (pc := 44) C cs_X1_104 (k_X0_end a (by omega)) ⟨Nat.le_of_ble_eq_true rfl, Nat.le_of_ble_eq_true rfl⟩ (by omega) (Nat.le_of_ble_eq_true rfl) ⟨Nat.le_of_ble_eq_true rfl, Nat.le_of_ble_eq_true rfl⟩ dX1_inTheWay_44 ?_
          refine g_icmp_ge (pc := 47) (tgt := 113) C dX1_inTheWay_47 (by decide) (by omega) (by omega) (fun h47 => ?_) (fun h47 => ?_)
          · refine g_iload_4 (pc := 113) C dX1_inTheWay_113 ?_
            refine g_iret (pc := 115) C (Nat.le_of_ble_eq_true rfl) (Nat.le_of_ble_eq_true rfl) dX1_inTheWay_115 ?_
            have e10 := itI_fix T a S j (4096 - j) (by rw [i1]; exact Or.inl h47)
            rw [show j + (4096 - j) = 4096 by omega, i1] at e10
            exact ⟨by rw [if_neg (by omega), if_pos h3], by rw [if_pos h15, itwC_eq, e10], rfl⟩
          · refine g_iload_4 (pc := 50) C dX1_inTheWay_50 ?_
            refine g_if_le (pc := 52) (tgt := 113) C dX1_inTheWay_52 (by decide) (by omega) (fun h52 => ?_) (fun h52 => ?_)
            · refine g_iload_4 (pc := 113) C dX1_inTheWay_113 ?_
              refine g_iret (pc := 115) C (Nat.le_of_ble_eq_true rfl) (Nat.le_of_ble_eq_true rfl) dX1_inTheWay_115 ?_
              have e10 := itI_fix T a S j (4096 - j) (by rw [i1]; exact Or.inr h52)
              rw [show j + (4096 - j) = 4096 by omega, i1] at e10
              exact ⟨by rw [if_neg (by omega), if_pos h3], by rw [if_pos h15, itwC_eq, e10], rfl⟩
            · rw [if_neg (by omega)] at e9
              have hcb := chC_bd T a at_ 60
              refine g_iload_4 (pc := 55) C dX1_inTheWay_55 ?_
              refine g_aload_0 (pc := 57) C dX1_inTheWay_57 ?_
              refine g_sload_3 (pc := 58) C dX1_inTheWay_58 ?_
              refine g_iload_5 (pc := 59) C dX1_inTheWay_59 ?_
              refine g_iload_2 (pc := 61) C dX1_inTheWay_61 ?_
              refine g_cY3Pv (pc := 62) C cs_X1_88 (k_X1_countChildren hV a at_ S (by omega) (by omega)) ⟨Nat.le_of_ble_eq_true rfl, Nat.le_of_ble_eq_true rfl⟩ (by omega) (Nat.le_of_ble_eq_true rfl) ⟨Nat.le_of_ble_eq_true rfl, Nat.le_of_ble_eq_true rfl⟩ dX1_inTheWay_62 ?_
              refine g_min (pc := 65) C ml_X1_163 ini_java_lang_Math ⟨Nat.le_of_ble_eq_true rfl, Nat.le_of_ble_eq_true rfl, Nat.le_of_ble_eq_true rfl, Nat.le_of_ble_eq_true rfl⟩ (by omega) (by omega) dX1_inTheWay_65 ?_
              refine g_istore_4 (pc := 68) C dX1_inTheWay_68 ?_
              refine g_aload_0 (pc := 70) C dX1_inTheWay_70 ?_
              refine g_sload_3 (pc := 71) C dX1_inTheWay_71 ?_
              refine g_iload_5 (pc := 72) C dX1_inTheWay_72 ?_
              refine g_cY2Pv (pc := 74) C cs_X1_168 (k_X1_childAt hV a at_ (by omega) (by omega)) ⟨Nat.le_of_ble_eq_true rfl, Nat.le_of_ble_eq_true rfl⟩ (by omega) (Nat.le_of_ble_eq_true rfl) ⟨Nat.le_of_ble_eq_true rfl, Nat.le_of_ble_eq_true rfl⟩ dX1_inTheWay_74 ?_
              refine g_sstore_7 (pc := 77) C dX1_inTheWay_77 ?_
              refine g_sload_7 (pc := 79) C dX1_inTheWay_79 ?_
              refine g_ifnull (pc := 81) (tgt := 101) C dX1_inTheWay_81 (by decide) (fun h81 => ?_) (fun h81 => ?_)
              · refine g_iload_5 (pc := 101) C dX1_inTheWay_101 ?_
                refine g_iload_2 (pc := 103) C dX1_inTheWay_103 ?_
                refine g_iadd (pc := 104) C dX1_inTheWay_104 ?_
                refine g_istore_5 (pc := 105) C dX1_inTheWay_105 ?_
                refine g_iinc_6 (pc := 107) C dX1_inTheWay_107 ?_
                refine g_goto (pc := 110) (tgt := 33) C dX1_inTheWay_110 (by decide) ?_
                rw [if_neg (by omega)] at e9
                exact ih ((min le (cntC T a at_ S 60), at_ + S), _) (by omega) ⟨e9, (by omega : 0 ≤ min le (cntC T a at_ S 60)), (by omega : min le (cntC T a at_ S 60) ≤ 60), (by omega : 0 ≤ at_ + S), (by omega : at_ + S ≤ 8192)⟩
              · have hcc : isS T (chC T a at_ 60) := ⟨h81, by have := hcb.2.1; omega, (hcb.2.2 h81).1⟩
                have hcs := hV.s hcc
                refine g_sload_7 (pc := 84) C dX1_inTheWay_84 ?_
                first | refine g_getn_X1_114 (pc := 86) C (by omega) dX1_inTheWay_86 ?_ | refine g_get_X1_114 (pc := 86) C (by omega) dX1_inTheWay_86 ?_
                refine g_iload_2 (pc := 89) C dX1_inTheWay_89 ?_
                refine g_icmp_le (pc := 90) (tgt := 101) C dX1_inTheWay_90 (by decide) (by omega) (by omega) (fun h90 => ?_) (fun h90 => ?_)
                · refine g_iload_5 (pc := 101) C dX1_inTheWay_101 ?_
                  refine g_iload_2 (pc := 103) C dX1_inTheWay_103 ?_
                  refine g_iadd (pc := 104) C dX1_inTheWay_104 ?_
                  refine g_istore_5 (pc := 105) C dX1_inTheWay_105 ?_
                  refine g_iinc_6 (pc := 107) C dX1_inTheWay_107 ?_
                  refine g_goto (pc := 110) (tgt := 33) C dX1_inTheWay_110 (by decide) ?_
                  rw [if_neg (by omega)] at e9
                  exact ih ((min le (cntC T a at_ S 60), at_ + S), _) (by omega) ⟨e9, (by omega : 0 ≤ min le (cntC T a at_ S 60)), (by omega : min le (cntC T a at_ S 60) ≤ 60), (by omega : 0 ≤ at_ + S), (by omega : at_ + S ≤ 8192)⟩
                · refine g_sload_7 (pc := 93) C dX1_inTheWay_93 ?_
                  refine g_cS0Pv (pc := 95) C cs_X1_104 (k_X0_end _ (by omega)) ⟨Nat.le_of_ble_eq_true rfl, Nat.le_of_ble_eq_true rfl⟩ (by omega) (Nat.le_of_ble_eq_true rfl) ⟨Nat.le_of_ble_eq_true rfl, Nat.le_of_ble_eq_true rfl⟩ dX1_inTheWay_95 ?_
                  refine g_goto (pc := 98) (tgt := 105) C dX1_inTheWay_98 (by decide) ?_
                  refine g_istore_5 (pc := 105) C dX1_inTheWay_105 ?_
                  refine g_iinc_6 (pc := 107) C dX1_inTheWay_107 ?_
                  refine g_goto (pc := 110) (tgt := 33) C dX1_inTheWay_110 (by decide) ?_
                  rw [if_pos (by omega)] at e9
                  exact ih ((min le (cntC T a at_ S 60), T 15 (chC T a at_ 60).toNat + T 16 (chC T a at_ 60).toNat), _) (by omega) ⟨e9, (by omega : 0 ≤ min le (cntC T a at_ S 60)), (by omega : min le (cntC T a at_ S 60) ≤ 60), (by omega : 0 ≤ T 15 (chC T a at_ 60).toNat + T 16 (chC T a at_ 60).toNat), (by omega : T 15 (chC T a at_ 60).toNat + T 16 (chC T a at_ 60).toNat ≤ 8192)⟩
      · refine g_iconst (pc := 18) C dX1_inTheWay_18 ?_
        refine g_iret (pc := 19) C (Nat.le_of_ble_eq_true rfl) (Nat.le_of_ble_eq_true rfl) dX1_inTheWay_19 ?_
        exact ⟨by rw [if_neg (by omega), if_pos h3], by rw [if_neg (by omega)], rfl⟩
theorem k_X1_nearest {l : Launch} {cs : CSt} {np : Nat} {ad : Nat → Nat} {T : MT} (hV : VC np T) (a : Int) (ha : -2147483648 ≤ a ∧ a < 2147483648) : KD l cs yX1_nearest (Cond.code yX1_nearest cX1_nearest 5 (some .int) :: GW) 7 8 48 [.ref (ad 0), .int (zI a)] np ad T (exq (0 ≤ a ∧ a < 4096) 1) (some (.int (zI (nsI T a 60)))) (np, ad, T) := by
  have hV0 := hV.1
  refine KC_of (cc := cX1_nearest) (nL := 5) (rt := (some .int)) (by decide) (by simp [grf_cat, cat_int, cat_ref]) (by simp) ?_
  intro p e s m args below meth c A C hE hin
  refine g_eq (lv2 := [some (.ref (ad 0)), some (.int (zI a)), none, none, none]) rfl rfl rfl ?_
  refine g_iload_1 (pc := 0) C dX1_nearest_0 ?_
  refine g_cT1Dn (pc := 1) C hE cs_X1_141 (k_X1_checkAddress a ha) ⟨Nat.le_of_ble_eq_true rfl, Nat.le_of_ble_eq_true rfl⟩ (Nat.le_of_ble_eq_true rfl) ⟨Nat.le_of_ble_eq_true rfl, Nat.le_of_ble_eq_true rfl⟩ ⟨Nat.le_of_ble_eq_true rfl, Nat.le_of_ble_eq_true rfl⟩ (fun hx1 => ?_) dX1_nearest_1 (fun hn1 => ?_)
  · exact dEx_of (c := 1) (exq_f (exq_ne hx1)) (by decide) (by rw [exq_f (exq_ne hx1)])
  · have h2 := exq_eq hn1 (by decide)
    refine g_aload_0 (pc := 4) C dX1_nearest_4 ?_
    refine g_get_X1_14 (pc := 5) C (by omega) dX1_nearest_5 ?_
    refine g_sstore_2 (pc := 8) C dX1_nearest_8 ?_
    refine g_iconst (pc := 9) C dX1_nearest_9 ?_
    refine g_istore_3 (pc := 10) C dX1_nearest_10 ?_
    refine g_loop (σ := Option Value) (Tf := fun _ _ => T) (lvf := fun j z => [some (.ref (ad 0)), some (.int (zI a)), some (grf ad (nsI T a j)), some (.int (zI (j : Int))), z]) (inv := fun _ _ => True) (N := 60) 0 none trivial (by omega) (fun j z _ hN ih => ?_)
    have hs := nsI_isS (T := T) (by omega) a j
    have hs1 := hV.s hs
    have e9 : nsI T a (j + 1) = if 0 ≤ chC T (nsI T a j) a 60 then chC T (nsI T a j) a 60 else nsI T a j := rfl
    refine g_iload_3 (pc := 11) C dX1_nearest_11 ?_
    refine g_bipush (pc := 12) C dX1_nearest_12 (by decide) ?_
    refine g_icmp_ge (pc := 14) (tgt := 44) C dX1_nearest_14 (by decide) (by omega) (by omega) (fun h14 => ?_) (fun h14 => ?_)
    · refine g_sload_2 (pc := 44) C dX1_nearest_44 ?_
      first | refine g_getn_X1_154 (pc := 45) C (by omega) dX1_nearest_45 ?_ | refine g_get_X1_154 (pc := 45) C (by omega) dX1_nearest_45 ?_
      refine g_iret (pc := 48) C (Nat.le_of_ble_eq_true rfl) (Nat.le_of_ble_eq_true rfl) dX1_nearest_48 ?_
      obtain rfl : j = 60 := by omega
      exact ⟨hn1, by rw [hs1.2.2.2.2.1], rfl⟩
    · refine g_aload_0 (pc := 17) C dX1_nearest_17 ?_
      refine g_sload_2 (pc := 18) C dX1_nearest_18 ?_
      refine g_iload_1 (pc := 19) C dX1_nearest_19 ?_
      refine g_cY2Pv (pc := 20) C cs_X1_168 (k_X1_childAt hV _ a (by omega) ha) ⟨Nat.le_of_ble_eq_true rfl, Nat.le_of_ble_eq_true rfl⟩ (by omega) (Nat.le_of_ble_eq_true rfl) ⟨Nat.le_of_ble_eq_true rfl, Nat.le_of_ble_eq_true rfl⟩ dX1_nearest_20 ?_
      refine g_sstore_4 (pc := 23) C dX1_nearest_23 ?_
      refine g_sload_4 (pc := 25) C dX1_nearest_25 ?_
      refine g_ifnonnull (pc := 27) (tgt := 35) C dX1_nearest_27 (by decide) (fun h27 => ?_) (fun h27 => ?_)
      · refine g_sload_4 (pc := 35) C dX1_nearest_35 ?_
        refine g_sstore_2 (pc := 37) C dX1_nearest_37 ?_
        refine g_iinc_3 (pc := 38) C dX1_nearest_38 ?_
        refine g_goto (pc := 41) (tgt := 11) C dX1_nearest_41 (by decide) ?_
        rw [if_pos h27] at e9
        exact g_eq rfl (by rw [e9]; rfl) rfl (ih _ (by omega) trivial)
      · refine g_sload_2 (pc := 30) C dX1_nearest_30 ?_
        first | refine g_getn_X1_154 (pc := 31) C (by omega) dX1_nearest_31 ?_ | refine g_get_X1_154 (pc := 31) C (by omega) dX1_nearest_31 ?_
        refine g_iret (pc := 34) C (Nat.le_of_ble_eq_true rfl) (Nat.le_of_ble_eq_true rfl) dX1_nearest_34 ?_
        have e10 := nsI_fix T a j (60 - j) (by omega)
        rw [show j + (60 - j) = 60 by omega] at e10
        exact ⟨hn1, by rw [hs1.2.2.2.2.1, e10], rfl⟩
theorem k_X1_owned {l : Launch} {cs : CSt} {np : Nat} {ad : Nat → Nat} {T : MT} (hV : VC np T) (o : Int) (ho : -2147483648 ≤ o ∧ o < 2147483648) : KD l cs yX1_owned (Cond.code yX1_owned cX1_owned 7 (some .int) :: GW) 7 8 48 [.ref (ad 0), .int (zI o)] np ad T (exq (0 ≤ o ∧ o < 8) 2) (some (.int (zI (ownS T o 60)))) (np, ad, T) := by
  have hV0 := hV.1
  refine KC_of (cc := cX1_owned) (nL := 7) (rt := (some .int)) (by decide) (by simp [grf_cat, cat_int, cat_ref]) (by simp) ?_
  intro p e s m args below meth c A C hE hin
  refine g_eq (lv2 := [some (.ref (ad 0)), some (.int (zI o)), none, none, none, none, none]) rfl rfl rfl ?_
  refine g_iload_1 (pc := 0) C dX1_owned_0 ?_
  refine g_cT1Dn (pc := 1) C hE cs_X1_51 (k_X1_checkOwner o ho) ⟨Nat.le_of_ble_eq_true rfl, Nat.le_of_ble_eq_true rfl⟩ (Nat.le_of_ble_eq_true rfl) ⟨Nat.le_of_ble_eq_true rfl, Nat.le_of_ble_eq_true rfl⟩ ⟨Nat.le_of_ble_eq_true rfl, Nat.le_of_ble_eq_true rfl⟩ (fun hx1 => ?_) dX1_owned_1 (fun hn1 => ?_)
  · exact dEx_of (c := 2) (exq_f (exq_ne hx1)) (by decide) (by rw [exq_f (exq_ne hx1)])
  · have h2 := exq_eq hn1 (by decide)
    refine g_iconst (pc := 4) C dX1_owned_4 ?_
    refine g_istore_2 (pc := 5) C dX1_owned_5 ?_
    refine g_aload_0 (pc := 6) C dX1_owned_6 ?_
    refine g_get_X1_18 (pc := 7) C (by omega) dX1_owned_7 ?_
    refine g_astore_3 (pc := 10) C dX1_owned_10 ?_
    refine g_aload_3 (pc := 11) C dX1_owned_11 ?_
    refine g_alen1 (pc := 12) C (by omega) dX1_owned_12 ?_
    refine g_istore_4 (pc := 13) C dX1_owned_13 ?_
    refine g_iconst (pc := 15) C dX1_owned_15 ?_
    refine g_istore_5 (pc := 16) C dX1_owned_16 ?_
    refine g_loop (σ := Option Value) (Tf := fun _ _ => T) (lvf := fun j z => [some (.ref (ad 0)), some (.int (zI o)), some (.int (zI (ownS T o j))), some (.ref (ad 1)), some (.int (zI 60)), some (.int (zI (j : Int))), z]) (inv := fun _ _ => True) (N := 60) 0 none trivial (by omega) (fun j z _ hN ih => ?_)
    refine g_iload_5 (pc := 18) C dX1_owned_18 ?_
    refine g_iload_4 (pc := 20) C dX1_owned_20 ?_
    refine g_icmp_ge (pc := 22) (tgt := 60) C dX1_owned_22 (by decide) (by omega) (by omega) (fun h22 => ?_) (fun h22 => ?_)
    · refine g_iload_2 (pc := 60) C dX1_owned_60 ?_
      refine g_iret (pc := 61) C (Nat.le_of_ble_eq_true rfl) (Nat.le_of_ble_eq_true rfl) dX1_owned_61 ?_
      obtain rfl : j = 60 := by omega
      exact ⟨hn1, rfl, rfl⟩
    · have hj := hV.2 j (by omega)
      have e9 : ownS T o (j + 1) = ownS T o j + (if T 1 j ≠ 0 ∧ T 17 j = o then outC T j else 0) := rfl
      refine g_aload_3 (pc := 25) C dX1_owned_25 ?_
      refine g_iload_5 (pc := 26) C dX1_owned_26 ?_
      first | refine g_aaldn (pc := 28) C (by omega) (by omega) dX1_owned_28 ?_ | refine g_aald (pc := 28) C (by omega) (by omega) dX1_owned_28 ?_
      refine g_sstore_6 (pc := 29) C dX1_owned_29 ?_
      rcases mkd_or T j with ⟨m1, m2⟩ | ⟨m1, m2⟩
      · rw [m2]
        refine g_sload_6 (pc := 31) C dX1_owned_31 ?_
        refine g_ifnull (pc := 33) (tgt := 54) C dX1_owned_33 (by decide) (fun h33 => ?_) (fun h33 => ?_)
        · refine g_iinc_5 (pc := 54) C dX1_owned_54 ?_
          refine g_goto (pc := 57) (tgt := 18) C dX1_owned_57 (by decide) ?_
          rw [if_neg (by omega)] at e9
          exact g_eq rfl (by rw [e9, Int.add_zero]; rfl) rfl (ih _ (by omega) trivial)
        · omega
      · rw [m2]
        refine g_sload_6 (pc := 31) C dX1_owned_31 ?_
        refine g_ifnull (pc := 33) (tgt := 54) C dX1_owned_33 (by decide) (fun h33 => ?_) (fun h33 => ?_)
        · omega
        · refine g_sload_6 (pc := 36) C dX1_owned_36 ?_
          first | refine g_getn_X1_125 (pc := 38) C (by omega) dX1_owned_38 ?_ | refine g_get_X1_125 (pc := 38) C (by omega) dX1_owned_38 ?_
          refine g_iload_1 (pc := 41) C dX1_owned_41 ?_
          refine g_icmp_ne (pc := 42) (tgt := 54) C dX1_owned_42 (by decide) (by omega) (by omega) (fun h42 => ?_) (fun h42 => ?_)
          · refine g_iinc_5 (pc := 54) C dX1_owned_54 ?_
            refine g_goto (pc := 57) (tgt := 18) C dX1_owned_57 (by decide) ?_
            rw [if_neg (by omega)] at e9
            exact g_eq rfl (by rw [e9, Int.add_zero]; rfl) rfl (ih _ (by omega) trivial)
          · refine g_iload_2 (pc := 45) C dX1_owned_45 ?_
            refine g_aload_0 (pc := 46) C dX1_owned_46 ?_
            refine g_sload_6 (pc := 47) C dX1_owned_47 ?_
            refine g_cY1Pv (pc := 49) C cs_X1_157 (k_X1_outsideChildren hV (j : Int) (by omega)) ⟨Nat.le_of_ble_eq_true rfl, Nat.le_of_ble_eq_true rfl⟩ (by omega) (Nat.le_of_ble_eq_true rfl) ⟨Nat.le_of_ble_eq_true rfl, Nat.le_of_ble_eq_true rfl⟩ dX1_owned_49 ?_
            refine g_iadd (pc := 52) C dX1_owned_52 ?_
            refine g_istore_2 (pc := 53) C dX1_owned_53 ?_
            refine g_iinc_5 (pc := 54) C dX1_owned_54 ?_
            refine g_goto (pc := 57) (tgt := 18) C dX1_owned_57 (by decide) ?_
            rw [if_pos (by omega)] at e9
            exact g_eq rfl (by rw [e9]; rfl) rfl (ih _ (by omega) trivial)
theorem k_X1_blocks {l : Launch} {cs : CSt} {np : Nat} {ad : Nat → Nat} {T : MT} (hV : VC np T) (hA : VA T) (o : Int) (ho : -2147483648 ≤ o ∧ o < 2147483648) : KD l cs yX1_blocks (Cond.code yX1_blocks cX1_blocks 6 (some .int) :: GW) 7 8 48 [.ref (ad 0), .int (zI o)] np ad T (exq (0 ≤ o ∧ o < 8) 2) (some (.int (zI ((blS (lyR T) o 4096).1 + cbkC 4096 (blS (lyR T) o 4096).2)))) (np, ad, lyR T) := by
  have hV0 := hV.1
  have hVl := hV.lyR
  have hAl := hA.lyR hV
  refine KC_of (cc := cX1_blocks) (nL := 6) (rt := (some .int)) (by decide) (by simp [grf_cat, cat_int, cat_ref]) (by simp) ?_
  intro p e s m args below meth c A C hE hin
  refine g_eq (lv2 := [some (.ref (ad 0)), some (.int (zI o)), none, none, none, none]) rfl rfl rfl ?_
  refine g_iload_1 (pc := 0) C dX1_blocks_0 ?_
  refine g_cT1Dn (pc := 1) C hE cs_X1_51 (k_X1_checkOwner o ho) ⟨Nat.le_of_ble_eq_true rfl, Nat.le_of_ble_eq_true rfl⟩ (Nat.le_of_ble_eq_true rfl) ⟨Nat.le_of_ble_eq_true rfl, Nat.le_of_ble_eq_true rfl⟩ ⟨Nat.le_of_ble_eq_true rfl, Nat.le_of_ble_eq_true rfl⟩ (fun hx1 => ?_) dX1_blocks_1 (fun hn1 => ?_)
  · exact dEx_of (c := 2) (exq_f (exq_ne hx1)) (by decide) (by rw [exq_f (exq_ne hx1)])
  · have h2 := exq_eq hn1 (by decide)
    refine g_aload_0 (pc := 4) C dX1_blocks_4 ?_
    refine g_cY0Pn (pc := 5) C cs_X1_172 (k_X1_layRow hV hA) ⟨Nat.le_of_ble_eq_true rfl, Nat.le_of_ble_eq_true rfl⟩ (by omega) (Nat.le_of_ble_eq_true rfl) ⟨Nat.le_of_ble_eq_true rfl, Nat.le_of_ble_eq_true rfl⟩ dX1_blocks_5 ?_
    refine g_iconst (pc := 8) C dX1_blocks_8 ?_
    refine g_istore_2 (pc := 9) C dX1_blocks_9 ?_
    refine g_iconst (pc := 10) C dX1_blocks_10 ?_
    refine g_istore_3 (pc := 11) C dX1_blocks_11 ?_
    refine g_iconst (pc := 12) C dX1_blocks_12 ?_
    refine g_istore_4 (pc := 13) C dX1_blocks_13 ?_
    generalize lyR T = U at hVl hAl ⊢
    refine g_loop (σ := Option Value) (Tf := fun _ _ => U) (lvf := fun j z => [some (.ref (ad 0)), some (.int (zI o)), some (.int (zI (blS U o j).1)), some (.int (zI (blS U o j).2)), some (.int (zI (j : Int))), z]) (inv := fun _ _ => True) (N := 4096) 0 none trivial (by omega) (fun j z _ hN ih => ?_)
    have hb := blS_bd U o j
    have e9 : blS U o (j + 1) = if 0 ≤ fsp U (U 3 j) ∧ U 17 (fsp U (U 3 j)).toNat = o then blS U o j else ((blS U o j).1 + cbkC j (blS U o j).2, (j : Int) + 1) := rfl
    refine g_iload_4 (pc := 15) C dX1_blocks_15 ?_
    refine g_aload_0 (pc := 17) C dX1_blocks_17 ?_
    refine g_get_X1_36 (pc := 18) C (by omega) dX1_blocks_18 ?_
    refine g_alen3 (pc := 21) C (by omega) dX1_blocks_21 ?_
    refine g_icmp_ge (pc := 22) (tgt := 72) C dX1_blocks_22 (by decide) (by omega) (by omega) (fun h22 => ?_) (fun h22 => ?_)
    · obtain rfl : j = 4096 := by omega
      generalize blS U o 4096 = w at hb ⊢
      refine g_iload_2 (pc := 72) C dX1_blocks_72 ?_
      refine g_iload_3 (pc := 73) C dX1_blocks_73 ?_
      refine g_aload_0 (pc := 74) C dX1_blocks_74 ?_
      refine g_get_X1_36 (pc := 75) C (by omega) dX1_blocks_75 ?_
      refine g_alen3 (pc := 78) C (by omega) dX1_blocks_78 ?_
      refine g_cT2Pv (pc := 79) C cs_X1_175 (k_X1_countBlocks _ _ (by omega)) ⟨Nat.le_of_ble_eq_true rfl, Nat.le_of_ble_eq_true rfl⟩ (Nat.le_of_ble_eq_true rfl) ⟨Nat.le_of_ble_eq_true rfl, Nat.le_of_ble_eq_true rfl⟩ dX1_blocks_79 ?_
      refine g_iadd (pc := 82) C dX1_blocks_82 ?_
      refine g_iret (pc := 83) C (Nat.le_of_ble_eq_true rfl) (Nat.le_of_ble_eq_true rfl) dX1_blocks_83 ?_
      exact ⟨hn1, by rw [cbkC_eq], rfl⟩
    · have hj := hAl.2 j (by omega)
      generalize blS U o j = w at hb e9 ih ⊢
      refine g_aload_0 (pc := 25) C dX1_blocks_25 ?_
      refine g_aload_0 (pc := 26) C dX1_blocks_26 ?_
      refine g_get_X1_36 (pc := 27) C (by omega) dX1_blocks_27 ?_
      refine g_iload_4 (pc := 30) C dX1_blocks_30 ?_
      first | refine g_aldn_3 (pc := 32) C (by omega) (by omega) dX1_blocks_32 ?_ | refine g_ald_3 (pc := 32) C (by omega) (by omega) dX1_blocks_32 ?_
      refine g_cY1Pv (pc := 33) C cs_X1_151 (k_X1_findSpan _ (by omega) (by omega)) ⟨Nat.le_of_ble_eq_true rfl, Nat.le_of_ble_eq_true rfl⟩ (by omega) (Nat.le_of_ble_eq_true rfl) ⟨Nat.le_of_ble_eq_true rfl, Nat.le_of_ble_eq_true rfl⟩ dX1_blocks_33 ?_
      refine g_sstore_5 (pc := 36) C dX1_blocks_36 ?_
      refine g_sload_5 (pc := 38) C dX1_blocks_38 ?_
      refine g_ifnull (pc := 40) (tgt := 52) C dX1_blocks_40 (by decide) (fun h40 => ?_) (fun h40 => ?_)
      · refine g_iload_2 (pc := 52) C dX1_blocks_52 ?_
        refine g_iload_3 (pc := 53) C dX1_blocks_53 ?_
        refine g_iload_4 (pc := 54) C dX1_blocks_54 ?_
        refine g_cT2Pv (pc := 56) C cs_X1_175 (k_X1_countBlocks _ _ (by omega)) ⟨Nat.le_of_ble_eq_true rfl, Nat.le_of_ble_eq_true rfl⟩ (Nat.le_of_ble_eq_true rfl) ⟨Nat.le_of_ble_eq_true rfl, Nat.le_of_ble_eq_true rfl⟩ dX1_blocks_56 ?_
        refine g_iadd (pc := 59) C dX1_blocks_59 ?_
        refine g_istore_2 (pc := 60) C dX1_blocks_60 ?_
        refine g_iload_4 (pc := 61) C dX1_blocks_61 ?_
        refine g_iconst (pc := 63) C dX1_blocks_63 ?_
        refine g_iadd (pc := 64) C dX1_blocks_64 ?_
        refine g_istore_3 (pc := 65) C dX1_blocks_65 ?_
        refine g_iinc_4 (pc := 66) C dX1_blocks_66 ?_
        refine g_goto (pc := 69) (tgt := 15) C dX1_blocks_69 (by decide) ?_
        rw [if_neg (by omega)] at e9
        exact g_eq rfl (by rw [e9, cbkC_eq]; rfl) rfl (ih _ (by omega) trivial)
      · have hcc : isS U (fsp U (U 3 j)) := by
          rcases fsp_or U (U 3 j) with ⟨q1, q2⟩ | ⟨q1, q2⟩
          · omega
          · rw [q1]; exact q2
        have hcs := hVl.s hcc
        refine g_sload_5 (pc := 43) C dX1_blocks_43 ?_
        first | refine g_getn_X1_125 (pc := 45) C (by omega) dX1_blocks_45 ?_ | refine g_get_X1_125 (pc := 45) C (by omega) dX1_blocks_45 ?_
        refine g_iload_1 (pc := 48) C dX1_blocks_48 ?_
        refine g_icmp_eq (pc := 49) (tgt := 66) C dX1_blocks_49 (by decide) (by omega) (by omega) (fun h49 => ?_) (fun h49 => ?_)
        · refine g_iinc_4 (pc := 66) C dX1_blocks_66 ?_
          refine g_goto (pc := 69) (tgt := 15) C dX1_blocks_69 (by decide) ?_
          rw [if_pos ⟨h40, h49⟩] at e9
          exact g_eq rfl (by rw [e9]; rfl) rfl (ih _ (by omega) trivial)
        · refine g_iload_2 (pc := 52) C dX1_blocks_52 ?_
          refine g_iload_3 (pc := 53) C dX1_blocks_53 ?_
          refine g_iload_4 (pc := 54) C dX1_blocks_54 ?_
          refine g_cT2Pv (pc := 56) C cs_X1_175 (k_X1_countBlocks _ _ (by omega)) ⟨Nat.le_of_ble_eq_true rfl, Nat.le_of_ble_eq_true rfl⟩ (Nat.le_of_ble_eq_true rfl) ⟨Nat.le_of_ble_eq_true rfl, Nat.le_of_ble_eq_true rfl⟩ dX1_blocks_56 ?_
          refine g_iadd (pc := 59) C dX1_blocks_59 ?_
          refine g_istore_2 (pc := 60) C dX1_blocks_60 ?_
          refine g_iload_4 (pc := 61) C dX1_blocks_61 ?_
          refine g_iconst (pc := 63) C dX1_blocks_63 ?_
          refine g_iadd (pc := 64) C dX1_blocks_64 ?_
          refine g_istore_3 (pc := 65) C dX1_blocks_65 ?_
          refine g_iinc_4 (pc := 66) C dX1_blocks_66 ?_
          refine g_goto (pc := 69) (tgt := 15) C dX1_blocks_69 (by decide) ?_
          rw [if_neg (fun q => h49 q.2)] at e9
          exact g_eq rfl (by rw [e9, cbkC_eq]; rfl) rfl (ih _ (by omega) trivial)
theorem k_X1_pass {l : Launch} {cs : CSt} {np : Nat} {ad : Nat → Nat} {T : MT} (h13 : 13 ≤ np) (hA : VA T) (d : Int) (hd : -2147483648 ≤ d ∧ d < 2147483648) : KD l cs yX1_pass (Cond.code yX1_pass cX1_pass 5 (some .int) :: GW) 7 8 48 [.ref (ad 0), .int (zI d)] np ad T (if ¬ (1 ≤ d ∧ d ≤ 1000) then 2 else if 100000 - T 0 5 < d then 3 else 0) (some (.int (zI (psN T (T 0 5 + d) 4096)))) (np, ad, mst (mst (pasT T (T 0 5 + d) 4096) 0 5 (T 0 5 + d)) 0 4 (T 0 4 - psN T (T 0 5 + d) 4096)) := by
  have hA0 := hA.1
  refine KC_of (cc := cX1_pass) (nL := 5) (rt := (some .int)) (by decide) (by simp [grf_cat, cat_int, cat_ref]) (by simp) ?_
  intro p e s m args below meth c A C hE hin
  refine g_eq (lv2 := [some (.ref (ad 0)), some (.int (zI d)), none, none, none]) rfl rfl rfl ?_
  refine g_iload_1 (pc := 0) C dX1_pass_0 ?_
  refine g_iconst (pc := 1) C dX1_pass_1 ?_
  refine g_icmp_lt (pc := 2) (tgt := 12) C dX1_pass_2 (by decide) (by omega) (by omega) (fun h2 => ?_) (fun h2 => ?_)
  · refine g_throw_2 (pc := 12) C hE (text := "the days are not 1 to 1000") (by decide) dX1_pass_12 dX1_pass_15 dX1_pass_16 dX1_pass_18 dX1_pass_21 ⟨Nat.le_of_ble_eq_true rfl, Nat.le_of_ble_eq_true rfl, Nat.le_of_ble_eq_true rfl, Nat.le_of_ble_eq_true rfl⟩ ⟨Nat.le_of_ble_eq_true rfl, Nat.le_of_ble_eq_true rfl⟩ ?_
    exact dEx_of (c := 2) (by rw [if_pos (by omega)]) (by decide) rfl
  · refine g_iload_1 (pc := 5) C dX1_pass_5 ?_
    refine g_sipush (pc := 6) C dX1_pass_6 (by decide) ?_
    refine g_icmp_le (pc := 9) (tgt := 22) C dX1_pass_9 (by decide) (by omega) (by omega) (fun h9 => ?_) (fun h9 => ?_)
    · refine g_iload_1 (pc := 22) C dX1_pass_22 ?_
      refine g_ldci (pc := 23) C dX1_pass_23 ct_X1_148 ?_
      rw [show (100000 : Int32) = zI 100000 by decide]
      refine g_aload_0 (pc := 25) C dX1_pass_25 ?_
      refine g_get_X1_33 (pc := 26) C (by omega) dX1_pass_26 ?_
      refine g_isub (pc := 29) C dX1_pass_29 ?_
      refine g_icmp_le (pc := 30) (tgt := 43) C dX1_pass_30 (by decide) (by omega) (by omega) (fun h30 => ?_) (fun h30 => ?_)
      · obtain ⟨D, hD⟩ : ∃ D, D = T 0 5 + d := ⟨_, rfl⟩
        rw [← hD]
        refine g_aload_0 (pc := 43) C dX1_pass_43 ?_
        refine g_dup (pc := 44) C dX1_pass_44 rfl ?_
        refine g_get_X1_33 (pc := 45) C (by omega) dX1_pass_45 ?_
        refine g_iload_1 (pc := 48) C dX1_pass_48 ?_
        refine g_iadd (pc := 49) C dX1_pass_49 ?_
        rw [← hD]
        refine g_put_X1_33 (pc := 50) C (by omega) dX1_pass_50 ?_
        refine g_iconst (pc := 53) C dX1_pass_53 ?_
        refine g_istore_2 (pc := 54) C dX1_pass_54 ?_
        refine g_iconst (pc := 55) C dX1_pass_55 ?_
        refine g_istore_3 (pc := 56) C dX1_pass_56 ?_
        have hU : ∀ j, mst (pasT T D j) 0 5 D = pasT (mst T 0 5 D) D j := by
          intro j
          funext r i
          unfold mst pasT
          by_cases h1 : r = 0 ∧ i = 5
          · obtain ⟨rfl, rfl⟩ := h1
            simp
          · simp [h1]
        rw [hU]
        have hU2 : ∀ i, mst T 0 5 D 2 i = T 2 i := fun i => mst_r (by decide)
        have hU4 : ∀ j, pasT (mst T 0 5 D) D j 0 4 = T 0 4 := fun j => by rw [pasT_r (Or.inl (by decide)), mst_ne (by decide)]
        have hU5 : ∀ j, pasT (mst T 0 5 D) D j 0 5 = D := fun j => by rw [pasT_r (Or.inl (by decide)), mst_eq]
        have hps : ∀ j, psN (mst T 0 5 D) D j = psN T D j := by
          intro j
          induction j with
          | zero => rfl
          | succ j ih => unfold psN; rw [ih, hU2]
        rw [← hps]
        refine g_eq (T2 := pasT (mst T 0 5 D) D 0) (pasT_0 _ _).symm rfl rfl ?_
        obtain ⟨U, hUU⟩ : ∃ U, U = mst T 0 5 D := ⟨_, rfl⟩
        rw [← hUU] at hU2 hU4 hU5 hps ⊢
        refine g_loop (σ := Option Value) (Tf := fun j _ => pasT U D j) (lvf := fun j z => [some (.ref (ad 0)), some (.int (zI d)), some (.int (zI (psN U D j))), some (.int (zI (j : Int))), z]) (inv := fun _ _ => True) (N := 4096) 0 none trivial (by omega) (fun j z _ hN ih => ?_)
        have hpb := psN_bd U D j
        have e9 : psN U D (j + 1) = psN U D j + (if U 2 j ≠ 0 ∧ U 2 j ≠ -1 ∧ U 2 j ≤ D then 1 else 0) := rfl
        refine g_iload_3 (pc := 57) C dX1_pass_57 ?_
        refine g_aload_0 (pc := 58) C dX1_pass_58 ?_
        refine g_get_X1_26 (pc := 59) C (by omega) dX1_pass_59 ?_
        refine g_alen2 (pc := 62) C (by omega) dX1_pass_62 ?_
        refine g_icmp_ge (pc := 63) (tgt := 110) C dX1_pass_63 (by decide) (by omega) (by omega) (fun h63 => ?_) (fun h63 => ?_)
        · obtain rfl : j = 4096 := by omega
          generalize hpp : psN U D 4096 = P at hpb ⊢
          refine g_aload_0 (pc := 110) C dX1_pass_110 ?_
          refine g_dup (pc := 111) C dX1_pass_111 rfl ?_
          refine g_get_X1_30 (pc := 112) C (by omega) dX1_pass_112 ?_
          rw [hU4]
          refine g_iload_2 (pc := 115) C dX1_pass_115 ?_
          refine g_isub (pc := 116) C dX1_pass_116 ?_
          refine g_put_X1_30 (pc := 117) C (by omega) dX1_pass_117 ?_
          refine g_iload_2 (pc := 120) C dX1_pass_120 ?_
          refine g_iret (pc := 121) C (Nat.le_of_ble_eq_true rfl) (Nat.le_of_ble_eq_true rfl) dX1_pass_121 ?_
          exact ⟨by rw [if_neg (by omega), if_neg (by omega)], rfl, rfl⟩
        · have hj := hA.2 j (by omega)
          have hr : pasT U D j 2 j = U 2 j := pasT_r (Or.inr (Nat.le_refl _))
          rw [← hU2] at hj
          refine g_aload_0 (pc := 66) C dX1_pass_66 ?_
          refine g_get_X1_26 (pc := 67) C (by omega) dX1_pass_67 ?_
          refine g_iload_3 (pc := 70) C dX1_pass_70 ?_
          first | refine g_aldn_2 (pc := 71) C (by omega) (by omega) dX1_pass_71 ?_ | refine g_ald_2 (pc := 71) C (by omega) (by omega) dX1_pass_71 ?_
          rw [hr]
          refine g_istore_4 (pc := 72) C dX1_pass_72 ?_
          refine g_iload_4 (pc := 74) C dX1_pass_74 ?_
          refine g_if_eq (pc := 76) (tgt := 104) C dX1_pass_76 (by decide) (by omega) (fun h76 => ?_) (fun h76 => ?_)
          · refine g_iinc_3 (pc := 104) C dX1_pass_104 ?_
            refine g_goto (pc := 107) (tgt := 57) C dX1_pass_107 (by decide) ?_
            rw [if_neg (by omega)] at e9
            exact g_eq (pasT_n _ _ _ (by omega)) (by rw [e9, Int.add_zero]; rfl) rfl (ih _ (by omega) trivial)
          · refine g_iload_4 (pc := 79) C dX1_pass_79 ?_
            refine g_iconst (pc := 81) C dX1_pass_81 ?_
            refine g_icmp_eq (pc := 82) (tgt := 104) C dX1_pass_82 (by decide) (by omega) (by omega) (fun h82 => ?_) (fun h82 => ?_)
            · refine g_iinc_3 (pc := 104) C dX1_pass_104 ?_
              refine g_goto (pc := 107) (tgt := 57) C dX1_pass_107 (by decide) ?_
              rw [if_neg (by omega)] at e9
              exact g_eq (pasT_n _ _ _ (by omega)) (by rw [e9, Int.add_zero]; rfl) rfl (ih _ (by omega) trivial)
            · refine g_iload_4 (pc := 85) C dX1_pass_85 ?_
              refine g_aload_0 (pc := 87) C dX1_pass_87 ?_
              refine g_get_X1_33 (pc := 88) C (by omega) dX1_pass_88 ?_
              rw [hU5]
              refine g_icmp_gt (pc := 91) (tgt := 104) C dX1_pass_91 (by decide) (by omega) (by omega) (fun h91 => ?_) (fun h91 => ?_)
              · refine g_iinc_3 (pc := 104) C dX1_pass_104 ?_
                refine g_goto (pc := 107) (tgt := 57) C dX1_pass_107 (by decide) ?_
                rw [if_neg (by omega)] at e9
                exact g_eq (pasT_n _ _ _ (by omega)) (by rw [e9, Int.add_zero]; rfl) rfl (ih _ (by omega) trivial)
              · refine g_aload_0 (pc := 94) C dX1_pass_94 ?_
                refine g_get_X1_26 (pc := 95) C (by omega) dX1_pass_95 ?_
                refine g_iload_3 (pc := 98) C dX1_pass_98 ?_
                refine g_iconst (pc := 99) C dX1_pass_99 ?_
                first | refine g_astn_2 (pc := 100) C (by omega) (by omega) dX1_pass_100 ?_ | refine g_ast_2 (pc := 100) C (by omega) (by omega) dX1_pass_100 ?_
                refine g_iinc_2 (pc := 101) C dX1_pass_101 ?_
                refine g_iinc_3 (pc := 104) C dX1_pass_104 ?_
                refine g_goto (pc := 107) (tgt := 57) C dX1_pass_107 (by decide) ?_
                rw [if_pos (by omega)] at e9
                exact g_eq (pasT_y _ _ _ (by omega)) (by rw [e9]; rfl) rfl (ih _ (by omega) trivial)
      · refine g_throw_3 (pc := 33) C hE (text := "the day would be above 100000") (by decide) dX1_pass_33 dX1_pass_36 dX1_pass_37 dX1_pass_39 dX1_pass_42 ⟨Nat.le_of_ble_eq_true rfl, Nat.le_of_ble_eq_true rfl, Nat.le_of_ble_eq_true rfl, Nat.le_of_ble_eq_true rfl⟩ ⟨Nat.le_of_ble_eq_true rfl, Nat.le_of_ble_eq_true rfl⟩ ?_
        exact dEx_of (c := 3) (by rw [if_neg (by omega), if_pos (by omega)]) (by decide) rfl
    · refine g_throw_2 (pc := 12) C hE (text := "the days are not 1 to 1000") (by decide) dX1_pass_12 dX1_pass_15 dX1_pass_16 dX1_pass_18 dX1_pass_21 ⟨Nat.le_of_ble_eq_true rfl, Nat.le_of_ble_eq_true rfl, Nat.le_of_ble_eq_true rfl, Nat.le_of_ble_eq_true rfl⟩ ⟨Nat.le_of_ble_eq_true rfl, Nat.le_of_ble_eq_true rfl⟩ ?_
      exact dEx_of (c := 2) (by rw [if_pos (by omega)]) (by decide) rfl
end
section
theorem k_X1_remove {l : Launch} {cs : CSt} {np : Nat} {ad : Nat → Nat} {T : MT} (hV : VC np T) (hA : VA T) (a : Int) (ha : -2147483648 ≤ a ∧ a < 2147483648) : KD l cs yX1_remove (Cond.code yX1_remove cX1_remove 3 (some .int) :: GW) 7 8 48 [.ref (ad 0), .int (zI a)] np ad T (if fsp T a < 0 then 1 else if 0 ≤ T 14 a.toNat ∧ cntC T a (T 15 a.toNat) (T 16 a.toNat) 60 ≤ 0 ∧ lnt (T 2) (T 15 a.toNat).toNat (T 16 a.toNat).toNat ≤ 0 then 0 else 3) (some (.int (zI (T 16 a.toNat)))) (np, ad, mst (mst T 1 a.toNat 0) 0 7 0) := by
  have hV0 := hV.1
  refine KC_of (cc := cX1_remove) (nL := 3) (rt := (some .int)) (by decide) (by simp [grf_cat, cat_int, cat_ref]) (by simp) ?_
  intro p e s m args below meth c A C hE hin
  refine g_eq (lv2 := [some (.ref (ad 0)), some (.int (zI a)), none]) rfl rfl rfl ?_
  refine g_aload_0 (pc := 0) C dX1_remove_0 ?_
  refine g_iload_1 (pc := 1) C dX1_remove_1 ?_
  refine g_cY1Dv (pc := 2) C hE cs_X1_43 (k_X1_spanOf a (by omega) ha) ⟨Nat.le_of_ble_eq_true rfl, Nat.le_of_ble_eq_true rfl⟩ (by omega) (Nat.le_of_ble_eq_true rfl) ⟨Nat.le_of_ble_eq_true rfl, Nat.le_of_ble_eq_true rfl⟩ ⟨Nat.le_of_ble_eq_true rfl, Nat.le_of_ble_eq_true rfl⟩ (fun hx2 => ?_) dX1_remove_2 (fun hn2 => ?_)
  · have h2 := exq_ne hx2
    exact dEx_of (c := 1) (by rw [if_pos (by omega)]) (by decide) (by rw [exq_f h2])
  · have h2 := exq_eq hn2 (by decide)
    rcases fsp_or T a with ⟨q1, q2⟩ | ⟨q1, q2⟩
    · omega
    have hV1 := hV.s q2
    rw [q1]
    have hcb := cntC_bd T a (T 15 a.toNat) (T 16 a.toNat) 60
    have hlb := lnt_bd (T 2) (T 15 a.toNat).toNat (T 16 a.toNat).toNat
    have e1 : T 15 a.toNat + T 16 a.toNat - T 15 a.toNat = T 16 a.toNat := by omega
    refine g_sstore_2 (pc := 5) C dX1_remove_5 ?_
    refine g_sload_2 (pc := 6) C dX1_remove_6 ?_
    first | refine g_getn_X1_94 (pc := 7) C (by omega) dX1_remove_7 ?_ | refine g_get_X1_94 (pc := 7) C (by omega) dX1_remove_7 ?_
    refine g_ifnull (pc := 10) (tgt := 36) C dX1_remove_10 (by decide) (fun h10 => ?_) (fun h10 => ?_)
    · refine g_throw_3 (pc := 36) C hE (text := "the span cannot be removed") (by decide) dX1_remove_36 dX1_remove_39 dX1_remove_40 dX1_remove_42 dX1_remove_45 ⟨Nat.le_of_ble_eq_true rfl, Nat.le_of_ble_eq_true rfl, Nat.le_of_ble_eq_true rfl, Nat.le_of_ble_eq_true rfl⟩ ⟨Nat.le_of_ble_eq_true rfl, Nat.le_of_ble_eq_true rfl⟩ ?_
      exact dEx_of (c := 3) (by rw [if_neg (by omega), if_neg (by omega)]) (by decide) rfl
    · refine g_aload_0 (pc := 13) C dX1_remove_13 ?_
      refine g_sload_2 (pc := 14) C dX1_remove_14 ?_
      refine g_cY1Pv (pc := 15) C cs_X1_97 (k_X1_hasChildren hV a q2) ⟨Nat.le_of_ble_eq_true rfl, Nat.le_of_ble_eq_true rfl⟩ (by omega) (Nat.le_of_ble_eq_true rfl) ⟨Nat.le_of_ble_eq_true rfl, Nat.le_of_ble_eq_true rfl⟩ dX1_remove_15 ?_
      refine g_if_ne (pc := 18) (tgt := 36) C dX1_remove_18 (by decide) (by split <;> omega) (fun h18 => ?_) (fun h18 => ?_)
      · refine g_throw_3 (pc := 36) C hE (text := "the span cannot be removed") (by decide) dX1_remove_36 dX1_remove_39 dX1_remove_40 dX1_remove_42 dX1_remove_45 ⟨Nat.le_of_ble_eq_true rfl, Nat.le_of_ble_eq_true rfl, Nat.le_of_ble_eq_true rfl, Nat.le_of_ble_eq_true rfl⟩ ⟨Nat.le_of_ble_eq_true rfl, Nat.le_of_ble_eq_true rfl⟩ ?_
        have h19 : cntC T a (T 15 a.toNat) (T 16 a.toNat) 60 > 0 := by split at h18 <;> omega
        exact dEx_of (c := 3) (by rw [if_neg (by omega), if_neg (by omega)]) (by decide) rfl
      · have h19 : ¬ cntC T a (T 15 a.toNat) (T 16 a.toNat) 60 > 0 := by split at h18 <;> omega
        refine g_aload_0 (pc := 21) C dX1_remove_21 ?_
        refine g_sload_2 (pc := 22) C dX1_remove_22 ?_
        first | refine g_getn_X1_101 (pc := 23) C (by omega) dX1_remove_23 ?_ | refine g_get_X1_101 (pc := 23) C (by omega) dX1_remove_23 ?_
        refine g_sload_2 (pc := 26) C dX1_remove_26 ?_
        refine g_cS0Pv (pc := 27) C cs_X1_104 (k_X0_end a (by omega)) ⟨Nat.le_of_ble_eq_true rfl, Nat.le_of_ble_eq_true rfl⟩ (by omega) (Nat.le_of_ble_eq_true rfl) ⟨Nat.le_of_ble_eq_true rfl, Nat.le_of_ble_eq_true rfl⟩ dX1_remove_27 ?_
        refine g_cY2Pv (pc := 30) C cs_X1_108 (k_X1_countLent (by omega) hA _ _ (by omega)) ⟨Nat.le_of_ble_eq_true rfl, Nat.le_of_ble_eq_true rfl⟩ (by omega) (Nat.le_of_ble_eq_true rfl) ⟨Nat.le_of_ble_eq_true rfl, Nat.le_of_ble_eq_true rfl⟩ dX1_remove_30 ?_
        rw [e1]
        refine g_if_le (pc := 33) (tgt := 46) C dX1_remove_33 (by decide) (by omega) (fun h33 => ?_) (fun h33 => ?_)
        · refine g_aload_0 (pc := 46) C dX1_remove_46 ?_
          refine g_get_X1_18 (pc := 47) C (by omega) dX1_remove_47 ?_
          refine g_iload_1 (pc := 50) C dX1_remove_50 ?_
          refine g_snull (pc := 51) C dX1_remove_51 ?_
          refine g_aastS (pc := 52) C (by omega) (by omega) dX1_remove_52 ?_
          refine g_aload_0 (pc := 53) C dX1_remove_53 ?_
          refine g_iconst (pc := 54) C dX1_remove_54 ?_
          refine g_put_X1_39 (pc := 55) C (by omega) (by omega) dX1_remove_55 ?_
          refine g_sload_2 (pc := 58) C dX1_remove_58 ?_
          first | refine g_getn_X1_114 (pc := 59) C (by omega) dX1_remove_59 ?_ | refine g_get_X1_114 (pc := 59) C (by omega) dX1_remove_59 ?_
          rw [mst_r (by decide), mst_r (by decide)]
          refine g_iret (pc := 62) C (Nat.le_of_ble_eq_true rfl) (Nat.le_of_ble_eq_true rfl) dX1_remove_62 ?_
          exact ⟨by rw [if_neg (by omega), if_pos (by omega)], rfl, rfl⟩
        · refine g_throw_3 (pc := 36) C hE (text := "the span cannot be removed") (by decide) dX1_remove_36 dX1_remove_39 dX1_remove_40 dX1_remove_42 dX1_remove_45 ⟨Nat.le_of_ble_eq_true rfl, Nat.le_of_ble_eq_true rfl, Nat.le_of_ble_eq_true rfl, Nat.le_of_ble_eq_true rfl⟩ ⟨Nat.le_of_ble_eq_true rfl, Nat.le_of_ble_eq_true rfl⟩ ?_
          exact dEx_of (c := 3) (by rw [if_neg (by omega), if_neg (by omega)]) (by decide) rfl
def grB (T : MT) (a : Int) : Int := T 15 a.toNat - T 15 a.toNat % (2 * T 16 a.toNat)
theorem k_X1_grow {l : Launch} {cs : CSt} {np : Nat} {ad : Nat → Nat} {T : MT} (hV : VC np T) (hT : VT T) (a : Int) (ha : -2147483648 ≤ a ∧ a < 2147483648) (hz : isS T a → 2 * T 16 a.toNat = 2 ∨ 2 * T 16 a.toNat = 4 ∨ 2 * T 16 a.toNat = 8 ∨ 2 * T 16 a.toNat = 16 ∨ 2 * T 16 a.toNat = 32 ∨ 2 * T 16 a.toNat = 64 ∨ 2 * T 16 a.toNat = 128 ∨ 2 * T 16 a.toNat = 256 ∨ 2 * T 16 a.toNat = 512 ∨ 2 * T 16 a.toNat = 1024 ∨ 2 * T 16 a.toNat = 2048 ∨ 2 * T 16 a.toNat = 4096 ∨ 2 * T 16 a.toNat = 8192) : KD l cs yX1_grow (Cond.code yX1_grow cX1_grow 6 (some .int) :: GW) 7 8 48 [.ref (ad 0), .int (zI a)] np ad T (if fsp T a < 0 then 1 else if 0 ≤ T 14 a.toNat ∧ 2 * T 16 a.toNat < T 16 (T 14 a.toNat).toNat ∧ cntC T (T 14 a.toNat) (grB T a) (2 * T 16 a.toNat) 60 ≤ 1 then 0 else 3) (some (.int (zI (grB T a)))) (np, ad, mst (mst (mst T 15 a.toNat (grB T a)) 16 a.toNat (2 * T 16 a.toNat)) 0 7 0) := by
  have hV0 := hV.1
  refine KC_of (cc := cX1_grow) (nL := 6) (rt := (some .int)) (by decide) (by simp [grf_cat, cat_int, cat_ref]) (by simp) ?_
  intro p e s m args below meth c A C hE hin
  refine g_eq (lv2 := [some (.ref (ad 0)), some (.int (zI a)), none, none, none, none]) rfl rfl rfl ?_
  refine g_aload_0 (pc := 0) C dX1_grow_0 ?_
  refine g_iload_1 (pc := 1) C dX1_grow_1 ?_
  refine g_cY1Dv (pc := 2) C hE cs_X1_43 (k_X1_spanOf a (by omega) ha) ⟨Nat.le_of_ble_eq_true rfl, Nat.le_of_ble_eq_true rfl⟩ (by omega) (Nat.le_of_ble_eq_true rfl) ⟨Nat.le_of_ble_eq_true rfl, Nat.le_of_ble_eq_true rfl⟩ ⟨Nat.le_of_ble_eq_true rfl, Nat.le_of_ble_eq_true rfl⟩ (fun hx2 => ?_) dX1_grow_2 (fun hn2 => ?_)
  · have h2 := exq_ne hx2
    exact dEx_of (c := 1) (by rw [if_pos (by omega)]) (by decide) (by rw [exq_f h2])
  · have h2 := exq_eq hn2 (by decide)
    rcases fsp_or T a with ⟨q1, q2⟩ | ⟨q1, q2⟩
    · omega
    have hV1 := hV.s q2
    rw [q1]
    refine g_sstore_2 (pc := 5) C dX1_grow_5 ?_
    refine g_sload_2 (pc := 6) C dX1_grow_6 ?_
    first | refine g_getn_X1_94 (pc := 7) C (by omega) dX1_grow_7 ?_ | refine g_get_X1_94 (pc := 7) C (by omega) dX1_grow_7 ?_
    refine g_sstore_3 (pc := 10) C dX1_grow_10 ?_
    refine g_iconst (pc := 11) C dX1_grow_11 ?_
    refine g_sload_2 (pc := 12) C dX1_grow_12 ?_
    first | refine g_getn_X1_114 (pc := 13) C (by omega) dX1_grow_13 ?_ | refine g_get_X1_114 (pc := 13) C (by omega) dX1_grow_13 ?_
    refine g_imul (pc := 16) C dX1_grow_16 ?_
    refine g_istore_4 (pc := 17) C dX1_grow_17 ?_
    refine g_sload_3 (pc := 19) C dX1_grow_19 ?_
    refine g_ifnull (pc := 20) (tgt := 32) C dX1_grow_20 (by decide) (fun h20 => ?_) (fun h20 => ?_)
    · refine g_throw_3 (pc := 32) C hE (text := "the span cannot be doubled in its parent") (by decide) dX1_grow_32 dX1_grow_35 dX1_grow_36 dX1_grow_38 dX1_grow_41 ⟨Nat.le_of_ble_eq_true rfl, Nat.le_of_ble_eq_true rfl, Nat.le_of_ble_eq_true rfl, Nat.le_of_ble_eq_true rfl⟩ ⟨Nat.le_of_ble_eq_true rfl, Nat.le_of_ble_eq_true rfl⟩ ?_
      exact dEx_of (c := 3) (by rw [if_neg (by omega), if_neg (by omega)]) (by decide) rfl
    · have hp := hV.s (x := T 14 a.toNat) ⟨h20, by omega, hT a.toNat (by omega) q2.2.2 h20⟩
      have hcb := cntC_bd T (T 14 a.toNat) (grB T a) (2 * T 16 a.toNat) 60
      have hm1 := Int.emod_nonneg (T 15 a.toNat) (b := 2 * T 16 a.toNat) (by omega)
      have hm2 : T 15 a.toNat % (2 * T 16 a.toNat) ≤ T 15 a.toNat := by
        have h8 := Int.ediv_nonneg (a := T 15 a.toNat) (b := 2 * T 16 a.toNat) (by omega) (by omega)
        have h9 := Int.mul_ediv_add_emod (T 15 a.toNat) (2 * T 16 a.toNat)
        have h10 : 0 ≤ 2 * T 16 a.toNat * (T 15 a.toNat / (2 * T 16 a.toNat)) := Int.mul_nonneg (by omega) h8
        omega
      have hgb : 0 ≤ grB T a ∧ grB T a ≤ 4096 := by unfold grB; omega
      refine g_iload_4 (pc := 23) C dX1_grow_23 ?_
      refine g_sload_3 (pc := 25) C dX1_grow_25 ?_
      first | refine g_getn_X1_114 (pc := 26) C (by omega) dX1_grow_26 ?_ | refine g_get_X1_114 (pc := 26) C (by omega) dX1_grow_26 ?_
      refine g_icmp_lt (pc := 29) (tgt := 42) C dX1_grow_29 (by decide) (by omega) (by omega) (fun h29 => ?_) (fun h29 => ?_)
      · refine g_sload_2 (pc := 42) C dX1_grow_42 ?_
        first | refine g_getn_X1_101 (pc := 43) C (by omega) dX1_grow_43 ?_ | refine g_get_X1_101 (pc := 43) C (by omega) dX1_grow_43 ?_
        refine g_iload_4 (pc := 46) C dX1_grow_46 ?_
        refine g_ineg (pc := 48) C dX1_grow_48 ?_
        refine g_iandz (pc := 49) C dX1_grow_49 (and_neg (by omega) (hz q2)) ?_
        refine g_istore_5 (pc := 50) C dX1_grow_50 ?_
        refine g_aload_0 (pc := 52) C dX1_grow_52 ?_
        refine g_sload_3 (pc := 53) C dX1_grow_53 ?_
        refine g_iload_5 (pc := 54) C dX1_grow_54 ?_
        refine g_iload_4 (pc := 56) C dX1_grow_56 ?_
        refine g_cY3Pv (pc := 58) C cs_X1_88 (k_X1_countChildren hV _ _ _ (by omega) (by unfold grB at hgb; omega)) ⟨Nat.le_of_ble_eq_true rfl, Nat.le_of_ble_eq_true rfl⟩ (by omega) (Nat.le_of_ble_eq_true rfl) ⟨Nat.le_of_ble_eq_true rfl, Nat.le_of_ble_eq_true rfl⟩ dX1_grow_58 ?_
        rw [show T 15 a.toNat - T 15 a.toNat % (2 * T 16 a.toNat) = grB T a from rfl]
        refine g_iconst (pc := 61) C dX1_grow_61 ?_
        refine g_icmp_le (pc := 62) (tgt := 75) C dX1_grow_62 (by decide) (by omega) (by omega) (fun h62 => ?_) (fun h62 => ?_)
        · refine g_sload_2 (pc := 75) C dX1_grow_75 ?_
          refine g_iload_5 (pc := 76) C dX1_grow_76 ?_
          refine g_put_X1_101 (pc := 78) C (by omega) dX1_grow_78 ?_
          refine g_sload_2 (pc := 81) C dX1_grow_81 ?_
          refine g_iload_4 (pc := 82) C dX1_grow_82 ?_
          refine g_put_X1_114 (pc := 84) C (by omega) dX1_grow_84 ?_
          refine g_aload_0 (pc := 87) C dX1_grow_87 ?_
          refine g_iconst (pc := 88) C dX1_grow_88 ?_
          refine g_put_X1_39 (pc := 89) C (by omega) (by omega) dX1_grow_89 ?_
          refine g_iload_5 (pc := 92) C dX1_grow_92 ?_
          refine g_iret (pc := 94) C (Nat.le_of_ble_eq_true rfl) (Nat.le_of_ble_eq_true rfl) dX1_grow_94 ?_
          exact ⟨by rw [if_neg (by omega), if_pos (by omega)], rfl, rfl⟩
        · refine g_throw_3 (pc := 65) C hE (text := "another span is in the way") (by decide) dX1_grow_65 dX1_grow_68 dX1_grow_69 dX1_grow_71 dX1_grow_74 ⟨Nat.le_of_ble_eq_true rfl, Nat.le_of_ble_eq_true rfl, Nat.le_of_ble_eq_true rfl, Nat.le_of_ble_eq_true rfl⟩ ⟨Nat.le_of_ble_eq_true rfl, Nat.le_of_ble_eq_true rfl⟩ ?_
          exact dEx_of (c := 3) (by rw [if_neg (by omega), if_neg (by omega)]) (by decide) rfl
      · refine g_throw_3 (pc := 32) C hE (text := "the span cannot be doubled in its parent") (by decide) dX1_grow_32 dX1_grow_35 dX1_grow_36 dX1_grow_38 dX1_grow_41 ⟨Nat.le_of_ble_eq_true rfl, Nat.le_of_ble_eq_true rfl, Nat.le_of_ble_eq_true rfl, Nat.le_of_ble_eq_true rfl⟩ ⟨Nat.le_of_ble_eq_true rfl, Nat.le_of_ble_eq_true rfl⟩ ?_
        exact dEx_of (c := 3) (by rw [if_neg (by omega), if_neg (by omega)]) (by decide) rfl
theorem k_X1_halve {l : Launch} {cs : CSt} {np : Nat} {ad : Nat → Nat} {T : MT} (hV : VC np T) (hA : VA T) (a : Int) (ha : -2147483648 ≤ a ∧ a < 2147483648) (hz : isS T a → T 16 a.toNat = 1 ∨ T 16 a.toNat % 2 = 0) : KD l cs yX1_halve (Cond.code yX1_halve cX1_halve 5 (some .int) :: GW) 7 8 48 [.ref (ad 0), .int (zI a)] np ad T (if fsp T a < 0 then 1 else if 0 ≤ T 14 a.toNat ∧ T 16 a.toNat / 2 ≠ 0 ∧ cntC T a (T 15 a.toNat + T 16 a.toNat / 2) (T 16 a.toNat / 2) 60 ≤ 0 ∧ lnt (T 2) (T 15 a.toNat + T 16 a.toNat / 2).toNat (T 16 a.toNat / 2).toNat ≤ 0 then 0 else 3) (some (.int (zI (T 16 a.toNat / 2)))) (np, ad, mst (mst T 16 a.toNat (T 16 a.toNat / 2)) 0 7 0) := by
  have hV0 := hV.1
  refine KC_of (cc := cX1_halve) (nL := 5) (rt := (some .int)) (by decide) (by simp [grf_cat, cat_int, cat_ref]) (by simp) ?_
  intro p e s m args below meth c A C hE hin
  refine g_eq (lv2 := [some (.ref (ad 0)), some (.int (zI a)), none, none, none]) rfl rfl rfl ?_
  refine g_aload_0 (pc := 0) C dX1_halve_0 ?_
  refine g_iload_1 (pc := 1) C dX1_halve_1 ?_
  refine g_cY1Dv (pc := 2) C hE cs_X1_43 (k_X1_spanOf a (by omega) ha) ⟨Nat.le_of_ble_eq_true rfl, Nat.le_of_ble_eq_true rfl⟩ (by omega) (Nat.le_of_ble_eq_true rfl) ⟨Nat.le_of_ble_eq_true rfl, Nat.le_of_ble_eq_true rfl⟩ ⟨Nat.le_of_ble_eq_true rfl, Nat.le_of_ble_eq_true rfl⟩ (fun hx2 => ?_) dX1_halve_2 (fun hn2 => ?_)
  · have h2 := exq_ne hx2
    exact dEx_of (c := 1) (by rw [if_pos (by omega)]) (by decide) (by rw [exq_f h2])
  · have h2 := exq_eq hn2 (by decide)
    rcases fsp_or T a with ⟨q1, q2⟩ | ⟨q1, q2⟩
    · omega
    have hV1 := hV.s q2
    rw [q1]
    have hz1 := hz q2
    have hcb := cntC_bd T a (T 15 a.toNat + T 16 a.toNat / 2) (T 16 a.toNat / 2) 60
    have hlb := lnt_bd (T 2) (T 15 a.toNat + T 16 a.toNat / 2).toNat (T 16 a.toNat / 2).toNat
    refine g_sstore_2 (pc := 5) C dX1_halve_5 ?_
    refine g_sload_2 (pc := 6) C dX1_halve_6 ?_
    first | refine g_getn_X1_114 (pc := 7) C (by omega) dX1_halve_7 ?_ | refine g_get_X1_114 (pc := 7) C (by omega) dX1_halve_7 ?_
    refine g_iconst (pc := 10) C dX1_halve_10 ?_
    refine g_idiv (pc := 11) C dX1_halve_11 (by omega) (by omega) ?_
    refine g_istore_3 (pc := 12) C dX1_halve_12 ?_
    refine g_sload_2 (pc := 13) C dX1_halve_13 ?_
    first | refine g_getn_X1_101 (pc := 14) C (by omega) dX1_halve_14 ?_ | refine g_get_X1_101 (pc := 14) C (by omega) dX1_halve_14 ?_
    refine g_iload_3 (pc := 17) C dX1_halve_17 ?_
    refine g_iadd (pc := 18) C dX1_halve_18 ?_
    refine g_istore_4 (pc := 19) C dX1_halve_19 ?_
    refine g_sload_2 (pc := 21) C dX1_halve_21 ?_
    first | refine g_getn_X1_94 (pc := 22) C (by omega) dX1_halve_22 ?_ | refine g_get_X1_94 (pc := 22) C (by omega) dX1_halve_22 ?_
    refine g_ifnull (pc := 25) (tgt := 32) C dX1_halve_25 (by decide) (fun h25 => ?_) (fun h25 => ?_)
    · refine g_throw_3 (pc := 32) C hE (text := "the whole, or a single address") (by decide) dX1_halve_32 dX1_halve_35 dX1_halve_36 dX1_halve_38 dX1_halve_41 ⟨Nat.le_of_ble_eq_true rfl, Nat.le_of_ble_eq_true rfl, Nat.le_of_ble_eq_true rfl, Nat.le_of_ble_eq_true rfl⟩ ⟨Nat.le_of_ble_eq_true rfl, Nat.le_of_ble_eq_true rfl⟩ ?_
      exact dEx_of (c := 3) (by rw [if_neg (by omega), if_neg (by omega)]) (by decide) rfl
    · refine g_iload_3 (pc := 28) C dX1_halve_28 ?_
      refine g_if_ne (pc := 29) (tgt := 42) C dX1_halve_29 (by decide) (by omega) (fun h29 => ?_) (fun h29 => ?_)
      · have e1 : T 15 a.toNat + T 16 a.toNat - (T 15 a.toNat + T 16 a.toNat / 2) = T 16 a.toNat / 2 := by omega
        refine g_aload_0 (pc := 42) C dX1_halve_42 ?_
        refine g_sload_2 (pc := 43) C dX1_halve_43 ?_
        refine g_iload_4 (pc := 44) C dX1_halve_44 ?_
        refine g_iload_3 (pc := 46) C dX1_halve_46 ?_
        refine g_cY3Pv (pc := 47) C cs_X1_88 (k_X1_countChildren hV _ _ _ (by omega) (by omega)) ⟨Nat.le_of_ble_eq_true rfl, Nat.le_of_ble_eq_true rfl⟩ (by omega) (Nat.le_of_ble_eq_true rfl) ⟨Nat.le_of_ble_eq_true rfl, Nat.le_of_ble_eq_true rfl⟩ dX1_halve_47 ?_
        refine g_if_gt (pc := 50) (tgt := 66) C dX1_halve_50 (by decide) (by omega) (fun h50 => ?_) (fun h50 => ?_)
        · refine g_throw_3 (pc := 66) C hE (text := "the second half is in use") (by decide) dX1_halve_66 dX1_halve_69 dX1_halve_70 dX1_halve_72 dX1_halve_75 ⟨Nat.le_of_ble_eq_true rfl, Nat.le_of_ble_eq_true rfl, Nat.le_of_ble_eq_true rfl, Nat.le_of_ble_eq_true rfl⟩ ⟨Nat.le_of_ble_eq_true rfl, Nat.le_of_ble_eq_true rfl⟩ ?_
          exact dEx_of (c := 3) (by rw [if_neg (by omega), if_neg (by omega)]) (by decide) rfl
        · refine g_aload_0 (pc := 53) C dX1_halve_53 ?_
          refine g_iload_4 (pc := 54) C dX1_halve_54 ?_
          refine g_sload_2 (pc := 56) C dX1_halve_56 ?_
          refine g_cS0Pv (pc := 57) C cs_X1_104 (k_X0_end a (by omega)) ⟨Nat.le_of_ble_eq_true rfl, Nat.le_of_ble_eq_true rfl⟩ (by omega) (Nat.le_of_ble_eq_true rfl) ⟨Nat.le_of_ble_eq_true rfl, Nat.le_of_ble_eq_true rfl⟩ dX1_halve_57 ?_
          refine g_cY2Pv (pc := 60) C cs_X1_108 (k_X1_countLent (by omega) hA _ _ (by omega)) ⟨Nat.le_of_ble_eq_true rfl, Nat.le_of_ble_eq_true rfl⟩ (by omega) (Nat.le_of_ble_eq_true rfl) ⟨Nat.le_of_ble_eq_true rfl, Nat.le_of_ble_eq_true rfl⟩ dX1_halve_60 ?_
          rw [e1]
          refine g_if_le (pc := 63) (tgt := 76) C dX1_halve_63 (by decide) (by omega) (fun h63 => ?_) (fun h63 => ?_)
          · refine g_sload_2 (pc := 76) C dX1_halve_76 ?_
            refine g_iload_3 (pc := 77) C dX1_halve_77 ?_
            refine g_put_X1_114 (pc := 78) C (by omega) dX1_halve_78 ?_
            refine g_aload_0 (pc := 81) C dX1_halve_81 ?_
            refine g_iconst (pc := 82) C dX1_halve_82 ?_
            refine g_put_X1_39 (pc := 83) C (by omega) (by omega) dX1_halve_83 ?_
            refine g_iload_3 (pc := 86) C dX1_halve_86 ?_
            refine g_iret (pc := 87) C (Nat.le_of_ble_eq_true rfl) (Nat.le_of_ble_eq_true rfl) dX1_halve_87 ?_
            exact ⟨by rw [if_neg (by omega), if_pos (by omega)], rfl, rfl⟩
          · refine g_throw_3 (pc := 66) C hE (text := "the second half is in use") (by decide) dX1_halve_66 dX1_halve_69 dX1_halve_70 dX1_halve_72 dX1_halve_75 ⟨Nat.le_of_ble_eq_true rfl, Nat.le_of_ble_eq_true rfl, Nat.le_of_ble_eq_true rfl, Nat.le_of_ble_eq_true rfl⟩ ⟨Nat.le_of_ble_eq_true rfl, Nat.le_of_ble_eq_true rfl⟩ ?_
            exact dEx_of (c := 3) (by rw [if_neg (by omega), if_neg (by omega)]) (by decide) rfl
      · refine g_throw_3 (pc := 32) C hE (text := "the whole, or a single address") (by decide) dX1_halve_32 dX1_halve_35 dX1_halve_36 dX1_halve_38 dX1_halve_41 ⟨Nat.le_of_ble_eq_true rfl, Nat.le_of_ble_eq_true rfl, Nat.le_of_ble_eq_true rfl, Nat.le_of_ble_eq_true rfl⟩ ⟨Nat.le_of_ble_eq_true rfl, Nat.le_of_ble_eq_true rfl⟩ ?_
        exact dEx_of (c := 3) (by rw [if_neg (by omega), if_neg (by omega)]) (by decide) rfl
theorem lwf_bd (f : Nat → Int) (s n : Nat) : lwf f s n = -1 ∨ ((s : Int) ≤ lwf f s n ∧ lwf f s n < (s : Int) + n) := by
  induction n with
  | zero => exact Or.inl rfl
  | succ n ih =>
    unfold lwf
    split
    · omega
    · split <;> omega
noncomputable def lwC (T : MT) (x : Int) : Int := hid (lwf (T 2) (T 15 x.toNat).toNat (T 16 x.toNat).toNat)
theorem lwC_eq (T : MT) (x : Int) : lwC T x = lwf (T 2) (T 15 x.toNat).toNat (T 16 x.toNat).toNat := hid_eq _
theorem k_X1_lend {l : Launch} {cs : CSt} {np : Nat} {ad : Nat → Nat} {T : MT} (hV : VC np T) (hA : VA T) (a d : Int) (ha : -2147483648 ≤ a ∧ a < 2147483648) (hd : -2147483648 ≤ d ∧ d < 2147483648) : KD l cs yX1_lend (Cond.code yX1_lend cX1_lend 5 (some .int) :: GW) 7 8 48 [.ref (ad 0), .int (zI a), .int (zI d)] np ad T (if fsp T a < 0 then 1 else if ¬ (0 ≤ d ∧ d ≤ 100) then 2 else if T 0 4 < 200 ∧ ¬ cntC T a (T 15 a.toNat) (T 16 a.toNat) 60 > 0 ∧ 0 ≤ lwC T a then 0 else 3) (some (.int (zI (lwC T a)))) (np, ad, mst (mst T 2 (lwC T a).toNat (if d = 0 then -1 else T 0 5 + d)) 0 4 (T 0 4 + 1)) := by
  have hV0 := hV.1
  have hA0 := hA.1
  refine KC_of (cc := cX1_lend) (nL := 5) (rt := (some .int)) (by decide) (by simp [grf_cat, cat_int, cat_ref]) (by simp) ?_
  intro p e s m args below meth c A C hE hin
  refine g_eq (lv2 := [some (.ref (ad 0)), some (.int (zI a)), some (.int (zI d)), none, none]) rfl rfl rfl ?_
  refine g_aload_0 (pc := 0) C dX1_lend_0 ?_
  refine g_iload_1 (pc := 1) C dX1_lend_1 ?_
  refine g_cY1Dv (pc := 2) C hE cs_X1_43 (k_X1_spanOf a (by omega) ha) ⟨Nat.le_of_ble_eq_true rfl, Nat.le_of_ble_eq_true rfl⟩ (by omega) (Nat.le_of_ble_eq_true rfl) ⟨Nat.le_of_ble_eq_true rfl, Nat.le_of_ble_eq_true rfl⟩ ⟨Nat.le_of_ble_eq_true rfl, Nat.le_of_ble_eq_true rfl⟩ (fun hx2 => ?_) dX1_lend_2 (fun hn2 => ?_)
  · have h2 := exq_ne hx2
    exact dEx_of (c := 1) (by rw [if_pos (by omega)]) (by decide) (by rw [exq_f h2])
  · have h2 := exq_eq hn2 (by decide)
    rcases fsp_or T a with ⟨q1, q2⟩ | ⟨q1, q2⟩
    · omega
    have hV1 := hV.s q2
    rw [q1]
    have hcb := cntC_bd T a (T 15 a.toNat) (T 16 a.toNat) 60
    have hlb : -1 ≤ lwC T a ∧ lwC T a < 4096 := by
      rw [lwC_eq]
      have := lwf_bd (T 2) (T 15 a.toNat).toNat (T 16 a.toNat).toNat
      omega
    refine g_sstore_3 (pc := 5) C dX1_lend_5 ?_
    refine g_iload_2 (pc := 6) C dX1_lend_6 ?_
    refine g_if_lt (pc := 7) (tgt := 16) C dX1_lend_7 (by decide) (by omega) (fun h7 => ?_) (fun h7 => ?_)
    · refine g_throw_2 (pc := 16) C hE (text := "the days are not 0 to 100") (by decide) dX1_lend_16 dX1_lend_19 dX1_lend_20 dX1_lend_22 dX1_lend_25 ⟨Nat.le_of_ble_eq_true rfl, Nat.le_of_ble_eq_true rfl, Nat.le_of_ble_eq_true rfl, Nat.le_of_ble_eq_true rfl⟩ ⟨Nat.le_of_ble_eq_true rfl, Nat.le_of_ble_eq_true rfl⟩ ?_
      exact dEx_of (c := 2) (by rw [if_neg (by omega), if_pos (by omega)]) (by decide) rfl
    · refine g_iload_2 (pc := 10) C dX1_lend_10 ?_
      refine g_bipush (pc := 11) C dX1_lend_11 (by decide) ?_
      refine g_icmp_le (pc := 13) (tgt := 26) C dX1_lend_13 (by decide) (by omega) (by omega) (fun h13 => ?_) (fun h13 => ?_)
      · refine g_aload_0 (pc := 26) C dX1_lend_26 ?_
        refine g_get_X1_30 (pc := 27) C (by omega) dX1_lend_27 ?_
        refine g_sipush (pc := 30) C dX1_lend_30 (by decide) ?_
        refine g_icmp_ge (pc := 33) (tgt := 44) C dX1_lend_33 (by decide) (by omega) (by omega) (fun h33 => ?_) (fun h33 => ?_)
        · refine g_throw_3 (pc := 44) C hE (text := "200 are lent, or there are spans in the span") (by decide) dX1_lend_44 dX1_lend_47 dX1_lend_48 dX1_lend_50 dX1_lend_53 ⟨Nat.le_of_ble_eq_true rfl, Nat.le_of_ble_eq_true rfl, Nat.le_of_ble_eq_true rfl, Nat.le_of_ble_eq_true rfl⟩ ⟨Nat.le_of_ble_eq_true rfl, Nat.le_of_ble_eq_true rfl⟩ ?_
          exact dEx_of (c := 3) (by rw [if_neg (by omega), if_neg (by omega), if_neg (by omega)]) (by decide) rfl
        · refine g_aload_0 (pc := 36) C dX1_lend_36 ?_
          refine g_sload_3 (pc := 37) C dX1_lend_37 ?_
          refine g_cY1Pv (pc := 38) C cs_X1_97 (k_X1_hasChildren hV a q2) ⟨Nat.le_of_ble_eq_true rfl, Nat.le_of_ble_eq_true rfl⟩ (by omega) (Nat.le_of_ble_eq_true rfl) ⟨Nat.le_of_ble_eq_true rfl, Nat.le_of_ble_eq_true rfl⟩ dX1_lend_38 ?_
          refine g_if_eq (pc := 41) (tgt := 54) C dX1_lend_41 (by decide) (by split <;> omega) (fun h41 => ?_) (fun h41 => ?_)
          · have h42 : ¬ cntC T a (T 15 a.toNat) (T 16 a.toNat) 60 > 0 := by split at h41 <;> omega
            refine g_aload_0 (pc := 54) C dX1_lend_54 ?_
            refine g_sload_3 (pc := 55) C dX1_lend_55 ?_
            refine g_cY1Pv (pc := 56) C cs_X1_132 (k_X1_lowestFree hV hA a q2) ⟨Nat.le_of_ble_eq_true rfl, Nat.le_of_ble_eq_true rfl⟩ (by omega) (Nat.le_of_ble_eq_true rfl) ⟨Nat.le_of_ble_eq_true rfl, Nat.le_of_ble_eq_true rfl⟩ dX1_lend_56 ?_
            rw [← lwC_eq]
            refine g_istore_4 (pc := 59) C dX1_lend_59 ?_
            refine g_iload_4 (pc := 61) C dX1_lend_61 ?_
            refine g_cT1Pv (pc := 63) C cs_X1_136 (k_X1_isAddress _ (by omega)) ⟨Nat.le_of_ble_eq_true rfl, Nat.le_of_ble_eq_true rfl⟩ (Nat.le_of_ble_eq_true rfl) ⟨Nat.le_of_ble_eq_true rfl, Nat.le_of_ble_eq_true rfl⟩ dX1_lend_63 ?_
            refine g_if_ne (pc := 66) (tgt := 79) C dX1_lend_66 (by decide) (by split <;> omega) (fun h66 => ?_) (fun h66 => ?_)
            · have h67 : 0 ≤ lwC T a := by split at h66 <;> omega
              refine g_aload_0 (pc := 79) C dX1_lend_79 ?_
              refine g_get_X1_26 (pc := 80) C (by omega) dX1_lend_80 ?_
              refine g_iload_4 (pc := 83) C dX1_lend_83 ?_
              refine g_iload_2 (pc := 85) C dX1_lend_85 ?_
              refine g_if_ne (pc := 86) (tgt := 93) C dX1_lend_86 (by decide) (by omega) (fun h86 => ?_) (fun h86 => ?_)
              · refine g_aload_0 (pc := 93) C dX1_lend_93 ?_
                refine g_get_X1_33 (pc := 94) C (by omega) dX1_lend_94 ?_
                refine g_iload_2 (pc := 97) C dX1_lend_97 ?_
                refine g_iadd (pc := 98) C dX1_lend_98 ?_
                first | refine g_astn_2 (pc := 99) C (by omega) (by omega) dX1_lend_99 ?_ | refine g_ast_2 (pc := 99) C (by omega) (by omega) dX1_lend_99 ?_
                refine g_aload_0 (pc := 100) C dX1_lend_100 ?_
                refine g_dup (pc := 101) C dX1_lend_101 rfl ?_
                refine g_get_X1_30 (pc := 102) C (by omega) dX1_lend_102 ?_
                rw [mst_r (by decide)]
                refine g_iconst (pc := 105) C dX1_lend_105 ?_
                refine g_iadd (pc := 106) C dX1_lend_106 ?_
                refine g_put_X1_30 (pc := 107) C (by omega) dX1_lend_107 ?_
                refine g_iload_4 (pc := 110) C dX1_lend_110 ?_
                refine g_iret (pc := 112) C (Nat.le_of_ble_eq_true rfl) (Nat.le_of_ble_eq_true rfl) dX1_lend_112 ?_
                exact ⟨by rw [if_neg (by omega), if_neg (by omega), if_pos (by omega)], rfl, by rw [if_neg h86]⟩
              · refine g_iconst (pc := 89) C dX1_lend_89 ?_
                refine g_goto (pc := 90) (tgt := 99) C dX1_lend_90 (by decide) ?_
                first | refine g_astn_2 (pc := 99) C (by omega) (by omega) dX1_lend_99 ?_ | refine g_ast_2 (pc := 99) C (by omega) (by omega) dX1_lend_99 ?_
                refine g_aload_0 (pc := 100) C dX1_lend_100 ?_
                refine g_dup (pc := 101) C dX1_lend_101 rfl ?_
                refine g_get_X1_30 (pc := 102) C (by omega) dX1_lend_102 ?_
                rw [mst_r (by decide)]
                refine g_iconst (pc := 105) C dX1_lend_105 ?_
                refine g_iadd (pc := 106) C dX1_lend_106 ?_
                refine g_put_X1_30 (pc := 107) C (by omega) dX1_lend_107 ?_
                refine g_iload_4 (pc := 110) C dX1_lend_110 ?_
                refine g_iret (pc := 112) C (Nat.le_of_ble_eq_true rfl) (Nat.le_of_ble_eq_true rfl) dX1_lend_112 ?_
                exact ⟨by rw [if_neg (by omega), if_neg (by omega), if_pos (by omega)], rfl, by rw [if_pos h86]⟩
            · have h67 : ¬ 0 ≤ lwC T a := by split at h66 <;> omega
              refine g_throw_3 (pc := 69) C hE (text := "no address of the span is free") (by decide) dX1_lend_69 dX1_lend_72 dX1_lend_73 dX1_lend_75 dX1_lend_78 ⟨Nat.le_of_ble_eq_true rfl, Nat.le_of_ble_eq_true rfl, Nat.le_of_ble_eq_true rfl, Nat.le_of_ble_eq_true rfl⟩ ⟨Nat.le_of_ble_eq_true rfl, Nat.le_of_ble_eq_true rfl⟩ ?_
              exact dEx_of (c := 3) (by rw [if_neg (by omega), if_neg (by omega), if_neg (by omega)]) (by decide) rfl
          · have h42 : cntC T a (T 15 a.toNat) (T 16 a.toNat) 60 > 0 := by split at h41 <;> omega
            refine g_throw_3 (pc := 44) C hE (text := "200 are lent, or there are spans in the span") (by decide) dX1_lend_44 dX1_lend_47 dX1_lend_48 dX1_lend_50 dX1_lend_53 ⟨Nat.le_of_ble_eq_true rfl, Nat.le_of_ble_eq_true rfl, Nat.le_of_ble_eq_true rfl, Nat.le_of_ble_eq_true rfl⟩ ⟨Nat.le_of_ble_eq_true rfl, Nat.le_of_ble_eq_true rfl⟩ ?_
            exact dEx_of (c := 3) (by rw [if_neg (by omega), if_neg (by omega), if_neg (by omega)]) (by decide) rfl
      · refine g_throw_2 (pc := 16) C hE (text := "the days are not 0 to 100") (by decide) dX1_lend_16 dX1_lend_19 dX1_lend_20 dX1_lend_22 dX1_lend_25 ⟨Nat.le_of_ble_eq_true rfl, Nat.le_of_ble_eq_true rfl, Nat.le_of_ble_eq_true rfl, Nat.le_of_ble_eq_true rfl⟩ ⟨Nat.le_of_ble_eq_true rfl, Nat.le_of_ble_eq_true rfl⟩ ?_
        exact dEx_of (c := 2) (by rw [if_neg (by omega), if_pos (by omega)]) (by decide) rfl
end
section
theorem chB_bd {np : Nat} {T : MT} (hV : VC np T) {x : Int} (hx : isS T x) (S : Int) (lst : Bool) : -1 ≤ chB T x S lst ∧ chB T x S lst ≤ 4096 := by
  rw [chB_eq]
  exact ⟨(cbI_bd hV hx S lst 4096).1, (cbI_bd hV hx S lst 4096).2.1⟩
noncomputable def cvB (T : MT) (a S w : Int) : Int := if w = 2 ∧ S < roomC T a (chB T a S (decide (w = 0))) then chB T a S (decide (w = 0)) + roomC T a (chB T a S (decide (w = 0))) / 2 else chB T a S (decide (w = 0))
noncomputable def exCv (T : MT) (a S o w : Int) : Nat := if fsp T a < 0 then 1 else if ¬ (szp S ∧ (0 ≤ o ∧ o < 8) ∧ (0 ≤ w ∧ w ≤ 2)) then 2 else if T 0 2 < 60 ∧ S < T 16 a.toNat ∧ liiC T a ≤ 0 ∧ chB T a S (decide (w = 0)) ≠ -1 then 0 else 3
theorem k_X1_carve {l : Launch} {cs : CSt} {np : Nat} {ad : Nat → Nat} {T : MT} (hV : VC np T) (hA : VA T) (hP : VP T) (a S o w : Int) (ha : -2147483648 ≤ a ∧ a < 2147483648) (hS : -2147483648 ≤ S ∧ S < 2147483648) (ho : -2147483648 ≤ o ∧ o < 2147483648) (hw0 : -2147483648 ≤ w ∧ w < 2147483648) : KC l cs yX1_carve (Cond.code yX1_carve cX1_carve 9 (some .int) :: GW) 7 8 48 [.ref (ad 0), .int (zI a), .int (zI S), .int (zI o), .int (zI w)] np ad T (fun v u => exCv T a S o w = 0 ∧ v = some (.int (zI (T 0 2))) ∧ ∃ q, u = (np + 1, va_up ad np q, mkT T (T 0 2).toNat a (cvB T a S w) S o)) (dEx (exCv T a S o w) (np, ad, T)) := by
  have hV0 := hV.1
  refine KC_of (cc := cX1_carve) (nL := 9) (rt := (some .int)) (by decide) (by simp [grf_cat, cat_int, cat_ref]) (by simp) ?_
  intro p e s m args below meth c A C hE hin
  refine g_eq (lv2 := [some (.ref (ad 0)), some (.int (zI a)), some (.int (zI S)), some (.int (zI o)), some (.int (zI w)), none, none, none, none]) rfl rfl rfl ?_
  refine g_aload_0 (pc := 0) C dX1_carve_0 ?_
  refine g_iload_1 (pc := 1) C dX1_carve_1 ?_
  refine g_cY1Dv (pc := 2) C hE cs_X1_43 (k_X1_spanOf a (by omega) ha) ⟨Nat.le_of_ble_eq_true rfl, Nat.le_of_ble_eq_true rfl⟩ (by omega) (Nat.le_of_ble_eq_true rfl) ⟨Nat.le_of_ble_eq_true rfl, Nat.le_of_ble_eq_true rfl⟩ ⟨Nat.le_of_ble_eq_true rfl, Nat.le_of_ble_eq_true rfl⟩ (fun hx2 => ?_) dX1_carve_2 (fun hn2 => ?_)
  · have h2 := exq_ne hx2
    exact dEx_of (c := 1) (by rw [exCv, if_pos (by omega)]) (by decide) (by rw [exq_f h2])
  · have h2 := exq_eq hn2 (by decide)
    rcases fsp_or T a with ⟨q1, q2⟩ | ⟨q1, q2⟩
    · omega
    have hV1 := hV.s q2
    rw [q1]
    refine g_sstore_5 (pc := 5) C dX1_carve_5 ?_
    refine g_iload_2 (pc := 7) C dX1_carve_7 ?_
    refine g_cT1Dn (pc := 8) C hE cs_X1_47 (k_X1_checkSize S hS) ⟨Nat.le_of_ble_eq_true rfl, Nat.le_of_ble_eq_true rfl⟩ (Nat.le_of_ble_eq_true rfl) ⟨Nat.le_of_ble_eq_true rfl, Nat.le_of_ble_eq_true rfl⟩ ⟨Nat.le_of_ble_eq_true rfl, Nat.le_of_ble_eq_true rfl⟩ (fun hx8 => ?_) dX1_carve_8 (fun hn8 => ?_)
    · exact dEx_of (c := 2) (by rw [exCv, if_neg (by omega), if_pos (fun h => exq_ne hx8 h.1)]) (by decide) (by rw [exq_f (exq_ne hx8)])
    · have hs := exq_eq hn8 (by decide)
      have hsb := szp_bd hs
      refine g_iload_3 (pc := 11) C dX1_carve_11 ?_
      refine g_cT1Dn (pc := 12) C hE cs_X1_51 (k_X1_checkOwner o ho) ⟨Nat.le_of_ble_eq_true rfl, Nat.le_of_ble_eq_true rfl⟩ (Nat.le_of_ble_eq_true rfl) ⟨Nat.le_of_ble_eq_true rfl, Nat.le_of_ble_eq_true rfl⟩ ⟨Nat.le_of_ble_eq_true rfl, Nat.le_of_ble_eq_true rfl⟩ (fun hx12 => ?_) dX1_carve_12 (fun hn12 => ?_)
      · exact dEx_of (c := 2) (by rw [exCv, if_neg (by omega), if_pos (fun h => exq_ne hx12 h.2.1)]) (by decide) (by rw [exq_f (exq_ne hx12)])
      · have ho1 := exq_eq hn12 (by decide)
        refine g_iload_4 (pc := 15) C dX1_carve_15 ?_
        refine g_if_lt (pc := 17) (tgt := 26) C dX1_carve_17 (by decide) (by omega) (fun h17 => ?_) (fun h17 => ?_)
        · refine g_throw_2 (pc := 26) C hE (text := "the way is not 0 to 2") (by decide) dX1_carve_26 dX1_carve_29 dX1_carve_30 dX1_carve_32 dX1_carve_35 ⟨Nat.le_of_ble_eq_true rfl, Nat.le_of_ble_eq_true rfl, Nat.le_of_ble_eq_true rfl, Nat.le_of_ble_eq_true rfl⟩ ⟨Nat.le_of_ble_eq_true rfl, Nat.le_of_ble_eq_true rfl⟩ ?_
          exact dEx_of (c := 2) (by rw [exCv, if_neg (by omega), if_pos (fun h => by have := h.2.2; omega)]) (by decide) rfl
        · refine g_iload_4 (pc := 20) C dX1_carve_20 ?_
          refine g_iconst (pc := 22) C dX1_carve_22 ?_
          refine g_icmp_le (pc := 23) (tgt := 36) C dX1_carve_23 (by decide) (by omega) (by omega) (fun h23 => ?_) (fun h23 => ?_)
          · have hw : 0 ≤ w ∧ w ≤ 2 := by omega
            refine g_aload_0 (pc := 36) C dX1_carve_36 ?_
            refine g_sload_5 (pc := 37) C dX1_carve_37 ?_
            refine g_iload_2 (pc := 39) C dX1_carve_39 ?_
            refine g_cY2Dn (pc := 40) C hE cs_X1_61 (k_X1_checkCarving hV hA a S q2 hS) ⟨Nat.le_of_ble_eq_true rfl, Nat.le_of_ble_eq_true rfl⟩ (by omega) (Nat.le_of_ble_eq_true rfl) ⟨Nat.le_of_ble_eq_true rfl, Nat.le_of_ble_eq_true rfl⟩ ⟨Nat.le_of_ble_eq_true rfl, Nat.le_of_ble_eq_true rfl⟩ (fun hx40 => ?_) dX1_carve_40 (fun hn40 => ?_)
            · exact dEx_of (c := 3) (by rw [exCv, if_neg (by omega), if_neg (fun h => h ⟨hs, ho1, hw⟩), if_neg (fun h => exq_ne hx40 ⟨h.1, h.2.1, h.2.2.1⟩)]) (by decide) (by rw [exq_f (exq_ne hx40)])
            · have h3 := exq_eq hn40 (by decide)
              refine g_aload_0 (pc := 43) C dX1_carve_43 ?_
              refine g_sload_5 (pc := 44) C dX1_carve_44 ?_
              refine g_iload_2 (pc := 46) C dX1_carve_46 ?_
              refine g_iload_4 (pc := 47) C dX1_carve_47 ?_
              refine g_if_ne (pc := 49) (tgt := 56) C dX1_carve_49 (by decide) (by omega) (fun h49 => ?_) (fun h49 => ?_)
              · have hlw : decide (w = 0) = false := by simp; exact h49
                have hcb : -1 ≤ chB T a S false ∧ chB T a S false ≤ 4096 ∧ (chB T a S false ≠ -1 → 0 ≤ chB T a S false) := by have := chB_bd hV q2 S false; omega
                refine g_iconst (pc := 56) C dX1_carve_56 ?_
                refine g_cY3Pv (pc := 57) C cs_X1_65 (k_X1_chosenBlock hV a S false q2 (by omega)) ⟨Nat.le_of_ble_eq_true rfl, Nat.le_of_ble_eq_true rfl⟩ (by omega) (Nat.le_of_ble_eq_true rfl) ⟨Nat.le_of_ble_eq_true rfl, Nat.le_of_ble_eq_true rfl⟩ dX1_carve_57 ?_
                refine g_istore_6 (pc := 60) C dX1_carve_60 ?_
                refine g_iload_6 (pc := 62) C dX1_carve_62 ?_
                refine g_iconst (pc := 64) C dX1_carve_64 ?_
                refine g_icmp_ne (pc := 65) (tgt := 78) C dX1_carve_65 (by decide) (by omega) (by omega) (fun h65 => ?_) (fun h65 => ?_)
                · have h65 : chB T a S (decide (w = 0)) ≠ -1 := by rw [hlw]; assumption
                  have hrm := roomC_b2 T a (chB T a S false)
                  refine g_aload_0 (pc := 78) C dX1_carve_78 ?_
                  refine g_sload_5 (pc := 79) C dX1_carve_79 ?_
                  refine g_iload_6 (pc := 81) C dX1_carve_81 ?_
                  refine g_cY2Pv (pc := 83) C cs_X1_74 (k_X1_roomAt hV a _ q2 (by omega)) ⟨Nat.le_of_ble_eq_true rfl, Nat.le_of_ble_eq_true rfl⟩ (by omega) (Nat.le_of_ble_eq_true rfl) ⟨Nat.le_of_ble_eq_true rfl, Nat.le_of_ble_eq_true rfl⟩ dX1_carve_83 ?_
                  refine g_istore_7 (pc := 86) C dX1_carve_86 ?_
                  refine g_iload_4 (pc := 88) C dX1_carve_88 ?_
                  refine g_iconst (pc := 90) C dX1_carve_90 ?_
                  refine g_icmp_ne (pc := 91) (tgt := 110) C dX1_carve_91 (by decide) (by omega) (by omega) (fun h91 => ?_) (fun h91 => ?_)
                  · refine g_iload_6 (pc := 110) C dX1_carve_110 ?_
                    refine g_istore_8 (pc := 112) C dX1_carve_112 ?_
                    refine g_aload_0 (pc := 114) C dX1_carve_114 ?_
                    refine g_sload_5 (pc := 115) C dX1_carve_115 ?_
                    refine g_iload_8 (pc := 117) C dX1_carve_117 ?_
                    refine g_iload_2 (pc := 119) C dX1_carve_119 ?_
                    refine g_iload_3 (pc := 120) C dX1_carve_120 ?_
                    rw [show chB T a S false = cvB T a S w by rw [cvB, if_neg (by omega), hlw]]
                    refine g_call0 C (g_runV (pc := 121) C (ci := 1) (q := 0) (Cn := RX1) (TT := TX1) (N := 8) (As := [grf ad a, .int (zI (cvB T a S w)), .int (zI S), .int (zI o)]) (rest := []) (k_X1_makeSpan hV hP a (cvB T a S w) S o (by omega)) cs_X1_78.1 cs_X1_78.2 ⟨Nat.le_of_ble_eq_true rfl, Nat.le_of_ble_eq_true rfl⟩ (by omega) rfl rfl (Nat.le_of_ble_eq_true rfl) ⟨Nat.le_of_ble_eq_true rfl, Nat.le_of_ble_eq_true rfl⟩ dX1_carve_121) (g_pass C hE (fun E u h => absurd h3.1 h.1) (Nat.le_of_ble_eq_true rfl) (Nat.le_of_ble_eq_true rfl)) (fun v u h => ?_)
                    obtain ⟨-, rfl, q, rfl⟩ := h
                    refine g_eq (st2 := [.int (zI (T 0 2))]) rfl rfl rfl ?_
                    refine g_iret (pc := 124) C (Nat.le_of_ble_eq_true rfl) (Nat.le_of_ble_eq_true rfl) dX1_carve_124 ?_
                    exact ⟨by rw [exCv, if_neg (by omega), if_neg (fun h => h ⟨hs, ho1, hw⟩), if_pos ⟨h3.1, h3.2.1, h3.2.2, h65⟩], rfl, q, rfl⟩
                  · refine g_iload_7 (pc := 94) C dX1_carve_94 ?_
                    refine g_iload_2 (pc := 96) C dX1_carve_96 ?_
                    refine g_icmp_le (pc := 97) (tgt := 110) C dX1_carve_97 (by decide) (by omega) (by omega) (fun h97 => ?_) (fun h97 => ?_)
                    · refine g_iload_6 (pc := 110) C dX1_carve_110 ?_
                      refine g_istore_8 (pc := 112) C dX1_carve_112 ?_
                      refine g_aload_0 (pc := 114) C dX1_carve_114 ?_
                      refine g_sload_5 (pc := 115) C dX1_carve_115 ?_
                      refine g_iload_8 (pc := 117) C dX1_carve_117 ?_
                      refine g_iload_2 (pc := 119) C dX1_carve_119 ?_
                      refine g_iload_3 (pc := 120) C dX1_carve_120 ?_
                      rw [show chB T a S false = cvB T a S w by rw [cvB, hlw, if_neg (by omega)]]
                      refine g_call0 C (g_runV (pc := 121) C (ci := 1) (q := 0) (Cn := RX1) (TT := TX1) (N := 8) (As := [grf ad a, .int (zI (cvB T a S w)), .int (zI S), .int (zI o)]) (rest := []) (k_X1_makeSpan hV hP a (cvB T a S w) S o (by omega)) cs_X1_78.1 cs_X1_78.2 ⟨Nat.le_of_ble_eq_true rfl, Nat.le_of_ble_eq_true rfl⟩ (by omega) rfl rfl (Nat.le_of_ble_eq_true rfl) ⟨Nat.le_of_ble_eq_true rfl, Nat.le_of_ble_eq_true rfl⟩ dX1_carve_121) (g_pass C hE (fun E u h => absurd h3.1 h.1) (Nat.le_of_ble_eq_true rfl) (Nat.le_of_ble_eq_true rfl)) (fun v u h => ?_)
                      obtain ⟨-, rfl, q, rfl⟩ := h
                      refine g_eq (st2 := [.int (zI (T 0 2))]) rfl rfl rfl ?_
                      refine g_iret (pc := 124) C (Nat.le_of_ble_eq_true rfl) (Nat.le_of_ble_eq_true rfl) dX1_carve_124 ?_
                      exact ⟨by rw [exCv, if_neg (by omega), if_neg (fun h => h ⟨hs, ho1, hw⟩), if_pos ⟨h3.1, h3.2.1, h3.2.2, h65⟩], rfl, q, rfl⟩
                    · refine g_iload_6 (pc := 100) C dX1_carve_100 ?_
                      refine g_iload_7 (pc := 102) C dX1_carve_102 ?_
                      refine g_iconst (pc := 104) C dX1_carve_104 ?_
                      refine g_idiv (pc := 105) C dX1_carve_105 (by omega) (by omega) ?_
                      refine g_iadd (pc := 106) C dX1_carve_106 ?_
                      refine g_goto (pc := 107) (tgt := 112) C dX1_carve_107 (by decide) ?_
                      refine g_istore_8 (pc := 112) C dX1_carve_112 ?_
                      refine g_aload_0 (pc := 114) C dX1_carve_114 ?_
                      refine g_sload_5 (pc := 115) C dX1_carve_115 ?_
                      refine g_iload_8 (pc := 117) C dX1_carve_117 ?_
                      refine g_iload_2 (pc := 119) C dX1_carve_119 ?_
                      refine g_iload_3 (pc := 120) C dX1_carve_120 ?_
                      rw [show chB T a S false + roomC T a (chB T a S false) / 2 = cvB T a S w by rw [cvB, hlw, if_pos (by omega)]]
                      refine g_call0 C (g_runV (pc := 121) C (ci := 1) (q := 0) (Cn := RX1) (TT := TX1) (N := 8) (As := [grf ad a, .int (zI (cvB T a S w)), .int (zI S), .int (zI o)]) (rest := []) (k_X1_makeSpan hV hP a (cvB T a S w) S o (by omega)) cs_X1_78.1 cs_X1_78.2 ⟨Nat.le_of_ble_eq_true rfl, Nat.le_of_ble_eq_true rfl⟩ (by omega) rfl rfl (Nat.le_of_ble_eq_true rfl) ⟨Nat.le_of_ble_eq_true rfl, Nat.le_of_ble_eq_true rfl⟩ dX1_carve_121) (g_pass C hE (fun E u h => absurd h3.1 h.1) (Nat.le_of_ble_eq_true rfl) (Nat.le_of_ble_eq_true rfl)) (fun v u h => ?_)
                      obtain ⟨-, rfl, q, rfl⟩ := h
                      refine g_eq (st2 := [.int (zI (T 0 2))]) rfl rfl rfl ?_
                      refine g_iret (pc := 124) C (Nat.le_of_ble_eq_true rfl) (Nat.le_of_ble_eq_true rfl) dX1_carve_124 ?_
                      exact ⟨by rw [exCv, if_neg (by omega), if_neg (fun h => h ⟨hs, ho1, hw⟩), if_pos ⟨h3.1, h3.2.1, h3.2.2, h65⟩], rfl, q, rfl⟩
                · refine g_throw_3 (pc := 68) C hE (text := "no free block of the size") (by decide) dX1_carve_68 dX1_carve_71 dX1_carve_72 dX1_carve_74 dX1_carve_77 ⟨Nat.le_of_ble_eq_true rfl, Nat.le_of_ble_eq_true rfl, Nat.le_of_ble_eq_true rfl, Nat.le_of_ble_eq_true rfl⟩ ⟨Nat.le_of_ble_eq_true rfl, Nat.le_of_ble_eq_true rfl⟩ ?_
                  exact dEx_of (c := 3) (by rw [exCv, if_neg (by omega), if_neg (fun h => h ⟨hs, ho1, hw⟩), if_neg (fun h => h.2.2.2 (by rw [hlw]; assumption))]) (by decide) rfl
              · have hlw : decide (w = 0) = true := by simp; exact h49
                have hcb : -1 ≤ chB T a S true ∧ chB T a S true ≤ 4096 ∧ (chB T a S true ≠ -1 → 0 ≤ chB T a S true) := by have := chB_bd hV q2 S true; omega
                refine g_iconst (pc := 52) C dX1_carve_52 ?_
                refine g_goto (pc := 53) (tgt := 57) C dX1_carve_53 (by decide) ?_
                refine g_cY3Pv (pc := 57) C cs_X1_65 (k_X1_chosenBlock hV a S true q2 (by omega)) ⟨Nat.le_of_ble_eq_true rfl, Nat.le_of_ble_eq_true rfl⟩ (by omega) (Nat.le_of_ble_eq_true rfl) ⟨Nat.le_of_ble_eq_true rfl, Nat.le_of_ble_eq_true rfl⟩ dX1_carve_57 ?_
                refine g_istore_6 (pc := 60) C dX1_carve_60 ?_
                refine g_iload_6 (pc := 62) C dX1_carve_62 ?_
                refine g_iconst (pc := 64) C dX1_carve_64 ?_
                refine g_icmp_ne (pc := 65) (tgt := 78) C dX1_carve_65 (by decide) (by omega) (by omega) (fun h65 => ?_) (fun h65 => ?_)
                · have h65 : chB T a S (decide (w = 0)) ≠ -1 := by rw [hlw]; assumption
                  have hrm := roomC_b2 T a (chB T a S true)
                  refine g_aload_0 (pc := 78) C dX1_carve_78 ?_
                  refine g_sload_5 (pc := 79) C dX1_carve_79 ?_
                  refine g_iload_6 (pc := 81) C dX1_carve_81 ?_
                  refine g_cY2Pv (pc := 83) C cs_X1_74 (k_X1_roomAt hV a _ q2 (by omega)) ⟨Nat.le_of_ble_eq_true rfl, Nat.le_of_ble_eq_true rfl⟩ (by omega) (Nat.le_of_ble_eq_true rfl) ⟨Nat.le_of_ble_eq_true rfl, Nat.le_of_ble_eq_true rfl⟩ dX1_carve_83 ?_
                  refine g_istore_7 (pc := 86) C dX1_carve_86 ?_
                  refine g_iload_4 (pc := 88) C dX1_carve_88 ?_
                  refine g_iconst (pc := 90) C dX1_carve_90 ?_
                  refine g_icmp_ne (pc := 91) (tgt := 110) C dX1_carve_91 (by decide) (by omega) (by omega) (fun h91 => ?_) (fun h91 => ?_)
                  · refine g_iload_6 (pc := 110) C dX1_carve_110 ?_
                    refine g_istore_8 (pc := 112) C dX1_carve_112 ?_
                    refine g_aload_0 (pc := 114) C dX1_carve_114 ?_
                    refine g_sload_5 (pc := 115) C dX1_carve_115 ?_
                    refine g_iload_8 (pc := 117) C dX1_carve_117 ?_
                    refine g_iload_2 (pc := 119) C dX1_carve_119 ?_
                    refine g_iload_3 (pc := 120) C dX1_carve_120 ?_
                    rw [show chB T a S true = cvB T a S w by rw [cvB, if_neg (by omega), hlw]]
                    refine g_call0 C (g_runV (pc := 121) C (ci := 1) (q := 0) (Cn := RX1) (TT := TX1) (N := 8) (As := [grf ad a, .int (zI (cvB T a S w)), .int (zI S), .int (zI o)]) (rest := []) (k_X1_makeSpan hV hP a (cvB T a S w) S o (by omega)) cs_X1_78.1 cs_X1_78.2 ⟨Nat.le_of_ble_eq_true rfl, Nat.le_of_ble_eq_true rfl⟩ (by omega) rfl rfl (Nat.le_of_ble_eq_true rfl) ⟨Nat.le_of_ble_eq_true rfl, Nat.le_of_ble_eq_true rfl⟩ dX1_carve_121) (g_pass C hE (fun E u h => absurd h3.1 h.1) (Nat.le_of_ble_eq_true rfl) (Nat.le_of_ble_eq_true rfl)) (fun v u h => ?_)
                    obtain ⟨-, rfl, q, rfl⟩ := h
                    refine g_eq (st2 := [.int (zI (T 0 2))]) rfl rfl rfl ?_
                    refine g_iret (pc := 124) C (Nat.le_of_ble_eq_true rfl) (Nat.le_of_ble_eq_true rfl) dX1_carve_124 ?_
                    exact ⟨by rw [exCv, if_neg (by omega), if_neg (fun h => h ⟨hs, ho1, hw⟩), if_pos ⟨h3.1, h3.2.1, h3.2.2, h65⟩], rfl, q, rfl⟩
                  · omega
                · refine g_throw_3 (pc := 68) C hE (text := "no free block of the size") (by decide) dX1_carve_68 dX1_carve_71 dX1_carve_72 dX1_carve_74 dX1_carve_77 ⟨Nat.le_of_ble_eq_true rfl, Nat.le_of_ble_eq_true rfl, Nat.le_of_ble_eq_true rfl, Nat.le_of_ble_eq_true rfl⟩ ⟨Nat.le_of_ble_eq_true rfl, Nat.le_of_ble_eq_true rfl⟩ ?_
                  exact dEx_of (c := 3) (by rw [exCv, if_neg (by omega), if_neg (fun h => h ⟨hs, ho1, hw⟩), if_neg (fun h => h.2.2.2 (by rw [hlw]; assumption))]) (by decide) rfl
          · refine g_throw_2 (pc := 26) C hE (text := "the way is not 0 to 2") (by decide) dX1_carve_26 dX1_carve_29 dX1_carve_30 dX1_carve_32 dX1_carve_35 ⟨Nat.le_of_ble_eq_true rfl, Nat.le_of_ble_eq_true rfl, Nat.le_of_ble_eq_true rfl, Nat.le_of_ble_eq_true rfl⟩ ⟨Nat.le_of_ble_eq_true rfl, Nat.le_of_ble_eq_true rfl⟩ ?_
            exact dEx_of (c := 2) (by rw [exCv, if_neg (by omega), if_pos (fun h => by have := h.2.2; omega)]) (by decide) rfl
noncomputable def exCa (T : MT) (a B S o : Int) : Nat := if fsp T a < 0 then 1 else if ¬ (szp S ∧ (0 ≤ o ∧ o < 8) ∧ (0 ≤ B ∧ B % S = 0)) then 2 else if T 0 2 < 60 ∧ S < T 16 a.toNat ∧ liiC T a ≤ 0 ∧ (T 15 a.toNat ≤ B ∧ B < T 15 a.toNat + T 16 a.toNat) ∧ cntC T a B S 60 ≤ 0 then 0 else 3
theorem k_X1_carveAt {l : Launch} {cs : CSt} {np : Nat} {ad : Nat → Nat} {T : MT} (hV : VC np T) (hA : VA T) (hP : VP T) (a B S o : Int) (ha : -2147483648 ≤ a ∧ a < 2147483648) (hB : -2147483648 ≤ B ∧ B < 2147483648) (hS : -2147483648 ≤ S ∧ S < 2147483648) (ho : -2147483648 ≤ o ∧ o < 2147483648) : KC l cs yX1_carveAt (Cond.code yX1_carveAt cX1_carveAt 6 (some .int) :: GW) 7 8 48 [.ref (ad 0), .int (zI a), .int (zI B), .int (zI S), .int (zI o)] np ad T (fun v u => exCa T a B S o = 0 ∧ v = some (.int (zI (T 0 2))) ∧ ∃ q, u = (np + 1, va_up ad np q, mkT T (T 0 2).toNat a B S o)) (dEx (exCa T a B S o) (np, ad, T)) := by
  have hV0 := hV.1
  refine KC_of (cc := cX1_carveAt) (nL := 6) (rt := (some .int)) (by decide) (by simp [grf_cat, cat_int, cat_ref]) (by simp) ?_
  intro p e s m args below meth c A C hE hin
  refine g_eq (lv2 := [some (.ref (ad 0)), some (.int (zI a)), some (.int (zI B)), some (.int (zI S)), some (.int (zI o)), none]) rfl rfl rfl ?_
  refine g_aload_0 (pc := 0) C dX1_carveAt_0 ?_
  refine g_iload_1 (pc := 1) C dX1_carveAt_1 ?_
  refine g_cY1Dv (pc := 2) C hE cs_X1_43 (k_X1_spanOf a (by omega) ha) ⟨Nat.le_of_ble_eq_true rfl, Nat.le_of_ble_eq_true rfl⟩ (by omega) (Nat.le_of_ble_eq_true rfl) ⟨Nat.le_of_ble_eq_true rfl, Nat.le_of_ble_eq_true rfl⟩ ⟨Nat.le_of_ble_eq_true rfl, Nat.le_of_ble_eq_true rfl⟩ (fun hx2 => ?_) dX1_carveAt_2 (fun hn2 => ?_)
  · have h2 := exq_ne hx2
    exact dEx_of (c := 1) (by rw [exCa, if_pos (by omega)]) (by decide) (by rw [exq_f h2])
  · have h2 := exq_eq hn2 (by decide)
    rcases fsp_or T a with ⟨q1, q2⟩ | ⟨q1, q2⟩
    · omega
    have hV1 := hV.s q2
    rw [q1]
    refine g_sstore_5 (pc := 5) C dX1_carveAt_5 ?_
    refine g_iload_3 (pc := 7) C dX1_carveAt_7 ?_
    refine g_cT1Dn (pc := 8) C hE cs_X1_47 (k_X1_checkSize S hS) ⟨Nat.le_of_ble_eq_true rfl, Nat.le_of_ble_eq_true rfl⟩ (Nat.le_of_ble_eq_true rfl) ⟨Nat.le_of_ble_eq_true rfl, Nat.le_of_ble_eq_true rfl⟩ ⟨Nat.le_of_ble_eq_true rfl, Nat.le_of_ble_eq_true rfl⟩ (fun hx8 => ?_) dX1_carveAt_8 (fun hn8 => ?_)
    · exact dEx_of (c := 2) (by rw [exCa, if_neg (by omega), if_pos (fun h => exq_ne hx8 h.1)]) (by decide) (by rw [exq_f (exq_ne hx8)])
    · have hs := exq_eq hn8 (by decide)
      have hsb := szp_bd hs
      refine g_iload_4 (pc := 11) C dX1_carveAt_11 ?_
      refine g_cT1Dn (pc := 13) C hE cs_X1_51 (k_X1_checkOwner o ho) ⟨Nat.le_of_ble_eq_true rfl, Nat.le_of_ble_eq_true rfl⟩ (Nat.le_of_ble_eq_true rfl) ⟨Nat.le_of_ble_eq_true rfl, Nat.le_of_ble_eq_true rfl⟩ ⟨Nat.le_of_ble_eq_true rfl, Nat.le_of_ble_eq_true rfl⟩ (fun hx13 => ?_) dX1_carveAt_13 (fun hn13 => ?_)
      · exact dEx_of (c := 2) (by rw [exCa, if_neg (by omega), if_pos (fun h => exq_ne hx13 h.2.1)]) (by decide) (by rw [exq_f (exq_ne hx13)])
      · have ho1 := exq_eq hn13 (by decide)
        refine g_iload_2 (pc := 16) C dX1_carveAt_16 ?_
        refine g_if_lt (pc := 17) (tgt := 28) C dX1_carveAt_17 (by decide) (by omega) (fun h17 => ?_) (fun h17 => ?_)
        · refine g_throw_2 (pc := 28) C hE (text := "the base is below 0 or no multiple of the size") (by decide) dX1_carveAt_28 dX1_carveAt_31 dX1_carveAt_32 dX1_carveAt_34 dX1_carveAt_37 ⟨Nat.le_of_ble_eq_true rfl, Nat.le_of_ble_eq_true rfl, Nat.le_of_ble_eq_true rfl, Nat.le_of_ble_eq_true rfl⟩ ⟨Nat.le_of_ble_eq_true rfl, Nat.le_of_ble_eq_true rfl⟩ ?_
          exact dEx_of (c := 2) (by rw [exCa, if_neg (by omega), if_pos (fun h => by have := h.2.2; omega)]) (by decide) rfl
        · have hm := Int.emod_nonneg B (b := S) (by omega)
          have hm2 := Int.emod_lt_of_pos B (b := S) (by omega)
          refine g_iload_2 (pc := 20) C dX1_carveAt_20 ?_
          refine g_iload_3 (pc := 21) C dX1_carveAt_21 ?_
          refine g_iconst (pc := 22) C dX1_carveAt_22 ?_
          refine g_isub (pc := 23) C dX1_carveAt_23 ?_
          refine g_iandz (pc := 24) C dX1_carveAt_24 (szp_mod (by omega) hs) ?_
          refine g_if_eq (pc := 25) (tgt := 38) C dX1_carveAt_25 (by decide) (by omega) (fun h25 => ?_) (fun h25 => ?_)
          · have hw : 0 ≤ B ∧ B % S = 0 := by omega
            have hcb := cntC_bd T a B S 60
            refine g_aload_0 (pc := 38) C dX1_carveAt_38 ?_
            refine g_sload_5 (pc := 39) C dX1_carveAt_39 ?_
            refine g_iload_3 (pc := 41) C dX1_carveAt_41 ?_
            refine g_cY2Dn (pc := 42) C hE cs_X1_61 (k_X1_checkCarving hV hA a S q2 hS) ⟨Nat.le_of_ble_eq_true rfl, Nat.le_of_ble_eq_true rfl⟩ (by omega) (Nat.le_of_ble_eq_true rfl) ⟨Nat.le_of_ble_eq_true rfl, Nat.le_of_ble_eq_true rfl⟩ ⟨Nat.le_of_ble_eq_true rfl, Nat.le_of_ble_eq_true rfl⟩ (fun hx42 => ?_) dX1_carveAt_42 (fun hn42 => ?_)
            · exact dEx_of (c := 3) (by rw [exCa, if_neg (by omega), if_neg (fun h => h ⟨hs, ho1, hw⟩), if_neg (fun h => exq_ne hx42 ⟨h.1, h.2.1, h.2.2.1⟩)]) (by decide) (by rw [exq_f (exq_ne hx42)])
            · have h3 := exq_eq hn42 (by decide)
              refine g_sload_5 (pc := 45) C dX1_carveAt_45 ?_
              refine g_iload_2 (pc := 47) C dX1_carveAt_47 ?_
              refine g_cS1Pv (pc := 48) C cs_X1_84 (k_X0_has a B (by omega) (by omega) hB) ⟨Nat.le_of_ble_eq_true rfl, Nat.le_of_ble_eq_true rfl⟩ (by omega) (Nat.le_of_ble_eq_true rfl) ⟨Nat.le_of_ble_eq_true rfl, Nat.le_of_ble_eq_true rfl⟩ dX1_carveAt_48 ?_
              refine g_if_eq (pc := 51) (tgt := 65) C dX1_carveAt_51 (by decide) (by split <;> omega) (fun h51 => ?_) (fun h51 => ?_)
              · have h52 : ¬ (T 15 a.toNat ≤ B ∧ B < T 15 a.toNat + T 16 a.toNat) := by split at h51 <;> omega
                refine g_throw_3 (pc := 65) C hE (text := "no such free block") (by decide) dX1_carveAt_65 dX1_carveAt_68 dX1_carveAt_69 dX1_carveAt_71 dX1_carveAt_74 ⟨Nat.le_of_ble_eq_true rfl, Nat.le_of_ble_eq_true rfl, Nat.le_of_ble_eq_true rfl, Nat.le_of_ble_eq_true rfl⟩ ⟨Nat.le_of_ble_eq_true rfl, Nat.le_of_ble_eq_true rfl⟩ ?_
                exact dEx_of (c := 3) (by rw [exCa, if_neg (by omega), if_neg (fun h => h ⟨hs, ho1, hw⟩), if_neg (fun h => h52 h.2.2.2.1)]) (by decide) rfl
              · have h52 : (T 15 a.toNat ≤ B ∧ B < T 15 a.toNat + T 16 a.toNat) := by split at h51 <;> omega
                refine g_aload_0 (pc := 54) C dX1_carveAt_54 ?_
                refine g_sload_5 (pc := 55) C dX1_carveAt_55 ?_
                refine g_iload_2 (pc := 57) C dX1_carveAt_57 ?_
                refine g_iload_3 (pc := 58) C dX1_carveAt_58 ?_
                refine g_cY3Pv (pc := 59) C cs_X1_88 (k_X1_countChildren hV a B S (by omega) (by omega)) ⟨Nat.le_of_ble_eq_true rfl, Nat.le_of_ble_eq_true rfl⟩ (by omega) (Nat.le_of_ble_eq_true rfl) ⟨Nat.le_of_ble_eq_true rfl, Nat.le_of_ble_eq_true rfl⟩ dX1_carveAt_59 ?_
                refine g_if_le (pc := 62) (tgt := 75) C dX1_carveAt_62 (by decide) (by omega) (fun h62 => ?_) (fun h62 => ?_)
                · refine g_aload_0 (pc := 75) C dX1_carveAt_75 ?_
                  refine g_sload_5 (pc := 76) C dX1_carveAt_76 ?_
                  refine g_iload_2 (pc := 78) C dX1_carveAt_78 ?_
                  refine g_iload_3 (pc := 79) C dX1_carveAt_79 ?_
                  refine g_iload_4 (pc := 80) C dX1_carveAt_80 ?_
                  refine g_call0 C (g_runV (pc := 82) C (ci := 1) (q := 0) (Cn := RX1) (TT := TX1) (N := 8) (As := [grf ad a, .int (zI B), .int (zI S), .int (zI o)]) (rest := []) (k_X1_makeSpan hV hP a B S o (by omega)) cs_X1_78.1 cs_X1_78.2 ⟨Nat.le_of_ble_eq_true rfl, Nat.le_of_ble_eq_true rfl⟩ (by omega) rfl rfl (Nat.le_of_ble_eq_true rfl) ⟨Nat.le_of_ble_eq_true rfl, Nat.le_of_ble_eq_true rfl⟩ dX1_carveAt_82) (g_pass C hE (fun E u h => absurd h3.1 h.1) (Nat.le_of_ble_eq_true rfl) (Nat.le_of_ble_eq_true rfl)) (fun v u h => ?_)
                  obtain ⟨-, rfl, q, rfl⟩ := h
                  refine g_eq (st2 := [.int (zI (T 0 2))]) rfl rfl rfl ?_
                  refine g_iret (pc := 85) C (Nat.le_of_ble_eq_true rfl) (Nat.le_of_ble_eq_true rfl) dX1_carveAt_85 ?_
                  exact ⟨by rw [exCa, if_neg (by omega), if_neg (fun h => h ⟨hs, ho1, hw⟩), if_pos ⟨h3.1, h3.2.1, h3.2.2, h52, by omega⟩], rfl, q, rfl⟩
                · refine g_throw_3 (pc := 65) C hE (text := "no such free block") (by decide) dX1_carveAt_65 dX1_carveAt_68 dX1_carveAt_69 dX1_carveAt_71 dX1_carveAt_74 ⟨Nat.le_of_ble_eq_true rfl, Nat.le_of_ble_eq_true rfl, Nat.le_of_ble_eq_true rfl, Nat.le_of_ble_eq_true rfl⟩ ⟨Nat.le_of_ble_eq_true rfl, Nat.le_of_ble_eq_true rfl⟩ ?_
                  exact dEx_of (c := 3) (by rw [exCa, if_neg (by omega), if_neg (fun h => h ⟨hs, ho1, hw⟩), if_neg (fun h => by have := h.2.2.2.2; omega)]) (by decide) rfl
          · refine g_throw_2 (pc := 28) C hE (text := "the base is below 0 or no multiple of the size") (by decide) dX1_carveAt_28 dX1_carveAt_31 dX1_carveAt_32 dX1_carveAt_34 dX1_carveAt_37 ⟨Nat.le_of_ble_eq_true rfl, Nat.le_of_ble_eq_true rfl, Nat.le_of_ble_eq_true rfl, Nat.le_of_ble_eq_true rfl⟩ ⟨Nat.le_of_ble_eq_true rfl, Nat.le_of_ble_eq_true rfl⟩ ?_
            exact dEx_of (c := 2) (by rw [exCa, if_neg (by omega), if_pos (fun h => by have := h.2.2; omega)]) (by decide) rfl
end
