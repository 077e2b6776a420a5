/-! constructors: worlds that are not whole yet -/
theorem ac_int : Cond.arrayClass (newarray.typeOf .int) ∈ GW := List.mem_filter.mpr ⟨by decide +kernel, by decide +kernel⟩
theorem ao_span : Cond.arrayOver (.object RX0) ∈ lw_tbl := by decide +kernel
section
variable {p : Program} {l : Launch} {e : Env} {R : Room} {s : State} {m : MethodId} {args : Array Value} {below : List Frame} {meth : Method} {c : Code} {Q : State → Prop} {cs : CSt} {A : Nat → Prop}
variable {cc : ByteArray} {H H0 : Heap} {locs : List Loc} {cells slots pc : Nat} {ls : Array Slot} {rest : List Value} {ws : va_W}
theorem n_newa (hexec : p.tables.exec = Jvm.exec) (hb : c.code = cc) {atype : ArrayType} (harr : (Cond.arrayClass (newarray.typeOf atype)).before args s = true) {ty : FieldType} (hty : newarray.typeOf atype = ty) (hK : va_K cs.1 vwCl (gTy cs) s) (hP : va_P cs.1 vwCl ws H) (hD : va_D A ws) (hS : va_S A H0 H locs) (hA : ∀ q, H0.size ≤ q → A q)
    {cB : ClassId} (t0 : Nat) (ht : (gTy cs)[t0]? = some (cB, ty)) (hs : ty = .int ∨ ty = .boolean ∨ ty = .long)
    {n : Int32} {N' : Nat} {a0 : vp_A} (ha : ∀ cA : ClassId, vp_cell cA a0 = arrV cA N' (fun _ => defaultValue ty)) (hn : ¬ n < 0) (hN : n.toNatClampNeg = N') (hbytes : N' * componentBytes ty ≤ 536870912) (hcells : cells + 1 ≤ R.cells) (hslots : slots + N' ≤ R.slots) (hdg : decode cc pc = .ok (.newarray atype, 2))
    (kk : ∀ (q : Nat) (H1 : Heap), va_P cs.1 vwCl (ws ++ [(q, .inl (cB, a0))]) H1 → va_D A (ws ++ [(q, .inl (cB, a0))]) → va_S A H0 H1 locs → W p l e R s m args below meth c H1 locs (cells + 1) (slots + N') Q (F0 m (pc + 2) ls (.ref q :: rest))) : W p l e R s m args below meth c H locs cells slots Q (F0 m pc ls (.int n :: rest)) :=
  va_newa hexec hb harr hty hK hP hD hS hA ha hn hN hbytes hcells hslots hdg (fun q cA H1 hK1 hP1 hD1 hS1 => by
    have h1 := (hK.2 t0 _ ht).2
    have h2 := (hK1.2 2 (cA, ty) rfl).2
    have e1 : cA = cB := by
      rcases hs with rfl | rfl | rfl
      · exact Option.some.inj (h2.symm.trans h1)
      · exact Option.some.inj (h2.symm.trans h1)
      · exact Option.some.inj (h2.symm.trans h1)
    subst e1
    exact kk q H1 hP1 hD1 hS1)
theorem n_newq (hexec : p.tables.exec = Jvm.exec) (hb : c.code = cc) {own C : String} {index : Nat} (hown : s.vm.findClass own = some m.cls) (hclink : (Cond.classLink own index C).before args s = true) (hover : va_AO C s) (hK : va_K cs.1 vwCl (gTy cs) s) (hP : va_P cs.1 vwCl ws H) (hD : va_D A ws) (hS : va_S A H0 H locs) (hA : ∀ q, H0.size ≤ q → A q)
    {cB : ClassId} (t0 : Nat) (ht : (gTy cs)[t0]? = some (cB, .object C))
    {n : Int32} {N' : Nat} (hn : ¬ n < 0) (hN : n.toNatClampNeg = N') (hbytes : N' * 4 ≤ 536870912) (hcells : cells + 1 ≤ R.cells) (hslots : slots + N' ≤ R.slots) (hdg : decode cc pc = .ok (.anewarray index, 3))
    (kk : ∀ (q : Nat) (H1 : Heap), va_P cs.1 vwCl (ws ++ [(q, .inl (cB, N', .inr (.inr (.inr (.inr (fun _ => none))))))]) H1 → va_D A (ws ++ [(q, .inl (cB, N', .inr (.inr (.inr (.inr (fun _ => none))))))]) → va_S A H0 H1 locs → W p l e R s m args below meth c H1 locs (cells + 1) (slots + N') Q (F0 m (pc + 3) ls (.ref q :: rest))) : W p l e R s m args below meth c H locs cells slots Q (F0 m pc ls (.int n :: rest)) :=
  va_newq hexec hb hown hclink hover hK hP hD hS hA hn hN hbytes hcells hslots hdg (fun q cA H1 hK1 hP1 hD1 hS1 => by
    obtain ⟨k1, c1, -, -, -, h1⟩ := (hK.2 t0 _ ht).2
    obtain ⟨k2, c2, -, -, -, h2⟩ := (hK1.2 2 (cA, .object C) rfl).2
    have e1 : cA = cB := Option.some.inj (h2.symm.trans h1)
    subst e1
    exact kk q H1 hP1 hD1 hS1)
end
/-- the first span -/
abbrev w_X0_init (cs : CSt) (h0 : Nat) (u : Unit) : va_W := [(h0, .inr (0, [.int (zI (0)), .null, .int (zI (0)), .int (zI (4096)), .int (zI (0))]))]
set_option maxRecDepth 100000 in
theorem n_X0_init (l : Launch) (cs : CSt) (h0 sz : Nat) : Met l yX0_init (Cond.code yX0_init cX0_init 6 none :: GW) (rmL 1 0 0) (va_Pc [.ref h0, .int (zI (0)), .null, .int (zI (0)), .int (zI (4096)), .int (zI (0))] (fun U => U.heap.size = sz ∧ va_P cs.1 vwCl [(h0, .inr (0, [.int 0, .null, .int 0, .int 0, .int 0]))] U.heap ∧ va_K cs.1 vwCl (gTy cs) U ∧ va_D (fun _ => True) [(h0, .inr (0, [.int 0, .null, .int 0, .int 0, .int 0]))])) (va_Qv (fun _ : Unit => True) (fun u t => va_P cs.1 vwCl (w_X0_init cs h0 u) t.heap ∧ va_D (va_A [(h0, .inr (0, [.int 0, .null, .int 0, .int 0, .int 0]))] sz) (w_X0_init cs h0 u)) (va_A [(h0, .inr (0, [.int 0, .null, .int 0, .int 0, .int 0]))] sz)) 0 0 (va_A [(h0, .inr (0, [.int 0, .null, .int 0, .int 0, .int 0]))] sz) := by
  refine Met.ofW (cc := cX0_init) (maxL := 6) (ret := none) (by decide) rfl ?_
  intro p e s m args below meth c s₁ B hml hv
  obtain ⟨rfl, hsz, hP, hK, hD0⟩ := hv
  have hx := B.exec
  have hb := B.bytes
  have hr := B.returns
  have hts0 := atoms_spec (ws := Cond.code yX0_init cX0_init 6 none :: GW) B.pre
  have hts : ∀ w ∈ GW, w.before _ s = true := fun w hw => hts0 w (List.mem_cons_of_mem _ hw)
  have hown : s.vm.findClass RX0 = some m.cls := findClass_of_methodNamed B.named
  have hlocks := B.notSynchronized
  have hin : meth.name = "<init>" := (name_of_methodNamed B.named B.method).1
  subst hsz
  have hD := hD0.self (sz := s.heap.size)
  generalize hAe : va_A [(h0, .inr (0, [.int 0, .null, .int 0, .int 0, .int 0]))] s.heap.size = A at hD ⊢
  have hA : ∀ q : Nat, s.heap.size ≤ q → A q := fun q h => by rw [← hAe]; exact Or.inr h
  have hS : va_S A s.heap s.heap [] := va_S.rf
  have hP : va_P cs.1 vwCl [(h0, .inr (0, [.int 0, .null, .int 0, .int 0, .int 0]))] s.heap := hP
  have hl := lv_entry ([.ref h0, .int (zI (0)), .null, .int (zI (0)), .int (zI (4096)), .int (zI (0))]) (n := 6) (Nat.le_of_ble_eq_true rfl)
  rw [lg_entry_eq]
  generalize (lg_sl ([.ref h0, .int (zI (0)), .null, .int (zI (0)), .int (zI (4096)), .int (zI (0))]) ++ List.replicate (6 - (lg_sl ([.ref h0, .int (zI (0)), .null, .int (zI (0)), .int (zI (4096)), .int (zI (0))])).length) Slot.unset).toArray = ls at hl ⊢
  have hl : lv_has ls 6 [(0, .ref h0), (1, .int (zI (0))), (2, .null), (3, .int (zI (0))), (4, .int (zI (4096))), (5, .int (zI (0)))] := hl
  refine lv_aload_n hx hb dX0_init_0 rfl (lv_at hl 0 rfl) ?_
  refine W.objInit hx hb hown (hts _ ml_X0_1) (hts _ ob_i) (hts _ ob_c) rfl (by rw [hml]; exact hl.1) rfl dX0_init_1 (Nat.le_of_ble_eq_true rfl) (Nat.le_of_ble_eq_true rfl) ?_
  refine W.eq (g2 := F0 m 4 ls []) rfl ?_
  refine lv_aload_n hx hb dX0_init_4 rfl (lv_at hl 0 rfl) ?_
  refine lv_iload_n hx hb dX0_init_5 rfl (lv_at hl 1 rfl) ?_
  refine va_putF (D := cs.1) (ci := 0) (v := .int (zI (0))) (ty := tyX0 0) (C := RX0) (T := TX0) (N := 5) hx hb hts in_RX0 tyX0 tyX0_ok nmX0 hown hK hP hD hS 0 rfl rfl 0 (by decide) (hts _ fl_X0_7) (fun _ h9 => h9) rfl hin rfl (tyX0_ok 0 (by decide)) (by decide) (by decide) (Nat.le_of_ble_eq_true rfl) dX0_init_6 (fun H locs hP hD hS => ?_)
  have hP : va_P cs.1 vwCl [(h0, .inr (0, [.int (zI (0)), .null, .int 0, .int 0, .int 0]))] H := hP
  have hD : va_D A [(h0, .inr (0, [.int (zI (0)), .null, .int 0, .int 0, .int 0]))] := hD
  refine lv_aload_n hx hb dX0_init_9 rfl (lv_at hl 0 rfl) ?_
  refine lv_aload_nN hx hb dX0_init_10 rfl (lv_at hl 2 rfl) ?_
  refine va_putF (D := cs.1) (ci := 0) (v := .null) (ty := tyX0 1) (C := RX0) (T := TX0) (N := 5) hx hb hts in_RX0 tyX0 tyX0_ok nmX0 hown hK hP hD hS 0 rfl rfl 1 (by decide) (hts _ fl_X0_13) (fun _ h9 => h9) rfl hin rfl (tyX0_ok 1 (by decide)) rfl rfl (Nat.le_of_ble_eq_true rfl) dX0_init_11 (fun H locs hP hD hS => ?_)
  have hP : va_P cs.1 vwCl [(h0, .inr (0, [.int (zI (0)), .null, .int 0, .int 0, .int 0]))] H := hP
  have hD : va_D A [(h0, .inr (0, [.int (zI (0)), .null, .int 0, .int 0, .int 0]))] := hD
  refine lv_aload_n hx hb dX0_init_14 rfl (lv_at hl 0 rfl) ?_
  refine lv_iload_n hx hb dX0_init_15 rfl (lv_at hl 3 rfl) ?_
  refine va_put (D := cs.1) (ci := 0) (v := .int (zI (0))) (ty := tyX0 2) (C := RX0) (T := TX0) (N := 5) hx hb hts in_RX0 tyX0 tyX0_ok nmX0 hown hK hP hD hS 0 rfl rfl 2 (by decide) (hts _ fl_X0_17) (fun _ h9 => h9) rfl (tyX0_ok 2 (by decide)) (by decide) (by decide) (Nat.le_of_ble_eq_true rfl) dX0_init_16 (fun H locs hP hD hS => ?_)
  have hP : va_P cs.1 vwCl [(h0, .inr (0, [.int (zI (0)), .null, .int (zI (0)), .int 0, .int 0]))] H := hP
  have hD : va_D A [(h0, .inr (0, [.int (zI (0)), .null, .int (zI (0)), .int 0, .int 0]))] := hD
  refine lv_aload_n hx hb dX0_init_19 rfl (lv_at hl 0 rfl) ?_
  refine lv_iload hx hb dX0_init_20 (lv_at hl 4 rfl) ?_
  refine va_put (D := cs.1) (ci := 0) (v := .int (zI (4096))) (ty := tyX0 3) (C := RX0) (T := TX0) (N := 5) hx hb hts in_RX0 tyX0 tyX0_ok nmX0 hown hK hP hD hS 0 rfl rfl 3 (by decide) (hts _ fl_X0_20) (fun _ h9 => h9) rfl (tyX0_ok 3 (by decide)) (by decide) (by decide) (Nat.le_of_ble_eq_true rfl) dX0_init_22 (fun H locs hP hD hS => ?_)
  have hP : va_P cs.1 vwCl [(h0, .inr (0, [.int (zI (0)), .null, .int (zI (0)), .int (zI (4096)), .int 0]))] H := hP
  have hD : va_D A [(h0, .inr (0, [.int (zI (0)), .null, .int (zI (0)), .int (zI (4096)), .int 0]))] := hD
  refine lv_aload_n hx hb dX0_init_25 rfl (lv_at hl 0 rfl) ?_
  refine lv_iload hx hb dX0_init_26 (lv_at hl 5 rfl) ?_
  refine va_put (D := cs.1) (ci := 0) (v := .int (zI (0))) (ty := tyX0 4) (C := RX0) (T := TX0) (N := 5) hx hb hts in_RX0 tyX0 tyX0_ok nmX0 hown hK hP hD hS 0 rfl rfl 4 (by decide) (hts _ fl_X0_23) (fun _ h9 => h9) rfl (tyX0_ok 4 (by decide)) (by decide) (by decide) (Nat.le_of_ble_eq_true rfl) dX0_init_28 (fun H locs hP hD hS => ?_)
  have hP : va_P cs.1 vwCl [(h0, .inr (0, [.int (zI (0)), .null, .int (zI (0)), .int (zI (4096)), .int (zI (0))]))] H := hP
  have hD : va_D A [(h0, .inr (0, [.int (zI (0)), .null, .int (zI (0)), .int (zI (4096)), .int (zI (0))]))] := hD
  refine W.widen (k := 0) (n := 0) (Nat.le_of_ble_eq_true rfl) (Nat.le_of_ble_eq_true rfl) ?_
  exact W.vret hx hb hr (fun t ht hW => ⟨⟨(), rfl, trivial, by rw [ht]; exact hP, hD⟩, hS.F ht⟩) hS.2.2 dX0_init_31 hlocks
/-- the yard -/
abbrev w_X1_init (cs : CSt) (h0 : Nat) (u : Nat × Nat × Nat × Nat) : va_W := [(h0, .inr (1, [.ref u.1, .ref u.2.1, .int (zI (1)), .ref u.2.2.1, .int (zI (0)), .int (zI (0)), .ref u.2.2.2, .int (zI (0))])), (u.1, .inr (0, [.int (zI (0)), .null, .int (zI (0)), .int (zI (4096)), .int (zI (0))])), (u.2.1, .inl (cs.2.1 2, 60, .inr (.inr (.inr (.inr (va_up (fun _ => none) (zI (0)).toNatClampNeg (some u.1))))))), (u.2.2.1, .inl (cs.2.1 0, 4096, .inl (fun _ => zI 0))), (u.2.2.2, .inl (cs.2.1 0, 4096, .inl (fun _ => zI 0)))]
set_option maxRecDepth 100000 in
theorem n_X1_init (l : Launch) (cs : CSt) (h0 sz : Nat) : Met l yX1_init (Cond.code yX1_init cX1_init 1 none :: GW) (rmL 2 4 8257) (va_Pc [.ref h0] (fun U => U.heap.size = sz ∧ va_P cs.1 vwCl [(h0, .inr (1, [.null, .null, .int 0, .null, .int 0, .int 0, .null, .int 0]))] U.heap ∧ va_AO RX0 U ∧ va_K cs.1 vwCl (gTy cs) U ∧ va_D (fun _ => True) [(h0, .inr (1, [.null, .null, .int 0, .null, .int 0, .int 0, .null, .int 0]))])) (va_Qv (fun _ : Nat × Nat × Nat × Nat => True) (fun u t => va_P cs.1 vwCl (w_X1_init cs h0 u) t.heap ∧ va_D (va_A [(h0, .inr (1, [.null, .null, .int 0, .null, .int 0, .int 0, .null, .int 0]))] sz) (w_X1_init cs h0 u)) (va_A [(h0, .inr (1, [.null, .null, .int 0, .null, .int 0, .int 0, .null, .int 0]))] sz)) 4 8257 (va_A [(h0, .inr (1, [.null, .null, .int 0, .null, .int 0, .int 0, .null, .int 0]))] sz) := by
  refine Met.ofW (cc := cX1_init) (maxL := 1) (ret := none) (by decide) rfl ?_
  intro p e s m args below meth c s₁ B hml hv
  obtain ⟨rfl, hsz, hP, hAO, hK, hD0⟩ := hv
  have hx := B.exec
  have hb := B.bytes
  have hr := B.returns
  have hts0 := atoms_spec (ws := Cond.code yX1_init cX1_init 1 none :: GW) B.pre
  have hts : ∀ w ∈ GW, w.before _ s = true := fun w hw => hts0 w (List.mem_cons_of_mem _ hw)
  have hown : s.vm.findClass RX1 = some m.cls := findClass_of_methodNamed B.named
  have hlocks := B.notSynchronized
  have hin : meth.name = "<init>" := (name_of_methodNamed B.named B.method).1
  subst hsz
  have hD := hD0.self (sz := s.heap.size)
  generalize hAe : va_A [(h0, .inr (1, [.null, .null, .int 0, .null, .int 0, .int 0, .null, .int 0]))] s.heap.size = A at hD ⊢
  have hA : ∀ q : Nat, s.heap.size ≤ q → A q := fun q h => by rw [← hAe]; exact Or.inr h
  have hS : va_S A s.heap s.heap [] := va_S.rf
  have hP : va_P cs.1 vwCl [(h0, .inr (1, [.null, .null, .int 0, .null, .int 0, .int 0, .null, .int 0]))] s.heap := hP
  have hl := lv_entry ([.ref h0]) (n := 1) (Nat.le_of_ble_eq_true rfl)
  rw [lg_entry_eq]
  generalize (lg_sl ([.ref h0]) ++ List.replicate (1 - (lg_sl ([.ref h0])).length) Slot.unset).toArray = ls at hl ⊢
  have hl : lv_has ls 1 [(0, .ref h0)] := hl
  refine lv_aload_n hx hb dX1_init_0 rfl (lv_at hl 0 rfl) ?_
  refine W.objInit hx hb hown (hts _ ml_X1_1) (hts _ ob_i) (hts _ ob_c) rfl (by rw [hml]; exact hl.1) rfl dX1_init_1 (Nat.le_of_ble_eq_true rfl) (Nat.le_of_ble_eq_true rfl) ?_
  refine W.eq (g2 := F0 m 4 ls []) rfl ?_
  refine lv_aload_n hx hb dX1_init_4 rfl (lv_at hl 0 rfl) ?_
  refine va_new (ci := 0) (fs := [.int 0, .null, .int 0, .int 0, .int 0]) (C := RX0) (T := TX0) (N := 5) hx hb hts in_RX0 tyX0 tyX0_ok hown (hts _ cl_X1_7) (hts _ ins_PrefixYard_Span) (hts _ ini_PrefixYard_Span) hK hP hD hS hA rfl (fun j hj => by rcases (show j = 0 ∨ j = 1 ∨ j = 2 ∨ j = 3 ∨ j = 4 by omega) with rfl | rfl | rfl | rfl | rfl <;> rfl) (Nat.le_of_ble_eq_true rfl) (Nat.le_of_ble_eq_true rfl) dX1_init_5 (fun q5 H hP hD hS => ?_)
  have hP : va_P cs.1 vwCl [(h0, .inr (1, [.null, .null, .int 0, .null, .int 0, .int 0, .null, .int 0])), (q5, .inr (0, [.int 0, .null, .int 0, .int 0, .int 0]))] H := hP
  have hD : va_D A [(h0, .inr (1, [.null, .null, .int 0, .null, .int 0, .int 0, .null, .int 0])), (q5, .inr (0, [.int 0, .null, .int 0, .int 0, .int 0]))] := hD
  refine lv_dup hx hb dX1_init_8 rfl ?_
  refine lv_iconst hx hb dX1_init_9 (v := zI (0)) (by decide) ?_
  refine lv_null hx hb dX1_init_10 ?_
  refine lv_iconst hx hb dX1_init_11 (v := zI (0)) (by decide) ?_
  refine lv_sipush hx hb dX1_init_12 (v := zI (4096)) (by decide) ?_
  refine lv_iconst hx hb dX1_init_15 (v := zI (0)) (by decide) ?_
  have hPc := hP.sub (ws' := [(q5, .inr (0, [.int 0, .null, .int 0, .int 0, .int 0]))]) [1] rfl
  have hDc := hD.sub (ws' := [(q5, .inr (0, [.int 0, .null, .int 0, .int 0, .int 0]))]) [1] (by decide) rfl
  have hFc := va_free (wc := [(q5, .inr (0, [.int 0, .null, .int 0, .int 0, .int 0]))]) hD hS hA [1] rfl
  refine va_callv (va_runI (As := [.int (zI (0)), .null, .int (zI (0)), .int (zI (4096)), .int (zI (0))]) (rest := [.ref q5, .ref h0]) ⟨hx, hb, hml, hown, hts⟩ (n_X0_init l cs q5 H.size) (cwI 5 hts (GW_in fun w hw => by rcases List.mem_cons.mp hw with rfl | hw; exact mc_X0_init; exact hw) rfl rfl rfl (hts _ ini_PrefixYard_Span) (hts _ ml_X1_11) (hts _ mi_X0_init) rfl initS_d ⟨(Nat.le_of_ble_eq_true rfl), (Nat.le_of_ble_eq_true rfl)⟩) ⟨fun a U g mk q => by obtain ⟨q0, q1, qP, qK, qD⟩ := q; exact ⟨q0, q1, qP, va_K.moved (u := U) (U := U.calling g mk a) (Vm.Alike.refl U.vm) qK, qD⟩, fun U hU hW => ⟨rfl, by rw [hU], by rw [hU]; exact hPc, va_K.moved hW.alike hK, hDc.weaken (fun _ _ _ _ => trivial)⟩⟩ rfl rfl hl.1 rfl (lv_room (Nat.le_of_ble_eq_true rfl)) dX1_init_16 ⟨(Nat.le_of_ble_eq_true rfl), (Nat.le_of_ble_eq_true rfl)⟩) hS (fun q _ h => hFc q h) hFc (fun u t H1 locs ht hvm h5 hB hz1 hk1 hS => ?_)
  obtain ⟨hP1, hD1⟩ := hB
  rw [ht] at hP1
  obtain ⟨hP, hD⟩ := va_join (wr := [(h0, .inr (1, [.null, .null, .int 0, .null, .int 0, .int 0, .null, .int 0]))]) (w1 := [(q5, .inr (0, [.int (zI (0)), .null, .int (zI (0)), .int (zI (4096)), .int (zI (0))]))]) hP hD [1] [0] rfl rfl (by decide) (by decide) hk1 hFc hP1 hD1
  generalize H1 = H at hP hS ⊢
  have hP : va_P cs.1 vwCl [(h0, .inr (1, [.null, .null, .int 0, .null, .int 0, .int 0, .null, .int 0])), (q5, .inr (0, [.int (zI (0)), .null, .int (zI (0)), .int (zI (4096)), .int (zI (0))]))] H := hP
  have hD : va_D A [(h0, .inr (1, [.null, .null, .int 0, .null, .int 0, .int 0, .null, .int 0])), (q5, .inr (0, [.int (zI (0)), .null, .int (zI (0)), .int (zI (4096)), .int (zI (0))]))] := hD
  refine va_putF (D := cs.1) (ci := 1) (v := .ref q5) (ty := tyX1 0) (C := RX1) (T := TX1) (N := 8) hx hb hts in_RX1 tyX1 tyX1_ok nmX1 hown hK hP hD hS 0 rfl rfl 0 (by decide) (hts _ fl_X1_14) (fun _ h9 => h9) rfl hin rfl (tyX1_ok 0 (by decide)) rfl rfl (Nat.le_of_ble_eq_true rfl) dX1_init_19 (fun H locs hP hD hS => ?_)
  have hP : va_P cs.1 vwCl [(h0, .inr (1, [.ref q5, .null, .int 0, .null, .int 0, .int 0, .null, .int 0])), (q5, .inr (0, [.int (zI (0)), .null, .int (zI (0)), .int (zI (4096)), .int (zI (0))]))] H := hP
  have hD : va_D A [(h0, .inr (1, [.ref q5, .null, .int 0, .null, .int 0, .int 0, .null, .int 0])), (q5, .inr (0, [.int (zI (0)), .null, .int (zI (0)), .int (zI (4096)), .int (zI (0))]))] := hD
  refine lv_aload_n hx hb dX1_init_22 rfl (lv_at hl 0 rfl) ?_
  refine lv_bipush hx hb dX1_init_23 (v := zI (60)) (by decide) ?_
  refine n_newq hx hb hown (hts _ cl_X1_7) hAO hK hP hD hS hA 1 rfl (N' := 60) (by decide) (by decide) (by decide) (Nat.le_of_ble_eq_true rfl) (Nat.le_of_ble_eq_true rfl) dX1_init_25 (fun q25 H hP hD hS => ?_)
  have hP : va_P cs.1 vwCl [(h0, .inr (1, [.ref q5, .null, .int 0, .null, .int 0, .int 0, .null, .int 0])), (q5, .inr (0, [.int (zI (0)), .null, .int (zI (0)), .int (zI (4096)), .int (zI (0))])), (q25, .inl (cs.2.1 2, 60, .inr (.inr (.inr (.inr (fun _ => none))))))] H := hP
  have hD : va_D A [(h0, .inr (1, [.ref q5, .null, .int 0, .null, .int 0, .int 0, .null, .int 0])), (q5, .inr (0, [.int (zI (0)), .null, .int (zI (0)), .int (zI (4096)), .int (zI (0))])), (q25, .inl (cs.2.1 2, 60, .inr (.inr (.inr (.inr (fun _ => none))))))] := hD
  refine va_putF (D := cs.1) (ci := 1) (v := .ref q25) (ty := tyX1 1) (C := RX1) (T := TX1) (N := 8) hx hb hts in_RX1 tyX1 tyX1_ok nmX1 hown hK hP hD hS 0 rfl rfl 1 (by decide) (hts _ fl_X1_18) (fun _ h9 => h9) rfl hin rfl (tyX1_ok 1 (by decide)) rfl rfl (Nat.le_of_ble_eq_true rfl) dX1_init_28 (fun H locs hP hD hS => ?_)
  have hP : va_P cs.1 vwCl [(h0, .inr (1, [.ref q5, .ref q25, .int 0, .null, .int 0, .int 0, .null, .int 0])), (q5, .inr (0, [.int (zI (0)), .null, .int (zI (0)), .int (zI (4096)), .int (zI (0))])), (q25, .inl (cs.2.1 2, 60, .inr (.inr (.inr (.inr (fun _ => none))))))] H := hP
  have hD : va_D A [(h0, .inr (1, [.ref q5, .ref q25, .int 0, .null, .int 0, .int 0, .null, .int 0])), (q5, .inr (0, [.int (zI (0)), .null, .int (zI (0)), .int (zI (4096)), .int (zI (0))])), (q25, .inl (cs.2.1 2, 60, .inr (.inr (.inr (.inr (fun _ => none))))))] := hD
  refine lv_aload_n hx hb dX1_init_31 rfl (lv_at hl 0 rfl) ?_
  refine va_get (D := cs.1) (ci := 1) (v := .ref q25) (C := RX1) (T := TX1) (N := 8) hx hb hts in_RX1 hown hK hP 0 rfl rfl 1 (by decide) (hts _ fl_X1_18) (fun _ h9 => h9) rfl dX1_init_32 ?_
  refine lv_iconst hx hb dX1_init_35 (v := zI (0)) (by decide) ?_
  refine lv_aload_n hx hb dX1_init_36 rfl (lv_at hl 0 rfl) ?_
  refine va_get (D := cs.1) (ci := 1) (v := .ref q5) (C := RX1) (T := TX1) (N := 8) hx hb hts in_RX1 hown hK hP 0 rfl rfl 0 (by decide) (hts _ fl_X1_14) (fun _ h9 => h9) rfl dX1_init_37 ?_
  refine va_astq hx hb hK hP hD hS 2 1 1 0 rfl rfl rfl rfl (zI_in (by decide) (by decide)) dX1_init_40 (fun H locs hP hD hS => ?_)
  have hP : va_P cs.1 vwCl [(h0, .inr (1, [.ref q5, .ref q25, .int 0, .null, .int 0, .int 0, .null, .int 0])), (q5, .inr (0, [.int (zI (0)), .null, .int (zI (0)), .int (zI (4096)), .int (zI (0))])), (q25, .inl (cs.2.1 2, 60, .inr (.inr (.inr (.inr (va_up (fun _ => none) (zI (0)).toNatClampNeg (some q5)))))))] H := hP
  have hD : va_D A [(h0, .inr (1, [.ref q5, .ref q25, .int 0, .null, .int 0, .int 0, .null, .int 0])), (q5, .inr (0, [.int (zI (0)), .null, .int (zI (0)), .int (zI (4096)), .int (zI (0))])), (q25, .inl (cs.2.1 2, 60, .inr (.inr (.inr (.inr (va_up (fun _ => none) (zI (0)).toNatClampNeg (some q5)))))))] := hD
  refine lv_aload_n hx hb dX1_init_41 rfl (lv_at hl 0 rfl) ?_
  refine lv_iconst hx hb dX1_init_42 (v := zI (1)) (by decide) ?_
  refine va_put (D := cs.1) (ci := 1) (v := .int (zI (1))) (ty := tyX1 2) (C := RX1) (T := TX1) (N := 8) hx hb hts in_RX1 tyX1 tyX1_ok nmX1 hown hK hP hD hS 0 rfl rfl 2 (by decide) (hts _ fl_X1_22) (fun _ h9 => h9) rfl (tyX1_ok 2 (by decide)) (by decide) (by decide) (Nat.le_of_ble_eq_true rfl) dX1_init_43 (fun H locs hP hD hS => ?_)
  have hP : va_P cs.1 vwCl [(h0, .inr (1, [.ref q5, .ref q25, .int (zI (1)), .null, .int 0, .int 0, .null, .int 0])), (q5, .inr (0, [.int (zI (0)), .null, .int (zI (0)), .int (zI (4096)), .int (zI (0))])), (q25, .inl (cs.2.1 2, 60, .inr (.inr (.inr (.inr (va_up (fun _ => none) (zI (0)).toNatClampNeg (some q5)))))))] H := hP
  have hD : va_D A [(h0, .inr (1, [.ref q5, .ref q25, .int (zI (1)), .null, .int 0, .int 0, .null, .int 0])), (q5, .inr (0, [.int (zI (0)), .null, .int (zI (0)), .int (zI (4096)), .int (zI (0))])), (q25, .inl (cs.2.1 2, 60, .inr (.inr (.inr (.inr (va_up (fun _ => none) (zI (0)).toNatClampNeg (some q5)))))))] := hD
  refine lv_aload_n hx hb dX1_init_46 rfl (lv_at hl 0 rfl) ?_
  refine lv_sipush hx hb dX1_init_47 (v := zI (4096)) (by decide) ?_
  refine n_newa hx hb (hts _ ac_int) (ty := .int) rfl hK hP hD hS hA 0 rfl (by simp) (N' := 4096) (a0 := (4096, .inl (fun _ => zI 0))) (fun _ => rfl) (by decide) (by decide) (by decide) (Nat.le_of_ble_eq_true rfl) (Nat.le_of_ble_eq_true rfl) dX1_init_50 (fun q50 H hP hD hS => ?_)
  have hP : va_P cs.1 vwCl [(h0, .inr (1, [.ref q5, .ref q25, .int (zI (1)), .null, .int 0, .int 0, .null, .int 0])), (q5, .inr (0, [.int (zI (0)), .null, .int (zI (0)), .int (zI (4096)), .int (zI (0))])), (q25, .inl (cs.2.1 2, 60, .inr (.inr (.inr (.inr (va_up (fun _ => none) (zI (0)).toNatClampNeg (some q5))))))), (q50, .inl (cs.2.1 0, 4096, .inl (fun _ => zI 0)))] H := hP
  have hD : va_D A [(h0, .inr (1, [.ref q5, .ref q25, .int (zI (1)), .null, .int 0, .int 0, .null, .int 0])), (q5, .inr (0, [.int (zI (0)), .null, .int (zI (0)), .int (zI (4096)), .int (zI (0))])), (q25, .inl (cs.2.1 2, 60, .inr (.inr (.inr (.inr (va_up (fun _ => none) (zI (0)).toNatClampNeg (some q5))))))), (q50, .inl (cs.2.1 0, 4096, .inl (fun _ => zI 0)))] := hD
  refine va_putF (D := cs.1) (ci := 1) (v := .ref q50) (ty := tyX1 3) (C := RX1) (T := TX1) (N := 8) hx hb hts in_RX1 tyX1 tyX1_ok nmX1 hown hK hP hD hS 0 rfl rfl 3 (by decide) (hts _ fl_X1_26) (fun _ h9 => h9) rfl hin rfl (tyX1_ok 3 (by decide)) rfl rfl (Nat.le_of_ble_eq_true rfl) dX1_init_52 (fun H locs hP hD hS => ?_)
  have hP : va_P cs.1 vwCl [(h0, .inr (1, [.ref q5, .ref q25, .int (zI (1)), .ref q50, .int 0, .int 0, .null, .int 0])), (q5, .inr (0, [.int (zI (0)), .null, .int (zI (0)), .int (zI (4096)), .int (zI (0))])), (q25, .inl (cs.2.1 2, 60, .inr (.inr (.inr (.inr (va_up (fun _ => none) (zI (0)).toNatClampNeg (some q5))))))), (q50, .inl (cs.2.1 0, 4096, .inl (fun _ => zI 0)))] H := hP
  have hD : va_D A [(h0, .inr (1, [.ref q5, .ref q25, .int (zI (1)), .ref q50, .int 0, .int 0, .null, .int 0])), (q5, .inr (0, [.int (zI (0)), .null, .int (zI (0)), .int (zI (4096)), .int (zI (0))])), (q25, .inl (cs.2.1 2, 60, .inr (.inr (.inr (.inr (va_up (fun _ => none) (zI (0)).toNatClampNeg (some q5))))))), (q50, .inl (cs.2.1 0, 4096, .inl (fun _ => zI 0)))] := hD
  refine lv_aload_n hx hb dX1_init_55 rfl (lv_at hl 0 rfl) ?_
  refine lv_iconst hx hb dX1_init_56 (v := zI (0)) (by decide) ?_
  refine va_put (D := cs.1) (ci := 1) (v := .int (zI (0))) (ty := tyX1 4) (C := RX1) (T := TX1) (N := 8) hx hb hts in_RX1 tyX1 tyX1_ok nmX1 hown hK hP hD hS 0 rfl rfl 4 (by decide) (hts _ fl_X1_30) (fun _ h9 => h9) rfl (tyX1_ok 4 (by decide)) (by decide) (by decide) (Nat.le_of_ble_eq_true rfl) dX1_init_57 (fun H locs hP hD hS => ?_)
  have hP : va_P cs.1 vwCl [(h0, .inr (1, [.ref q5, .ref q25, .int (zI (1)), .ref q50, .int (zI (0)), .int 0, .null, .int 0])), (q5, .inr (0, [.int (zI (0)), .null, .int (zI (0)), .int (zI (4096)), .int (zI (0))])), (q25, .inl (cs.2.1 2, 60, .inr (.inr (.inr (.inr (va_up (fun _ => none) (zI (0)).toNatClampNeg (some q5))))))), (q50, .inl (cs.2.1 0, 4096, .inl (fun _ => zI 0)))] H := hP
  have hD : va_D A [(h0, .inr (1, [.ref q5, .ref q25, .int (zI (1)), .ref q50, .int (zI (0)), .int 0, .null, .int 0])), (q5, .inr (0, [.int (zI (0)), .null, .int (zI (0)), .int (zI (4096)), .int (zI (0))])), (q25, .inl (cs.2.1 2, 60, .inr (.inr (.inr (.inr (va_up (fun _ => none) (zI (0)).toNatClampNeg (some q5))))))), (q50, .inl (cs.2.1 0, 4096, .inl (fun _ => zI 0)))] := hD
  refine lv_aload_n hx hb dX1_init_60 rfl (lv_at hl 0 rfl) ?_
  refine lv_iconst hx hb dX1_init_61 (v := zI (0)) (by decide) ?_
  refine va_put (D := cs.1) (ci := 1) (v := .int (zI (0))) (ty := tyX1 5) (C := RX1) (T := TX1) (N := 8) hx hb hts in_RX1 tyX1 tyX1_ok nmX1 hown hK hP hD hS 0 rfl rfl 5 (by decide) (hts _ fl_X1_33) (fun _ h9 => h9) rfl (tyX1_ok 5 (by decide)) (by decide) (by decide) (Nat.le_of_ble_eq_true rfl) dX1_init_62 (fun H locs hP hD hS => ?_)
  have hP : va_P cs.1 vwCl [(h0, .inr (1, [.ref q5, .ref q25, .int (zI (1)), .ref q50, .int (zI (0)), .int (zI (0)), .null, .int 0])), (q5, .inr (0, [.int (zI (0)), .null, .int (zI (0)), .int (zI (4096)), .int (zI (0))])), (q25, .inl (cs.2.1 2, 60, .inr (.inr (.inr (.inr (va_up (fun _ => none) (zI (0)).toNatClampNeg (some q5))))))), (q50, .inl (cs.2.1 0, 4096, .inl (fun _ => zI 0)))] H := hP
  have hD : va_D A [(h0, .inr (1, [.ref q5, .ref q25, .int (zI (1)), .ref q50, .int (zI (0)), .int (zI (0)), .null, .int 0])), (q5, .inr (0, [.int (zI (0)), .null, .int (zI (0)), .int (zI (4096)), .int (zI (0))])), (q25, .inl (cs.2.1 2, 60, .inr (.inr (.inr (.inr (va_up (fun _ => none) (zI (0)).toNatClampNeg (some q5))))))), (q50, .inl (cs.2.1 0, 4096, .inl (fun _ => zI 0)))] := hD
  refine lv_aload_n hx hb dX1_init_65 rfl (lv_at hl 0 rfl) ?_
  refine lv_sipush hx hb dX1_init_66 (v := zI (4096)) (by decide) ?_
  refine n_newa hx hb (hts _ ac_int) (ty := .int) rfl hK hP hD hS hA 0 rfl (by simp) (N' := 4096) (a0 := (4096, .inl (fun _ => zI 0))) (fun _ => rfl) (by decide) (by decide) (by decide) (Nat.le_of_ble_eq_true rfl) (Nat.le_of_ble_eq_true rfl) dX1_init_69 (fun q69 H hP hD hS => ?_)
  have hP : va_P cs.1 vwCl [(h0, .inr (1, [.ref q5, .ref q25, .int (zI (1)), .ref q50, .int (zI (0)), .int (zI (0)), .null, .int 0])), (q5, .inr (0, [.int (zI (0)), .null, .int (zI (0)), .int (zI (4096)), .int (zI (0))])), (q25, .inl (cs.2.1 2, 60, .inr (.inr (.inr (.inr (va_up (fun _ => none) (zI (0)).toNatClampNeg (some q5))))))), (q50, .inl (cs.2.1 0, 4096, .inl (fun _ => zI 0))), (q69, .inl (cs.2.1 0, 4096, .inl (fun _ => zI 0)))] H := hP
  have hD : va_D A [(h0, .inr (1, [.ref q5, .ref q25, .int (zI (1)), .ref q50, .int (zI (0)), .int (zI (0)), .null, .int 0])), (q5, .inr (0, [.int (zI (0)), .null, .int (zI (0)), .int (zI (4096)), .int (zI (0))])), (q25, .inl (cs.2.1 2, 60, .inr (.inr (.inr (.inr (va_up (fun _ => none) (zI (0)).toNatClampNeg (some q5))))))), (q50, .inl (cs.2.1 0, 4096, .inl (fun _ => zI 0))), (q69, .inl (cs.2.1 0, 4096, .inl (fun _ => zI 0)))] := hD
  refine va_putF (D := cs.1) (ci := 1) (v := .ref q69) (ty := tyX1 6) (C := RX1) (T := TX1) (N := 8) hx hb hts in_RX1 tyX1 tyX1_ok nmX1 hown hK hP hD hS 0 rfl rfl 6 (by decide) (hts _ fl_X1_36) (fun _ h9 => h9) rfl hin rfl (tyX1_ok 6 (by decide)) rfl rfl (Nat.le_of_ble_eq_true rfl) dX1_init_71 (fun H locs hP hD hS => ?_)
  have hP : va_P cs.1 vwCl [(h0, .inr (1, [.ref q5, .ref q25, .int (zI (1)), .ref q50, .int (zI (0)), .int (zI (0)), .ref q69, .int 0])), (q5, .inr (0, [.int (zI (0)), .null, .int (zI (0)), .int (zI (4096)), .int (zI (0))])), (q25, .inl (cs.2.1 2, 60, .inr (.inr (.inr (.inr (va_up (fun _ => none) (zI (0)).toNatClampNeg (some q5))))))), (q50, .inl (cs.2.1 0, 4096, .inl (fun _ => zI 0))), (q69, .inl (cs.2.1 0, 4096, .inl (fun _ => zI 0)))] H := hP
  have hD : va_D A [(h0, .inr (1, [.ref q5, .ref q25, .int (zI (1)), .ref q50, .int (zI (0)), .int (zI (0)), .ref q69, .int 0])), (q5, .inr (0, [.int (zI (0)), .null, .int (zI (0)), .int (zI (4096)), .int (zI (0))])), (q25, .inl (cs.2.1 2, 60, .inr (.inr (.inr (.inr (va_up (fun _ => none) (zI (0)).toNatClampNeg (some q5))))))), (q50, .inl (cs.2.1 0, 4096, .inl (fun _ => zI 0))), (q69, .inl (cs.2.1 0, 4096, .inl (fun _ => zI 0)))] := hD
  refine lv_aload_n hx hb dX1_init_74 rfl (lv_at hl 0 rfl) ?_
  refine lv_iconst hx hb dX1_init_75 (v := zI (0)) (by decide) ?_
  refine va_put (D := cs.1) (ci := 1) (v := .int (zI (0))) (ty := tyX1 7) (C := RX1) (T := TX1) (N := 8) hx hb hts in_RX1 tyX1 tyX1_ok nmX1 hown hK hP hD hS 0 rfl rfl 7 (by decide) (hts _ fl_X1_39) (fun _ h9 => h9) rfl (tyX1_ok 7 (by decide)) (by decide) (by decide) (Nat.le_of_ble_eq_true rfl) dX1_init_76 (fun H locs hP hD hS => ?_)
  have hP : va_P cs.1 vwCl [(h0, .inr (1, [.ref q5, .ref q25, .int (zI (1)), .ref q50, .int (zI (0)), .int (zI (0)), .ref q69, .int (zI (0))])), (q5, .inr (0, [.int (zI (0)), .null, .int (zI (0)), .int (zI (4096)), .int (zI (0))])), (q25, .inl (cs.2.1 2, 60, .inr (.inr (.inr (.inr (va_up (fun _ => none) (zI (0)).toNatClampNeg (some q5))))))), (q50, .inl (cs.2.1 0, 4096, .inl (fun _ => zI 0))), (q69, .inl (cs.2.1 0, 4096, .inl (fun _ => zI 0)))] H := hP
  have hD : va_D A [(h0, .inr (1, [.ref q5, .ref q25, .int (zI (1)), .ref q50, .int (zI (0)), .int (zI (0)), .ref q69, .int (zI (0))])), (q5, .inr (0, [.int (zI (0)), .null, .int (zI (0)), .int (zI (4096)), .int (zI (0))])), (q25, .inl (cs.2.1 2, 60, .inr (.inr (.inr (.inr (va_up (fun _ => none) (zI (0)).toNatClampNeg (some q5))))))), (q50, .inl (cs.2.1 0, 4096, .inl (fun _ => zI 0))), (q69, .inl (cs.2.1 0, 4096, .inl (fun _ => zI 0)))] := hD
  refine W.widen (k := 4) (n := 8257) (Nat.le_of_ble_eq_true rfl) (Nat.le_of_ble_eq_true rfl) ?_
  exact W.vret hx hb hr (fun t ht hW => ⟨⟨(q5, q25, q50, q69), rfl, trivial, by rw [ht]; exact hP, hD⟩, hS.F ht⟩) hS.2.2 dX1_init_79 hlocks
