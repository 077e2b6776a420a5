/-- the first span -/
abbrev w_X0_init (cs : CSt) (h0 : Nat) (u : Unit) : va_W := [(h0, .inr (0, [.int (zI (0)), .null, .int (zI (0)), .int (zI (4096)), .int (zI (0))]))]
set_option maxRecDepth 100000 in
theorem n_X0_init (l : Launch) (cs : CSt) (h0 sz : Nat) : Met l yX0_init (Cond.code yX0_init cX0_init 6 none :: GW) (rmL 1 0 0) (va_Pc [.ref h0, .int (zI (0)), .null, .int (zI (0)), .int (zI (4096)), .int (zI (0))] (fun U => U.heap.size = sz ∧ va_P cs.1 vwCl [(h0, .inr (0, [.int 0, .null, .int 0, .int 0, .int 0]))] U.heap ∧ va_K cs.1 vwCl (gTy cs) U ∧ va_D (fun _ => True) [(h0, .inr (0, [.int 0, .null, .int 0, .int 0, .int 0]))])) (va_Qv (fun _ : Unit => True) (fun u t => va_P cs.1 vwCl (w_X0_init cs h0 u) t.heap ∧ va_D (va_A [(h0, .inr (0, [.int 0, .null, .int 0, .int 0, .int 0]))] sz) (w_X0_init cs h0 u)) (va_A [(h0, .inr (0, [.int 0, .null, .int 0, .int 0, .int 0]))] sz)) 0 0 (va_A [(h0, .inr (0, [.int 0, .null, .int 0, .int 0, .int 0]))] sz) := by
  refine Met.ofW (cc := cX0_init) (maxL := 6) (ret := none) (by decide) rfl ?_
  intro p e s m args below meth c s₁ B hml hv
  obtain ⟨rfl, hsz, hP, hK, hD0⟩ := hv
  have hx := B.exec
  have hb := B.bytes
  have hr := B.returns
  have hts0 := atoms_spec (ws := Cond.code yX0_init cX0_init 6 none :: GW) B.pre
  have hts : ∀ w ∈ GW, w.before _ s = true := fun w hw => hts0 w (List.mem_cons_of_mem _ hw)
  have hown : s.vm.findClass RX0 = some m.cls := findClass_of_methodNamed B.named
  have hlocks := B.notSynchronized
  have hin : meth.name = "<init>" := (name_of_methodNamed B.named B.method).1
  subst hsz
  have hD := hD0.self (sz := s.heap.size)
  generalize hAe : va_A [(h0, .inr (0, [.int 0, .null, .int 0, .int 0, .int 0]))] s.heap.size = A at hD ⊢
  have hA : ∀ q : Nat, s.heap.size ≤ q → A q := fun q h => by rw [← hAe]; exact Or.inr h
  have hS : va_S A s.heap s.heap [] := va_S.rf
  have hP : va_P cs.1 vwCl [(h0, .inr (0, [.int 0, .null, .int 0, .int 0, .int 0]))] s.heap := hP
  have hl := lv_entry ([.ref h0, .int (zI (0)), .null, .int (zI (0)), .int (zI (4096)), .int (zI (0))]) (n := 6) (Nat.le_of_ble_eq_true rfl)
  rw [lg_entry_eq]
  generalize (lg_sl ([.ref h0, .int (zI (0)), .null, .int (zI (0)), .int (zI (4096)), .int (zI (0))]) ++ List.replicate (6 - (lg_sl ([.ref h0, .int (zI (0)), .null, .int (zI (0)), .int (zI (4096)), .int (zI (0))])).length) Slot.unset).toArray = ls at hl ⊢
  have hl : lv_has ls 6 [(0, .ref h0), (1, .int (zI (0))), (2, .null), (3, .int (zI (0))), (4, .int (zI (4096))), (5, .int (zI (0)))] := hl
  refine lv_aload_n hx hb dX0_init_0 rfl (lv_at hl 0 rfl) ?_
  refine W.objInit hx hb hown (hts _ ml_X0_1) (hts _ ob_i) (hts _ ob_c) rfl (by rw [hml]; exact hl.1) rfl dX0_init_1 (Nat.le_of_ble_eq_true rfl) (Nat.le_of_ble_eq_true rfl) ?_
  refine W.eq (g2 := F0 m 4 ls []) rfl ?_
  refine lv_aload_n hx hb dX0_init_4 rfl (lv_at hl 0 rfl) ?_
  refine lv_iload_n hx hb dX0_init_5 rfl (lv_at hl 1 rfl) ?_
  refine va_putF (D := cs.1) (ci := 0) (v := .int (zI (0))) (ty := tyX0 0) (C := RX0) (T := TX0) (N := 5) hx hb hts in_RX0 tyX0 tyX0_ok nmX0 hown hK hP hD hS 0 rfl rfl 0 (by decide) (hts _ fl_X0_7) (fun _ h9 => h9) rfl hin rfl (tyX0_ok 0 (by decide)) (by decide) (by decide) (Nat.le_of_ble_eq_true rfl) dX0_init_6 (fun H locs hP hD hS => ?_)
  have hP : va_P cs.1 vwCl [(h0, .inr (0, [.int (zI (0)), .null, .int 0, .int 0, .int 0]))] H := hP
  have hD : va_D A [(h0, .inr (0, [.int (zI (0)), .null, .int 0, .int 0, .int 0]))] := hD
  refine lv_aload_n hx hb dX0_init_9 rfl (lv_at hl 0 rfl) ?_
  refine lv_aload_nN hx hb dX0_init_10 rfl (lv_at hl 2 rfl) ?_
  refine va_putF (D := cs.1) (ci := 0) (v := .null) (ty := tyX0 1) (C := RX0) (T := TX0) (N := 5) hx hb hts in_RX0 tyX0 tyX0_ok nmX0 hown hK hP hD hS 0 rfl rfl 1 (by decide) (hts _ fl_X0_13) (fun _ h9 => h9) rfl hin rfl (tyX0_ok 1 (by decide)) rfl rfl (Nat.le_of_ble_eq_true rfl) dX0_init_11 (fun H locs hP hD hS => ?_)
  have hP : va_P cs.1 vwCl [(h0, .inr (0, [.int (zI (0)), .null, .int 0, .int 0, .int 0]))] H := hP
  have hD : va_D A [(h0, .inr (0, [.int (zI (0)), .null, .int 0, .int 0, .int 0]))] := hD
  refine lv_aload_n hx hb dX0_init_14 rfl (lv_at hl 0 rfl) ?_
  refine lv_iload_n hx hb dX0_init_15 rfl (lv_at hl 3 rfl) ?_
  refine va_put (D := cs.1) (ci := 0) (v := .int (zI (0))) (ty := tyX0 2) (C := RX0) (T := TX0) (N := 5) hx hb hts in_RX0 tyX0 tyX0_ok nmX0 hown hK hP hD hS 0 rfl rfl 2 (by decide) (hts _ fl_X0_17) (fun _ h9 => h9) rfl (tyX0_ok 2 (by decide)) (by decide) (by decide) (Nat.le_of_ble_eq_true rfl) dX0_init_16 (fun H locs hP hD hS => ?_)
  have hP : va_P cs.1 vwCl [(h0, .inr (0, [.int (zI (0)), .null, .int (zI (0)), .int 0, .int 0]))] H := hP
  have hD : va_D A [(h0, .inr (0, [.int (zI (0)), .null, .int (zI (0)), .int 0, .int 0]))] := hD
  refine lv_aload_n hx hb dX0_init_19 rfl (lv_at hl 0 rfl) ?_
  refine lv_iload hx hb dX0_init_20 (lv_at hl 4 rfl) ?_
  refine va_put (D := cs.1) (ci := 0) (v := .int (zI (4096))) (ty := tyX0 3) (C := RX0) (T := TX0) (N := 5) hx hb hts in_RX0 tyX0 tyX0_ok nmX0 hown hK hP hD hS 0 rfl rfl 3 (by decide) (hts _ fl_X0_20) (fun _ h9 => h9) rfl (tyX0_ok 3 (by decide)) (by decide) (by decide) (Nat.le_of_ble_eq_true rfl) dX0_init_22 (fun H locs hP hD hS => ?_)
  have hP : va_P cs.1 vwCl [(h0, .inr (0, [.int (zI (0)), .null, .int (zI (0)), .int (zI (4096)), .int 0]))] H := hP
  have hD : va_D A [(h0, .inr (0, [.int (zI (0)), .null, .int (zI (0)), .int (zI (4096)), .int 0]))] := hD
  refine lv_aload_n hx hb dX0_init_25 rfl (lv_at hl 0 rfl) ?_
  refine lv_iload hx hb dX0_init_26 (lv_at hl 5 rfl) ?_
  refine va_put (D := cs.1) (ci := 0) (v := .int (zI (0))) (ty := tyX0 4) (C := RX0) (T := TX0) (N := 5) hx hb hts in_RX0 tyX0 tyX0_ok nmX0 hown hK hP hD hS 0 rfl rfl 4 (by decide) (hts _ fl_X0_23) (fun _ h9 => h9) rfl (tyX0_ok 4 (by decide)) (by decide) (by decide) (Nat.le_of_ble_eq_true rfl) dX0_init_28 (fun H locs hP hD hS => ?_)
  have hP : va_P cs.1 vwCl [(h0, .inr (0, [.int (zI (0)), .null, .int (zI (0)), .int (zI (4096)), .int (zI (0))]))] H := hP
  have hD : va_D A [(h0, .inr (0, [.int (zI (0)), .null, .int (zI (0)), .int (zI (4096)), .int (zI (0))]))] := hD
  refine W.widen (k := 0) (n := 0) (Nat.le_of_ble_eq_true rfl) (Nat.le_of_ble_eq_true rfl) ?_
  exact W.vret hx hb hr (fun t ht hW => ⟨⟨(), rfl, trivial, by rw [ht]; exact hP, hD⟩, hS.F ht⟩) hS.2.2 dX0_init_31 hlocks
/-- the yard -/
abbrev w_X1_init (cs : CSt) (h0 : Nat) (u : Nat × Nat × Nat × Nat) : va_W := [(h0, .inr (1, [.ref u.1, .ref u.2.1, .int (zI (1)), .ref u.2.2.1, .int (zI (0)), .int (zI (0)), .ref u.2.2.2, .int (zI (0))])), (u.1, .inr (0, [.int (zI (0)), .null, .int (zI (0)), .int (zI (4096)), .int (zI (0))])), (u.2.1, .inl (cs.2.1 2, 60, .inr (.inr (.inr (.inr (va_up (fun _ => none) (zI (0)).toNatClampNeg (some u.1))))))), (u.2.2.1, .inl (cs.2.1 0, 4096, .inl (fun _ => zI 0))), (u.2.2.2, .inl (cs.2.1 0, 4096, .inl (fun _ => zI 0)))]
set_option maxRecDepth 100000 in
theorem n_X1_init (l : Launch) (cs : CSt) (h0 sz : Nat) : Met l yX1_init (Cond.code yX1_init cX1_init 1 none :: GW) (rmL 2 4 8257) (va_Pc [.ref h0] (fun U => U.heap.size = sz ∧ va_P cs.1 vwCl [(h0, .inr (1, [.null, .null, .int 0, .null, .int 0, .int 0, .null, .int 0]))] U.heap ∧ va_AO RX0 U ∧ va_K cs.1 vwCl (gTy cs) U ∧ va_D (fun _ => True) [(h0, .inr (1, [.null, .null, .int 0, .null, .int 0, .int 0, .null, .int 0]))])) (va_Qv (fun _ : Nat × Nat × Nat × Nat => True) (fun u t => va_P cs.1 vwCl (w_X1_init cs h0 u) t.heap ∧ va_D (va_A [(h0, .inr (1, [.null, .null, .int 0, .null, .int 0, .int 0, .null, .int 0]))] sz) (w_X1_init cs h0 u)) (va_A [(h0, .inr (1, [.null, .null, .int 0, .null, .int 0, .int 0, .null, .int 0]))] sz)) 4 8257 (va_A [(h0, .inr (1, [.null, .null, .int 0, .null, .int 0, .int 0, .null, .int 0]))] sz) := by
  refine Met.ofW (cc := cX1_init) (maxL := 1) (ret := none) (by decide) rfl ?_
  intro p e s m args below meth c s₁ B hml hv
  obtain ⟨rfl, hsz, hP, hAO, hK, hD0⟩ := hv
  have hx := B.exec
  have hb := B.bytes
  have hr := B.returns
  have hts0 := atoms_spec (ws := Cond.code yX1_init cX1_init 1 none :: GW) B.pre
  have hts : ∀ w ∈ GW, w.before _ s = true := fun w hw => hts0 w (List.mem_cons_of_mem _ hw)
  have hown : s.vm.findClass RX1 = some m.cls := findClass_of_methodNamed B.named
  have hlocks := B.notSynchronized
  have hin : meth.name = "<init>" := (name_of_methodNamed B.named B.method).1
  subst hsz
  have hD := hD0.self (sz := s.heap.size)
  generalize hAe : va_A [(h0, .inr (1, [.null, .null, .int 0, .null, .int 0, .int 0, .null, .int 0]))] s.heap.size = A at hD ⊢
  have hA : ∀ q : Nat, s.heap.size ≤ q → A q := fun q h => by rw [← hAe]; exact Or.inr h
  have hS : va_S A s.heap s.heap [] := va_S.rf
  have hP : va_P cs.1 vwCl [(h0, .inr (1, [.null, .null, .int 0, .null, .int 0, .int 0, .null, .int 0]))] s.heap := hP
  have hl := lv_entry ([.ref h0]) (n := 1) (Nat.le_of_ble_eq_true rfl)
  rw [lg_entry_eq]
  generalize (lg_sl ([.ref h0]) ++ List.replicate (1 - (lg_sl ([.ref h0])).length) Slot.unset).toArray = ls at hl ⊢
  have hl : lv_has ls 1 [(0, .ref h0)] := hl
  refine lv_aload_n hx hb dX1_init_0 rfl (lv_at hl 0 rfl) ?_
  refine W.objInit hx hb hown (hts _ ml_X1_1) (hts _ ob_i) (hts _ ob_c) rfl (by rw [hml]; exact hl.1) rfl dX1_init_1 (Nat.le_of_ble_eq_true rfl) (Nat.le_of_ble_eq_true rfl) ?_
  refine W.eq (g2 := F0 m 4 ls []) rfl ?_
  refine lv_aload_n hx hb dX1_init_4 rfl (lv_at hl 0 rfl) ?_
  refine va_new (ci := 0) (fs := [.int 0, .null, .int 0, .int 0, .int 0]) (C := RX0) (T := TX0) (N := 5) hx hb hts in_RX0 tyX0 tyX0_ok hown (hts _ cl_X1_7) (hts _ ins_PrefixYard_Span) (hts _ ini_PrefixYard_Span) hK hP hD hS hA rfl (fun j hj => by rcases (show j = 0 ∨ j = 1 ∨ j = 2 ∨ j = 3 ∨ j = 4 by omega) with rfl | rfl | rfl | rfl | rfl <;> rfl) (Nat.le_of_ble_eq_true rfl) (Nat.le_of_ble_eq_true rfl) dX1_init_5 (fun q5 H hP hD hS => ?_)
  have hP : va_P cs.1 vwCl [(h0, .inr (1, [.null, .null, .int 0, .null, .int 0, .int 0, .null, .int 0])), (q5, .inr (0, [.int 0, .null, .int 0, .int 0, .int 0]))] H := hP
  have hD : va_D A [(h0, .inr (1, [.null, .null, .int 0, .null, .int 0, .int 0, .null, .int 0])), (q5, .inr (0, [.int 0, .null, .int 0, .int 0, .int 0]))] := hD
  refine lv_dup hx hb dX1_init_8 rfl ?_
  refine lv_iconst hx hb dX1_init_9 (v := zI (0)) (by decide) ?_
  refine lv_null hx hb dX1_init_10 ?_
  refine lv_iconst hx hb dX1_init_11 (v := zI (0)) (by decide) ?_
  refine lv_sipush hx hb dX1_init_12 (v := zI (4096)) (by decide) ?_
  refine lv_iconst hx hb dX1_init_15 (v := zI (0)) (by decide) ?_
  have hPc := hP.sub (ws' := [(q5, .inr (0, [.int 0, .null, .int 0, .int 0, .int 0]))]) [1] rfl
  have hDc := hD.sub (ws' := [(q5, .inr (0, [.int 0, .null, .int 0, .int 0, .int 0]))]) [1] (by decide) rfl
  have hFc := va_free (wc := [(q5, .inr (0, [.int 0, .null, .int 0, .int 0, .int 0]))]) hD hS hA [1] rfl
  refine va_callv (va_runI (As := [.int (zI (0)), .null, .int (zI (0)), .int (zI (4096)), .int (zI (0))]) (rest := [.ref q5, .ref h0]) ⟨hx, hb, hml, hown, hts⟩ (n_X0_init l cs q5 H.size) (cwI 5 hts (GW_in fun w hw => by rcases List.mem_cons.mp hw with rfl | hw; exact mc_X0_init; exact hw) rfl rfl rfl (hts _ ini_PrefixYard_Span) (hts _ ml_X1_11) (hts _ mi_X0_init) rfl initS_d ⟨(Nat.le_of_ble_eq_true rfl), (Nat.le_of_ble_eq_true rfl)⟩) ⟨fun a U g mk q => by obtain ⟨q0, q1, qP, qK, qD⟩ := q; exact ⟨q0, q1, qP, va_K.moved (u := U) (U := U.calling g mk a) (Vm.Alike.refl U.vm) qK, qD⟩, fun U hU hW => ⟨rfl, by rw [hU], by rw [hU]; exact hPc, va_K.moved hW.alike hK, hDc.weaken (fun _ _ _ _ => trivial)⟩⟩ rfl rfl hl.1 rfl (lv_room (Nat.le_of_ble_eq_true rfl)) dX1_init_16 ⟨(Nat.le_of_ble_eq_true rfl), (Nat.le_of_ble_eq_true rfl)⟩) hS (fun q _ h => hFc q h) hFc (fun u t H1 locs ht hvm h5 hB hz1 hk1 hS => ?_)
  obtain ⟨hP1, hD1⟩ := hB
  rw [ht] at hP1
  obtain ⟨hP, hD⟩ := va_join (wr := [(h0, .inr (1, [.null, .null, .int 0, .null, .int 0, .int 0, .null, .int 0]))]) (w1 := [(q5, .inr (0, [.int (zI (0)), .null, .int (zI (0)), .int (zI (4096)), .int (zI (0))]))]) hP hD [1] [0] rfl rfl (by decide) (by decide) hk1 hFc hP1 hD1
  generalize H1 = H at hP hS ⊢
  have hP : va_P cs.1 vwCl [(h0, .inr (1, [.null, .null, .int 0, .null, .int 0, .int 0, .null, .int 0])), (q5, .inr (0, [.int (zI (0)), .null, .int (zI (0)), .int (zI (4096)), .int (zI (0))]))] H := hP
  have hD : va_D A [(h0, .inr (1, [.null, .null, .int 0, .null, .int 0, .int 0, .null, .int 0])), (q5, .inr (0, [.int (zI (0)), .null, .int (zI (0)), .int (zI (4096)), .int (zI (0))]))] := hD
  refine va_putF (D := cs.1) (ci := 1) (v := .ref q5) (ty := tyX1 0) (C := RX1) (T := TX1) (N := 8) hx hb hts in_RX1 tyX1 tyX1_ok nmX1 hown hK hP hD hS 0 rfl rfl 0 (by decide) (hts _ fl_X1_14) (fun _ h9 => h9) rfl hin rfl (tyX1_ok 0 (by decide)) rfl rfl (Nat.le_of_ble_eq_true rfl) dX1_init_19 (fun H locs hP hD hS => ?_)
  have hP : va_P cs.1 vwCl [(h0, .inr (1, [.ref q5, .null, .int 0, .null, .int 0, .int 0, .null, .int 0])), (q5, .inr (0, [.int (zI (0)), .null, .int (zI (0)), .int (zI (4096)), .int (zI (0))]))] H := hP
  have hD : va_D A [(h0, .inr (1, [.ref q5, .null, .int 0, .null, .int 0, .int 0, .null, .int 0])), (q5, .inr (0, [.int (zI (0)), .null, .int (zI (0)), .int (zI (4096)), .int (zI (0))]))] := hD
  refine lv_aload_n hx hb dX1_init_22 rfl (lv_at hl 0 rfl) ?_
  refine lv_bipush hx hb dX1_init_23 (v := zI (60)) (by decide) ?_
  refine n_newq hx hb hown (hts _ cl_X1_7) hAO hK hP hD hS hA 2 rfl (N' := 60) (by decide) (by decide) (by decide) (Nat.le_of_ble_eq_true rfl) (Nat.le_of_ble_eq_true rfl) dX1_init_25 (fun q25 H hP hD hS => ?_)
  have hP : va_P cs.1 vwCl [(h0, .inr (1, [.ref q5, .null, .int 0, .null, .int 0, .int 0, .null, .int 0])), (q5, .inr (0, [.int (zI (0)), .null, .int (zI (0)), .int (zI (4096)), .int (zI (0))])), (q25, .inl (cs.2.1 2, 60, .inr (.inr (.inr (.inr (fun _ => none))))))] H := hP
  have hD : va_D A [(h0, .inr (1, [.ref q5, .null, .int 0, .null, .int 0, .int 0, .null, .int 0])), (q5, .inr (0, [.int (zI (0)), .null, .int (zI (0)), .int (zI (4096)), .int (zI (0))])), (q25, .inl (cs.2.1 2, 60, .inr (.inr (.inr (.inr (fun _ => none))))))] := hD
  refine va_putF (D := cs.1) (ci := 1) (v := .ref q25) (ty := tyX1 1) (C := RX1) (T := TX1) (N := 8) hx hb hts in_RX1 tyX1 tyX1_ok nmX1 hown hK hP hD hS 0 rfl rfl 1 (by decide) (hts _ fl_X1_18) (fun _ h9 => h9) rfl hin rfl (tyX1_ok 1 (by decide)) rfl rfl (Nat.le_of_ble_eq_true rfl) dX1_init_28 (fun H locs hP hD hS => ?_)
  have hP : va_P cs.1 vwCl [(h0, .inr (1, [.ref q5, .ref q25, .int 0, .null, .int 0, .int 0, .null, .int 0])), (q5, .inr (0, [.int (zI (0)), .null, .int (zI (0)), .int (zI (4096)), .int (zI (0))])), (q25, .inl (cs.2.1 2, 60, .inr (.inr (.inr (.inr (fun _ => none))))))] H := hP
  have hD : va_D A [(h0, .inr (1, [.ref q5, .ref q25, .int 0, .null, .int 0, .int 0, .null, .int 0])), (q5, .inr (0, [.int (zI (0)), .null, .int (zI (0)), .int (zI (4096)), .int (zI (0))])), (q25, .inl (cs.2.1 2, 60, .inr (.inr (.inr (.inr (fun _ => none))))))] := hD
  refine lv_aload_n hx hb dX1_init_31 rfl (lv_at hl 0 rfl) ?_
  refine va_get (D := cs.1) (ci := 1) (v := .ref q25) (C := RX1) (T := TX1) (N := 8) hx hb hts in_RX1 hown hK hP 0 rfl rfl 1 (by decide) (hts _ fl_X1_18) (fun _ h9 => h9) rfl dX1_init_32 ?_
  refine lv_iconst hx hb dX1_init_35 (v := zI (0)) (by decide) ?_
  refine lv_aload_n hx hb dX1_init_36 rfl (lv_at hl 0 rfl) ?_
  refine va_get (D := cs.1) (ci := 1) (v := .ref q5) (C := RX1) (T := TX1) (N := 8) hx hb hts in_RX1 hown hK hP 0 rfl rfl 0 (by decide) (hts _ fl_X1_14) (fun _ h9 => h9) rfl dX1_init_37 ?_
  refine va_astq hx hb hK hP hD hS 2 2 1 0 rfl rfl rfl rfl (zI_in (by decide) (by decide)) dX1_init_40 (fun H locs hP hD hS => ?_)
  have hP : va_P cs.1 vwCl [(h0, .inr (1, [.ref q5, .ref q25, .int 0, .null, .int 0, .int 0, .null, .int 0])), (q5, .inr (0, [.int (zI (0)), .null, .int (zI (0)), .int (zI (4096)), .int (zI (0))])), (q25, .inl (cs.2.1 2, 60, .inr (.inr (.inr (.inr (va_up (fun _ => none) (zI (0)).toNatClampNeg (some q5)))))))] H := hP
  have hD : va_D A [(h0, .inr (1, [.ref q5, .ref q25, .int 0, .null, .int 0, .int 0, .null, .int 0])), (q5, .inr (0, [.int (zI (0)), .null, .int (zI (0)), .int (zI (4096)), .int (zI (0))])), (q25, .inl (cs.2.1 2, 60, .inr (.inr (.inr (.inr (va_up (fun _ => none) (zI (0)).toNatClampNeg (some q5)))))))] := hD
  refine lv_aload_n hx hb dX1_init_41 rfl (lv_at hl 0 rfl) ?_
  refine lv_iconst hx hb dX1_init_42 (v := zI (1)) (by decide) ?_
  refine va_put (D := cs.1) (ci := 1) (v := .int (zI (1))) (ty := tyX1 2) (C := RX1) (T := TX1) (N := 8) hx hb hts in_RX1 tyX1 tyX1_ok nmX1 hown hK hP hD hS 0 rfl rfl 2 (by decide) (hts _ fl_X1_22) (fun _ h9 => h9) rfl (tyX1_ok 2 (by decide)) (by decide) (by decide) (Nat.le_of_ble_eq_true rfl) dX1_init_43 (fun H locs hP hD hS => ?_)
  have hP : va_P cs.1 vwCl [(h0, .inr (1, [.ref q5, .ref q25, .int (zI (1)), .null, .int 0, .int 0, .null, .int 0])), (q5, .inr (0, [.int (zI (0)), .null, .int (zI (0)), .int (zI (4096)), .int (zI (0))])), (q25, .inl (cs.2.1 2, 60, .inr (.inr (.inr (.inr (va_up (fun _ => none) (zI (0)).toNatClampNeg (some q5)))))))] H := hP
  have hD : va_D A [(h0, .inr (1, [.ref q5, .ref q25, .int (zI (1)), .null, .int 0, .int 0, .null, .int 0])), (q5, .inr (0, [.int (zI (0)), .null, .int (zI (0)), .int (zI (4096)), .int (zI (0))])), (q25, .inl (cs.2.1 2, 60, .inr (.inr (.inr (.inr (va_up (fun _ => none) (zI (0)).toNatClampNeg (some q5)))))))] := hD
  refine lv_aload_n hx hb dX1_init_46 rfl (lv_at hl 0 rfl) ?_
  refine lv_sipush hx hb dX1_init_47 (v := zI (4096)) (by decide) ?_
  refine n_newa hx hb (hts _ ac_int) (ty := .int) rfl hK hP hD hS hA 0 rfl (by simp) (N' := 4096) (a0 := (4096, .inl (fun _ => zI 0))) (fun _ => rfl) (by decide) (by decide) (by decide) (Nat.le_of_ble_eq_true rfl) (Nat.le_of_ble_eq_true rfl) dX1_init_50 (fun q50 H hP hD hS => ?_)
  have hP : va_P cs.1 vwCl [(h0, .inr (1, [.ref q5, .ref q25, .int (zI (1)), .null, .int 0, .int 0, .null, .int 0])), (q5, .inr (0, [.int (zI (0)), .null, .int (zI (0)), .int (zI (4096)), .int (zI (0))])), (q25, .inl (cs.2.1 2, 60, .inr (.inr (.inr (.inr (va_up (fun _ => none) (zI (0)).toNatClampNeg (some q5))))))), (q50, .inl (cs.2.1 0, 4096, .inl (fun _ => zI 0)))] H := hP
  have hD : va_D A [(h0, .inr (1, [.ref q5, .ref q25, .int (zI (1)), .null, .int 0, .int 0, .null, .int 0])), (q5, .inr (0, [.int (zI (0)), .null, .int (zI (0)), .int (zI (4096)), .int (zI (0))])), (q25, .inl (cs.2.1 2, 60, .inr (.inr (.inr (.inr (va_up (fun _ => none) (zI (0)).toNatClampNeg (some q5))))))), (q50, .inl (cs.2.1 0, 4096, .inl (fun _ => zI 0)))] := hD
  refine va_putF (D := cs.1) (ci := 1) (v := .ref q50) (ty := tyX1 3) (C := RX1) (T := TX1) (N := 8) hx hb hts in_RX1 tyX1 tyX1_ok nmX1 hown hK hP hD hS 0 rfl rfl 3 (by decide) (hts _ fl_X1_26) (fun _ h9 => h9) rfl hin rfl (tyX1_ok 3 (by decide)) rfl rfl (Nat.le_of_ble_eq_true rfl) dX1_init_52 (fun H locs hP hD hS => ?_)
  have hP : va_P cs.1 vwCl [(h0, .inr (1, [.ref q5, .ref q25, .int (zI (1)), .ref q50, .int 0, .int 0, .null, .int 0])), (q5, .inr (0, [.int (zI (0)), .null, .int (zI (0)), .int (zI (4096)), .int (zI (0))])), (q25, .inl (cs.2.1 2, 60, .inr (.inr (.inr (.inr (va_up (fun _ => none) (zI (0)).toNatClampNeg (some q5))))))), (q50, .inl (cs.2.1 0, 4096, .inl (fun _ => zI 0)))] H := hP
  have hD : va_D A [(h0, .inr (1, [.ref q5, .ref q25, .int (zI (1)), .ref q50, .int 0, .int 0, .null, .int 0])), (q5, .inr (0, [.int (zI (0)), .null, .int (zI (0)), .int (zI (4096)), .int (zI (0))])), (q25, .inl (cs.2.1 2, 60, .inr (.inr (.inr (.inr (va_up (fun _ => none) (zI (0)).toNatClampNeg (some q5))))))), (q50, .inl (cs.2.1 0, 4096, .inl (fun _ => zI 0)))] := hD
  refine lv_aload_n hx hb dX1_init_55 rfl (lv_at hl 0 rfl) ?_
  refine lv_iconst hx hb dX1_init_56 (v := zI (0)) (by decide) ?_
  refine va_put (D := cs.1) (ci := 1) (v := .int (zI (0))) (ty := tyX1 4) (C := RX1) (T := TX1) (N := 8) hx hb hts in_RX1 tyX1 tyX1_ok nmX1 hown hK hP hD hS 0 rfl rfl 4 (by decide) (hts _ fl_X1_30) (fun _ h9 => h9) rfl (tyX1_ok 4 (by decide)) (by decide) (by decide) (Nat.le_of_ble_eq_true rfl) dX1_init_57 (fun H locs hP hD hS => ?_)
  have hP : va_P cs.1 vwCl [(h0, .inr (1, [.ref q5, .ref q25, .int (zI (1)), .ref q50, .int (zI (0)), .int 0, .null, .int 0])), (q5, .inr (0, [.int (zI (0)), .null, .int (zI (0)), .int (zI (4096)), .int (zI (0))])), (q25, .inl (cs.2.1 2, 60, .inr (.inr (.inr (.inr (va_up (fun _ => none) (zI (0)).toNatClampNeg (some q5))))))), (q50, .inl (cs.2.1 0, 4096, .inl (fun _ => zI 0)))] H := hP
  have hD : va_D A [(h0, .inr (1, [.ref q5, .ref q25, .int (zI (1)), .ref q50, .int (zI (0)), .int 0, .null, .int 0])), (q5, .inr (0, [.int (zI (0)), .null, .int (zI (0)), .int (zI (4096)), .int (zI (0))])), (q25, .inl (cs.2.1 2, 60, .inr (.inr (.inr (.inr (va_up (fun _ => none) (zI (0)).toNatClampNeg (some q5))))))), (q50, .inl (cs.2.1 0, 4096, .inl (fun _ => zI 0)))] := hD
  refine lv_aload_n hx hb dX1_init_60 rfl (lv_at hl 0 rfl) ?_
  refine lv_iconst hx hb dX1_init_61 (v := zI (0)) (by decide) ?_
  refine va_put (D := cs.1) (ci := 1) (v := .int (zI (0))) (ty := tyX1 5) (C := RX1) (T := TX1) (N := 8) hx hb hts in_RX1 tyX1 tyX1_ok nmX1 hown hK hP hD hS 0 rfl rfl 5 (by decide) (hts _ fl_X1_33) (fun _ h9 => h9) rfl (tyX1_ok 5 (by decide)) (by decide) (by decide) (Nat.le_of_ble_eq_true rfl) dX1_init_62 (fun H locs hP hD hS => ?_)
  have hP : va_P cs.1 vwCl [(h0, .inr (1, [.ref q5, .ref q25, .int (zI (1)), .ref q50, .int (zI (0)), .int (zI (0)), .null, .int 0])), (q5, .inr (0, [.int (zI (0)), .null, .int (zI (0)), .int (zI (4096)), .int (zI (0))])), (q25, .inl (cs.2.1 2, 60, .inr (.inr (.inr (.inr (va_up (fun _ => none) (zI (0)).toNatClampNeg (some q5))))))), (q50, .inl (cs.2.1 0, 4096, .inl (fun _ => zI 0)))] H := hP
  have hD : va_D A [(h0, .inr (1, [.ref q5, .ref q25, .int (zI (1)), .ref q50, .int (zI (0)), .int (zI (0)), .null, .int 0])), (q5, .inr (0, [.int (zI (0)), .null, .int (zI (0)), .int (zI (4096)), .int (zI (0))])), (q25, .inl (cs.2.1 2, 60, .inr (.inr (.inr (.inr (va_up (fun _ => none) (zI (0)).toNatClampNeg (some q5))))))), (q50, .inl (cs.2.1 0, 4096, .inl (fun _ => zI 0)))] := hD
  refine lv_aload_n hx hb dX1_init_65 rfl (lv_at hl 0 rfl) ?_
  refine lv_sipush hx hb dX1_init_66 (v := zI (4096)) (by decide) ?_
  refine n_newa hx hb (hts _ ac_int) (ty := .int) rfl hK hP hD hS hA 0 rfl (by simp) (N' := 4096) (a0 := (4096, .inl (fun _ => zI 0))) (fun _ => rfl) (by decide) (by decide) (by decide) (Nat.le_of_ble_eq_true rfl) (Nat.le_of_ble_eq_true rfl) dX1_init_69 (fun q69 H hP hD hS => ?_)
  have hP : va_P cs.1 vwCl [(h0, .inr (1, [.ref q5, .ref q25, .int (zI (1)), .ref q50, .int (zI (0)), .int (zI (0)), .null, .int 0])), (q5, .inr (0, [.int (zI (0)), .null, .int (zI (0)), .int (zI (4096)), .int (zI (0))])), (q25, .inl (cs.2.1 2, 60, .inr (.inr (.inr (.inr (va_up (fun _ => none) (zI (0)).toNatClampNeg (some q5))))))), (q50, .inl (cs.2.1 0, 4096, .inl (fun _ => zI 0))), (q69, .inl (cs.2.1 0, 4096, .inl (fun _ => zI 0)))] H := hP
  have hD : va_D A [(h0, .inr (1, [.ref q5, .ref q25, .int (zI (1)), .ref q50, .int (zI (0)), .int (zI (0)), .null, .int 0])), (q5, .inr (0, [.int (zI (0)), .null, .int (zI (0)), .int (zI (4096)), .int (zI (0))])), (q25, .inl (cs.2.1 2, 60, .inr (.inr (.inr (.inr (va_up (fun _ => none) (zI (0)).toNatClampNeg (some q5))))))), (q50, .inl (cs.2.1 0, 4096, .inl (fun _ => zI 0))), (q69, .inl (cs.2.1 0, 4096, .inl (fun _ => zI 0)))] := hD
  refine va_putF (D := cs.1) (ci := 1) (v := .ref q69) (ty := tyX1 6) (C := RX1) (T := TX1) (N := 8) hx hb hts in_RX1 tyX1 tyX1_ok nmX1 hown hK hP hD hS 0 rfl rfl 6 (by decide) (hts _ fl_X1_36) (fun _ h9 => h9) rfl hin rfl (tyX1_ok 6 (by decide)) rfl rfl (Nat.le_of_ble_eq_true rfl) dX1_init_71 (fun H locs hP hD hS => ?_)
  have hP : va_P cs.1 vwCl [(h0, .inr (1, [.ref q5, .ref q25, .int (zI (1)), .ref q50, .int (zI (0)), .int (zI (0)), .ref q69, .int 0])), (q5, .inr (0, [.int (zI (0)), .null, .int (zI (0)), .int (zI (4096)), .int (zI (0))])), (q25, .inl (cs.2.1 2, 60, .inr (.inr (.inr (.inr (va_up (fun _ => none) (zI (0)).toNatClampNeg (some q5))))))), (q50, .inl (cs.2.1 0, 4096, .inl (fun _ => zI 0))), (q69, .inl (cs.2.1 0, 4096, .inl (fun _ => zI 0)))] H := hP
  have hD : va_D A [(h0, .inr (1, [.ref q5, .ref q25, .int (zI (1)), .ref q50, .int (zI (0)), .int (zI (0)), .ref q69, .int 0])), (q5, .inr (0, [.int (zI (0)), .null, .int (zI (0)), .int (zI (4096)), .int (zI (0))])), (q25, .inl (cs.2.1 2, 60, .inr (.inr (.inr (.inr (va_up (fun _ => none) (zI (0)).toNatClampNeg (some q5))))))), (q50, .inl (cs.2.1 0, 4096, .inl (fun _ => zI 0))), (q69, .inl (cs.2.1 0, 4096, .inl (fun _ => zI 0)))] := hD
  refine lv_aload_n hx hb dX1_init_74 rfl (lv_at hl 0 rfl) ?_
  refine lv_iconst hx hb dX1_init_75 (v := zI (0)) (by decide) ?_
  refine va_put (D := cs.1) (ci := 1) (v := .int (zI (0))) (ty := tyX1 7) (C := RX1) (T := TX1) (N := 8) hx hb hts in_RX1 tyX1 tyX1_ok nmX1 hown hK hP hD hS 0 rfl rfl 7 (by decide) (hts _ fl_X1_39) (fun _ h9 => h9) rfl (tyX1_ok 7 (by decide)) (by decide) (by decide) (Nat.le_of_ble_eq_true rfl) dX1_init_76 (fun H locs hP hD hS => ?_)
  have hP : va_P cs.1 vwCl [(h0, .inr (1, [.ref q5, .ref q25, .int (zI (1)), .ref q50, .int (zI (0)), .int (zI (0)), .ref q69, .int (zI (0))])), (q5, .inr (0, [.int (zI (0)), .null, .int (zI (0)), .int (zI (4096)), .int (zI (0))])), (q25, .inl (cs.2.1 2, 60, .inr (.inr (.inr (.inr (va_up (fun _ => none) (zI (0)).toNatClampNeg (some q5))))))), (q50, .inl (cs.2.1 0, 4096, .inl (fun _ => zI 0))), (q69, .inl (cs.2.1 0, 4096, .inl (fun _ => zI 0)))] H := hP
  have hD : va_D A [(h0, .inr (1, [.ref q5, .ref q25, .int (zI (1)), .ref q50, .int (zI (0)), .int (zI (0)), .ref q69, .int (zI (0))])), (q5, .inr (0, [.int (zI (0)), .null, .int (zI (0)), .int (zI (4096)), .int (zI (0))])), (q25, .inl (cs.2.1 2, 60, .inr (.inr (.inr (.inr (va_up (fun _ => none) (zI (0)).toNatClampNeg (some q5))))))), (q50, .inl (cs.2.1 0, 4096, .inl (fun _ => zI 0))), (q69, .inl (cs.2.1 0, 4096, .inl (fun _ => zI 0)))] := hD
  refine W.widen (k := 4) (n := 8257) (Nat.le_of_ble_eq_true rfl) (Nat.le_of_ble_eq_true rfl) ?_
  exact W.vret hx hb hr (fun t ht hW => ⟨⟨(q5, q25, q50, q69), rfl, trivial, by rw [ht]; exact hP, hD⟩, hS.F ht⟩) hS.2.2 dX1_init_79 hlocks
/-- the model -/
abbrev w_X2_init (cs : CSt) (h0 : Nat) (u : Nat × Nat × Nat × Nat × Nat × Nat × Nat) : va_W := [(h0, .inr (2, [.int 0, .ref u.1, .ref u.2.1, .ref u.2.2.1, .ref u.2.2.2.1, .ref u.2.2.2.2.1, .int (zI (1)), .ref u.2.2.2.2.2.1, .int 0, .int 0, .ref u.2.2.2.2.2.2])), (u.1, .inl (cs.2.1 0, 64, .inl (fun _ => zI 0))), (u.2.1, .inl (cs.2.1 0, 64, .inl (upd (fun _ => zI 0) (zI (0)).toNatClampNeg (zI (4096))))), (u.2.2.1, .inl (cs.2.1 0, 64, .inl (upd (fun _ => zI 0) (zI (0)).toNatClampNeg (zI (-1))))), (u.2.2.2.1, .inl (cs.2.1 0, 64, .inl (fun _ => zI 0))), (u.2.2.2.2.1, .inl (cs.2.1 1, 64, .inl (upd (fun _ => zI 0) (zI (0)).toNatClampNeg (vp_nar .boolean (zI (1)))))), (u.2.2.2.2.2.1, .inl (cs.2.1 0, 4096, .inl (fun _ => zI 0))), (u.2.2.2.2.2.2, .inl (cs.2.1 0, 4097, .inl (fun _ => zI 0)))]
set_option maxRecDepth 100000 in
theorem n_X2_init (l : Launch) (cs : CSt) (h0 sz : Nat) : Met l yX2_init (Cond.code yX2_init cX2_init 1 none :: GW) (rmL 2 7 8513) (va_Pc [.ref h0] (fun U => U.heap.size = sz ∧ va_P cs.1 vwCl [(h0, .inr (2, [.int 0, .null, .null, .null, .null, .null, .int 0, .null, .int 0, .int 0, .null]))] U.heap ∧ va_K cs.1 vwCl (gTy cs) U ∧ va_D (fun _ => True) [(h0, .inr (2, [.int 0, .null, .null, .null, .null, .null, .int 0, .null, .int 0, .int 0, .null]))])) (va_Qv (fun _ : Nat × Nat × Nat × Nat × Nat × Nat × Nat => True) (fun u t => va_P cs.1 vwCl (w_X2_init cs h0 u) t.heap ∧ va_D (va_A [(h0, .inr (2, [.int 0, .null, .null, .null, .null, .null, .int 0, .null, .int 0, .int 0, .null]))] sz) (w_X2_init cs h0 u)) (va_A [(h0, .inr (2, [.int 0, .null, .null, .null, .null, .null, .int 0, .null, .int 0, .int 0, .null]))] sz)) 7 8513 (va_A [(h0, .inr (2, [.int 0, .null, .null, .null, .null, .null, .int 0, .null, .int 0, .int 0, .null]))] sz) := by
  refine Met.ofW (cc := cX2_init) (maxL := 1) (ret := none) (by decide) rfl ?_
  intro p e s m args below meth c s₁ B hml hv
  obtain ⟨rfl, hsz, hP, hK, hD0⟩ := hv
  have hx := B.exec
  have hb := B.bytes
  have hr := B.returns
  have hts0 := atoms_spec (ws := Cond.code yX2_init cX2_init 1 none :: GW) B.pre
  have hts : ∀ w ∈ GW, w.before _ s = true := fun w hw => hts0 w (List.mem_cons_of_mem _ hw)
  have hown : s.vm.findClass RX2 = some m.cls := findClass_of_methodNamed B.named
  have hlocks := B.notSynchronized
  have hin : meth.name = "<init>" := (name_of_methodNamed B.named B.method).1
  subst hsz
  have hD := hD0.self (sz := s.heap.size)
  generalize hAe : va_A [(h0, .inr (2, [.int 0, .null, .null, .null, .null, .null, .int 0, .null, .int 0, .int 0, .null]))] s.heap.size = A at hD ⊢
  have hA : ∀ q : Nat, s.heap.size ≤ q → A q := fun q h => by rw [← hAe]; exact Or.inr h
  have hS : va_S A s.heap s.heap [] := va_S.rf
  have hP : va_P cs.1 vwCl [(h0, .inr (2, [.int 0, .null, .null, .null, .null, .null, .int 0, .null, .int 0, .int 0, .null]))] s.heap := hP
  have hl := lv_entry ([.ref h0]) (n := 1) (Nat.le_of_ble_eq_true rfl)
  rw [lg_entry_eq]
  generalize (lg_sl ([.ref h0]) ++ List.replicate (1 - (lg_sl ([.ref h0])).length) Slot.unset).toArray = ls at hl ⊢
  have hl : lv_has ls 1 [(0, .ref h0)] := hl
  refine lv_aload_n hx hb dX2_init_0 rfl (lv_at hl 0 rfl) ?_
  refine W.objInit hx hb hown (hts _ ml_X2_1) (hts _ ob_i) (hts _ ob_c) rfl (by rw [hml]; exact hl.1) rfl dX2_init_1 (Nat.le_of_ble_eq_true rfl) (Nat.le_of_ble_eq_true rfl) ?_
  refine W.eq (g2 := F0 m 4 ls []) rfl ?_
  refine lv_aload_n hx hb dX2_init_4 rfl (lv_at hl 0 rfl) ?_
  refine lv_bipush hx hb dX2_init_5 (v := zI (64)) (by decide) ?_
  refine n_newa hx hb (hts _ ac_int) (ty := .int) rfl hK hP hD hS hA 0 rfl (by simp) (N' := 64) (a0 := (64, .inl (fun _ => zI 0))) (fun _ => rfl) (by decide) (by decide) (by decide) (Nat.le_of_ble_eq_true rfl) (Nat.le_of_ble_eq_true rfl) dX2_init_7 (fun q7 H hP hD hS => ?_)
  have hP : va_P cs.1 vwCl [(h0, .inr (2, [.int 0, .null, .null, .null, .null, .null, .int 0, .null, .int 0, .int 0, .null])), (q7, .inl (cs.2.1 0, 64, .inl (fun _ => zI 0)))] H := hP
  have hD : va_D A [(h0, .inr (2, [.int 0, .null, .null, .null, .null, .null, .int 0, .null, .int 0, .int 0, .null])), (q7, .inl (cs.2.1 0, 64, .inl (fun _ => zI 0)))] := hD
  refine va_putF (D := cs.1) (ci := 2) (v := .ref q7) (ty := tyX2 1) (C := RX2) (T := TX2) (N := 11) hx hb hts in_RX2 tyX2 tyX2_ok nmX2 hown hK hP hD hS 0 rfl rfl 1 (by decide) (hts _ fl_X2_7) (fun _ h9 => h9) rfl hin rfl (tyX2_ok 1 (by decide)) rfl rfl (Nat.le_of_ble_eq_true rfl) dX2_init_9 (fun H locs hP hD hS => ?_)
  have hP : va_P cs.1 vwCl [(h0, .inr (2, [.int 0, .ref q7, .null, .null, .null, .null, .int 0, .null, .int 0, .int 0, .null])), (q7, .inl (cs.2.1 0, 64, .inl (fun _ => zI 0)))] H := hP
  have hD : va_D A [(h0, .inr (2, [.int 0, .ref q7, .null, .null, .null, .null, .int 0, .null, .int 0, .int 0, .null])), (q7, .inl (cs.2.1 0, 64, .inl (fun _ => zI 0)))] := hD
  refine lv_aload_n hx hb dX2_init_12 rfl (lv_at hl 0 rfl) ?_
  refine lv_bipush hx hb dX2_init_13 (v := zI (64)) (by decide) ?_
  refine n_newa hx hb (hts _ ac_int) (ty := .int) rfl hK hP hD hS hA 0 rfl (by simp) (N' := 64) (a0 := (64, .inl (fun _ => zI 0))) (fun _ => rfl) (by decide) (by decide) (by decide) (Nat.le_of_ble_eq_true rfl) (Nat.le_of_ble_eq_true rfl) dX2_init_15 (fun q15 H hP hD hS => ?_)
  have hP : va_P cs.1 vwCl [(h0, .inr (2, [.int 0, .ref q7, .null, .null, .null, .null, .int 0, .null, .int 0, .int 0, .null])), (q7, .inl (cs.2.1 0, 64, .inl (fun _ => zI 0))), (q15, .inl (cs.2.1 0, 64, .inl (fun _ => zI 0)))] H := hP
  have hD : va_D A [(h0, .inr (2, [.int 0, .ref q7, .null, .null, .null, .null, .int 0, .null, .int 0, .int 0, .null])), (q7, .inl (cs.2.1 0, 64, .inl (fun _ => zI 0))), (q15, .inl (cs.2.1 0, 64, .inl (fun _ => zI 0)))] := hD
  refine va_putF (D := cs.1) (ci := 2) (v := .ref q15) (ty := tyX2 2) (C := RX2) (T := TX2) (N := 11) hx hb hts in_RX2 tyX2 tyX2_ok nmX2 hown hK hP hD hS 0 rfl rfl 2 (by decide) (hts _ fl_X2_13) (fun _ h9 => h9) rfl hin rfl (tyX2_ok 2 (by decide)) rfl rfl (Nat.le_of_ble_eq_true rfl) dX2_init_17 (fun H locs hP hD hS => ?_)
  have hP : va_P cs.1 vwCl [(h0, .inr (2, [.int 0, .ref q7, .ref q15, .null, .null, .null, .int 0, .null, .int 0, .int 0, .null])), (q7, .inl (cs.2.1 0, 64, .inl (fun _ => zI 0))), (q15, .inl (cs.2.1 0, 64, .inl (fun _ => zI 0)))] H := hP
  have hD : va_D A [(h0, .inr (2, [.int 0, .ref q7, .ref q15, .null, .null, .null, .int 0, .null, .int 0, .int 0, .null])), (q7, .inl (cs.2.1 0, 64, .inl (fun _ => zI 0))), (q15, .inl (cs.2.1 0, 64, .inl (fun _ => zI 0)))] := hD
  refine lv_aload_n hx hb dX2_init_20 rfl (lv_at hl 0 rfl) ?_
  refine lv_bipush hx hb dX2_init_21 (v := zI (64)) (by decide) ?_
  refine n_newa hx hb (hts _ ac_int) (ty := .int) rfl hK hP hD hS hA 0 rfl (by simp) (N' := 64) (a0 := (64, .inl (fun _ => zI 0))) (fun _ => rfl) (by decide) (by decide) (by decide) (Nat.le_of_ble_eq_true rfl) (Nat.le_of_ble_eq_true rfl) dX2_init_23 (fun q23 H hP hD hS => ?_)
  have hP : va_P cs.1 vwCl [(h0, .inr (2, [.int 0, .ref q7, .ref q15, .null, .null, .null, .int 0, .null, .int 0, .int 0, .null])), (q7, .inl (cs.2.1 0, 64, .inl (fun _ => zI 0))), (q15, .inl (cs.2.1 0, 64, .inl (fun _ => zI 0))), (q23, .inl (cs.2.1 0, 64, .inl (fun _ => zI 0)))] H := hP
  have hD : va_D A [(h0, .inr (2, [.int 0, .ref q7, .ref q15, .null, .null, .null, .int 0, .null, .int 0, .int 0, .null])), (q7, .inl (cs.2.1 0, 64, .inl (fun _ => zI 0))), (q15, .inl (cs.2.1 0, 64, .inl (fun _ => zI 0))), (q23, .inl (cs.2.1 0, 64, .inl (fun _ => zI 0)))] := hD
  refine va_putF (D := cs.1) (ci := 2) (v := .ref q23) (ty := tyX2 3) (C := RX2) (T := TX2) (N := 11) hx hb hts in_RX2 tyX2 tyX2_ok nmX2 hown hK hP hD hS 0 rfl rfl 3 (by decide) (hts _ fl_X2_16) (fun _ h9 => h9) rfl hin rfl (tyX2_ok 3 (by decide)) rfl rfl (Nat.le_of_ble_eq_true rfl) dX2_init_25 (fun H locs hP hD hS => ?_)
  have hP : va_P cs.1 vwCl [(h0, .inr (2, [.int 0, .ref q7, .ref q15, .ref q23, .null, .null, .int 0, .null, .int 0, .int 0, .null])), (q7, .inl (cs.2.1 0, 64, .inl (fun _ => zI 0))), (q15, .inl (cs.2.1 0, 64, .inl (fun _ => zI 0))), (q23, .inl (cs.2.1 0, 64, .inl (fun _ => zI 0)))] H := hP
  have hD : va_D A [(h0, .inr (2, [.int 0, .ref q7, .ref q15, .ref q23, .null, .null, .int 0, .null, .int 0, .int 0, .null])), (q7, .inl (cs.2.1 0, 64, .inl (fun _ => zI 0))), (q15, .inl (cs.2.1 0, 64, .inl (fun _ => zI 0))), (q23, .inl (cs.2.1 0, 64, .inl (fun _ => zI 0)))] := hD
  refine lv_aload_n hx hb dX2_init_28 rfl (lv_at hl 0 rfl) ?_
  refine lv_bipush hx hb dX2_init_29 (v := zI (64)) (by decide) ?_
  refine n_newa hx hb (hts _ ac_int) (ty := .int) rfl hK hP hD hS hA 0 rfl (by simp) (N' := 64) (a0 := (64, .inl (fun _ => zI 0))) (fun _ => rfl) (by decide) (by decide) (by decide) (Nat.le_of_ble_eq_true rfl) (Nat.le_of_ble_eq_true rfl) dX2_init_31 (fun q31 H hP hD hS => ?_)
  have hP : va_P cs.1 vwCl [(h0, .inr (2, [.int 0, .ref q7, .ref q15, .ref q23, .null, .null, .int 0, .null, .int 0, .int 0, .null])), (q7, .inl (cs.2.1 0, 64, .inl (fun _ => zI 0))), (q15, .inl (cs.2.1 0, 64, .inl (fun _ => zI 0))), (q23, .inl (cs.2.1 0, 64, .inl (fun _ => zI 0))), (q31, .inl (cs.2.1 0, 64, .inl (fun _ => zI 0)))] H := hP
  have hD : va_D A [(h0, .inr (2, [.int 0, .ref q7, .ref q15, .ref q23, .null, .null, .int 0, .null, .int 0, .int 0, .null])), (q7, .inl (cs.2.1 0, 64, .inl (fun _ => zI 0))), (q15, .inl (cs.2.1 0, 64, .inl (fun _ => zI 0))), (q23, .inl (cs.2.1 0, 64, .inl (fun _ => zI 0))), (q31, .inl (cs.2.1 0, 64, .inl (fun _ => zI 0)))] := hD
  refine va_putF (D := cs.1) (ci := 2) (v := .ref q31) (ty := tyX2 4) (C := RX2) (T := TX2) (N := 11) hx hb hts in_RX2 tyX2 tyX2_ok nmX2 hown hK hP hD hS 0 rfl rfl 4 (by decide) (hts _ fl_X2_19) (fun _ h9 => h9) rfl hin rfl (tyX2_ok 4 (by decide)) rfl rfl (Nat.le_of_ble_eq_true rfl) dX2_init_33 (fun H locs hP hD hS => ?_)
  have hP : va_P cs.1 vwCl [(h0, .inr (2, [.int 0, .ref q7, .ref q15, .ref q23, .ref q31, .null, .int 0, .null, .int 0, .int 0, .null])), (q7, .inl (cs.2.1 0, 64, .inl (fun _ => zI 0))), (q15, .inl (cs.2.1 0, 64, .inl (fun _ => zI 0))), (q23, .inl (cs.2.1 0, 64, .inl (fun _ => zI 0))), (q31, .inl (cs.2.1 0, 64, .inl (fun _ => zI 0)))] H := hP
  have hD : va_D A [(h0, .inr (2, [.int 0, .ref q7, .ref q15, .ref q23, .ref q31, .null, .int 0, .null, .int 0, .int 0, .null])), (q7, .inl (cs.2.1 0, 64, .inl (fun _ => zI 0))), (q15, .inl (cs.2.1 0, 64, .inl (fun _ => zI 0))), (q23, .inl (cs.2.1 0, 64, .inl (fun _ => zI 0))), (q31, .inl (cs.2.1 0, 64, .inl (fun _ => zI 0)))] := hD
  refine lv_aload_n hx hb dX2_init_36 rfl (lv_at hl 0 rfl) ?_
  refine lv_bipush hx hb dX2_init_37 (v := zI (64)) (by decide) ?_
  refine n_newa hx hb (hts _ ac_boolean) (ty := .boolean) rfl hK hP hD hS hA 1 rfl (by simp) (N' := 64) (a0 := (64, .inl (fun _ => zI 0))) (fun _ => rfl) (by decide) (by decide) (by decide) (Nat.le_of_ble_eq_true rfl) (Nat.le_of_ble_eq_true rfl) dX2_init_39 (fun q39 H hP hD hS => ?_)
  have hP : va_P cs.1 vwCl [(h0, .inr (2, [.int 0, .ref q7, .ref q15, .ref q23, .ref q31, .null, .int 0, .null, .int 0, .int 0, .null])), (q7, .inl (cs.2.1 0, 64, .inl (fun _ => zI 0))), (q15, .inl (cs.2.1 0, 64, .inl (fun _ => zI 0))), (q23, .inl (cs.2.1 0, 64, .inl (fun _ => zI 0))), (q31, .inl (cs.2.1 0, 64, .inl (fun _ => zI 0))), (q39, .inl (cs.2.1 1, 64, .inl (fun _ => zI 0)))] H := hP
  have hD : va_D A [(h0, .inr (2, [.int 0, .ref q7, .ref q15, .ref q23, .ref q31, .null, .int 0, .null, .int 0, .int 0, .null])), (q7, .inl (cs.2.1 0, 64, .inl (fun _ => zI 0))), (q15, .inl (cs.2.1 0, 64, .inl (fun _ => zI 0))), (q23, .inl (cs.2.1 0, 64, .inl (fun _ => zI 0))), (q31, .inl (cs.2.1 0, 64, .inl (fun _ => zI 0))), (q39, .inl (cs.2.1 1, 64, .inl (fun _ => zI 0)))] := hD
  refine va_putF (D := cs.1) (ci := 2) (v := .ref q39) (ty := tyX2 5) (C := RX2) (T := TX2) (N := 11) hx hb hts in_RX2 tyX2 tyX2_ok nmX2 hown hK hP hD hS 0 rfl rfl 5 (by decide) (hts _ fl_X2_22) (fun _ h9 => h9) rfl hin rfl (tyX2_ok 5 (by decide)) rfl rfl (Nat.le_of_ble_eq_true rfl) dX2_init_41 (fun H locs hP hD hS => ?_)
  have hP : va_P cs.1 vwCl [(h0, .inr (2, [.int 0, .ref q7, .ref q15, .ref q23, .ref q31, .ref q39, .int 0, .null, .int 0, .int 0, .null])), (q7, .inl (cs.2.1 0, 64, .inl (fun _ => zI 0))), (q15, .inl (cs.2.1 0, 64, .inl (fun _ => zI 0))), (q23, .inl (cs.2.1 0, 64, .inl (fun _ => zI 0))), (q31, .inl (cs.2.1 0, 64, .inl (fun _ => zI 0))), (q39, .inl (cs.2.1 1, 64, .inl (fun _ => zI 0)))] H := hP
  have hD : va_D A [(h0, .inr (2, [.int 0, .ref q7, .ref q15, .ref q23, .ref q31, .ref q39, .int 0, .null, .int 0, .int 0, .null])), (q7, .inl (cs.2.1 0, 64, .inl (fun _ => zI 0))), (q15, .inl (cs.2.1 0, 64, .inl (fun _ => zI 0))), (q23, .inl (cs.2.1 0, 64, .inl (fun _ => zI 0))), (q31, .inl (cs.2.1 0, 64, .inl (fun _ => zI 0))), (q39, .inl (cs.2.1 1, 64, .inl (fun _ => zI 0)))] := hD
  refine lv_aload_n hx hb dX2_init_44 rfl (lv_at hl 0 rfl) ?_
  refine lv_iconst hx hb dX2_init_45 (v := zI (1)) (by decide) ?_
  refine va_put (D := cs.1) (ci := 2) (v := .int (zI (1))) (ty := tyX2 6) (C := RX2) (T := TX2) (N := 11) hx hb hts in_RX2 tyX2 tyX2_ok nmX2 hown hK hP hD hS 0 rfl rfl 6 (by decide) (hts _ fl_X2_26) (fun _ h9 => h9) rfl (tyX2_ok 6 (by decide)) (by decide) (by decide) (Nat.le_of_ble_eq_true rfl) dX2_init_46 (fun H locs hP hD hS => ?_)
  have hP : va_P cs.1 vwCl [(h0, .inr (2, [.int 0, .ref q7, .ref q15, .ref q23, .ref q31, .ref q39, .int (zI (1)), .null, .int 0, .int 0, .null])), (q7, .inl (cs.2.1 0, 64, .inl (fun _ => zI 0))), (q15, .inl (cs.2.1 0, 64, .inl (fun _ => zI 0))), (q23, .inl (cs.2.1 0, 64, .inl (fun _ => zI 0))), (q31, .inl (cs.2.1 0, 64, .inl (fun _ => zI 0))), (q39, .inl (cs.2.1 1, 64, .inl (fun _ => zI 0)))] H := hP
  have hD : va_D A [(h0, .inr (2, [.int 0, .ref q7, .ref q15, .ref q23, .ref q31, .ref q39, .int (zI (1)), .null, .int 0, .int 0, .null])), (q7, .inl (cs.2.1 0, 64, .inl (fun _ => zI 0))), (q15, .inl (cs.2.1 0, 64, .inl (fun _ => zI 0))), (q23, .inl (cs.2.1 0, 64, .inl (fun _ => zI 0))), (q31, .inl (cs.2.1 0, 64, .inl (fun _ => zI 0))), (q39, .inl (cs.2.1 1, 64, .inl (fun _ => zI 0)))] := hD
  refine lv_aload_n hx hb dX2_init_49 rfl (lv_at hl 0 rfl) ?_
  refine lv_sipush hx hb dX2_init_50 (v := zI (4096)) (by decide) ?_
  refine n_newa hx hb (hts _ ac_int) (ty := .int) rfl hK hP hD hS hA 0 rfl (by simp) (N' := 4096) (a0 := (4096, .inl (fun _ => zI 0))) (fun _ => rfl) (by decide) (by decide) (by decide) (Nat.le_of_ble_eq_true rfl) (Nat.le_of_ble_eq_true rfl) dX2_init_53 (fun q53 H hP hD hS => ?_)
  have hP : va_P cs.1 vwCl [(h0, .inr (2, [.int 0, .ref q7, .ref q15, .ref q23, .ref q31, .ref q39, .int (zI (1)), .null, .int 0, .int 0, .null])), (q7, .inl (cs.2.1 0, 64, .inl (fun _ => zI 0))), (q15, .inl (cs.2.1 0, 64, .inl (fun _ => zI 0))), (q23, .inl (cs.2.1 0, 64, .inl (fun _ => zI 0))), (q31, .inl (cs.2.1 0, 64, .inl (fun _ => zI 0))), (q39, .inl (cs.2.1 1, 64, .inl (fun _ => zI 0))), (q53, .inl (cs.2.1 0, 4096, .inl (fun _ => zI 0)))] H := hP
  have hD : va_D A [(h0, .inr (2, [.int 0, .ref q7, .ref q15, .ref q23, .ref q31, .ref q39, .int (zI (1)), .null, .int 0, .int 0, .null])), (q7, .inl (cs.2.1 0, 64, .inl (fun _ => zI 0))), (q15, .inl (cs.2.1 0, 64, .inl (fun _ => zI 0))), (q23, .inl (cs.2.1 0, 64, .inl (fun _ => zI 0))), (q31, .inl (cs.2.1 0, 64, .inl (fun _ => zI 0))), (q39, .inl (cs.2.1 1, 64, .inl (fun _ => zI 0))), (q53, .inl (cs.2.1 0, 4096, .inl (fun _ => zI 0)))] := hD
  refine va_putF (D := cs.1) (ci := 2) (v := .ref q53) (ty := tyX2 7) (C := RX2) (T := TX2) (N := 11) hx hb hts in_RX2 tyX2 tyX2_ok nmX2 hown hK hP hD hS 0 rfl rfl 7 (by decide) (hts _ fl_X2_30) (fun _ h9 => h9) rfl hin rfl (tyX2_ok 7 (by decide)) rfl rfl (Nat.le_of_ble_eq_true rfl) dX2_init_55 (fun H locs hP hD hS => ?_)
  have hP : va_P cs.1 vwCl [(h0, .inr (2, [.int 0, .ref q7, .ref q15, .ref q23, .ref q31, .ref q39, .int (zI (1)), .ref q53, .int 0, .int 0, .null])), (q7, .inl (cs.2.1 0, 64, .inl (fun _ => zI 0))), (q15, .inl (cs.2.1 0, 64, .inl (fun _ => zI 0))), (q23, .inl (cs.2.1 0, 64, .inl (fun _ => zI 0))), (q31, .inl (cs.2.1 0, 64, .inl (fun _ => zI 0))), (q39, .inl (cs.2.1 1, 64, .inl (fun _ => zI 0))), (q53, .inl (cs.2.1 0, 4096, .inl (fun _ => zI 0)))] H := hP
  have hD : va_D A [(h0, .inr (2, [.int 0, .ref q7, .ref q15, .ref q23, .ref q31, .ref q39, .int (zI (1)), .ref q53, .int 0, .int 0, .null])), (q7, .inl (cs.2.1 0, 64, .inl (fun _ => zI 0))), (q15, .inl (cs.2.1 0, 64, .inl (fun _ => zI 0))), (q23, .inl (cs.2.1 0, 64, .inl (fun _ => zI 0))), (q31, .inl (cs.2.1 0, 64, .inl (fun _ => zI 0))), (q39, .inl (cs.2.1 1, 64, .inl (fun _ => zI 0))), (q53, .inl (cs.2.1 0, 4096, .inl (fun _ => zI 0)))] := hD
  refine lv_aload_n hx hb dX2_init_58 rfl (lv_at hl 0 rfl) ?_
  refine lv_sipush hx hb dX2_init_59 (v := zI (4097)) (by decide) ?_
  refine n_newa hx hb (hts _ ac_int) (ty := .int) rfl hK hP hD hS hA 0 rfl (by simp) (N' := 4097) (a0 := (4097, .inl (fun _ => zI 0))) (fun _ => rfl) (by decide) (by decide) (by decide) (Nat.le_of_ble_eq_true rfl) (Nat.le_of_ble_eq_true rfl) dX2_init_62 (fun q62 H hP hD hS => ?_)
  have hP : va_P cs.1 vwCl [(h0, .inr (2, [.int 0, .ref q7, .ref q15, .ref q23, .ref q31, .ref q39, .int (zI (1)), .ref q53, .int 0, .int 0, .null])), (q7, .inl (cs.2.1 0, 64, .inl (fun _ => zI 0))), (q15, .inl (cs.2.1 0, 64, .inl (fun _ => zI 0))), (q23, .inl (cs.2.1 0, 64, .inl (fun _ => zI 0))), (q31, .inl (cs.2.1 0, 64, .inl (fun _ => zI 0))), (q39, .inl (cs.2.1 1, 64, .inl (fun _ => zI 0))), (q53, .inl (cs.2.1 0, 4096, .inl (fun _ => zI 0))), (q62, .inl (cs.2.1 0, 4097, .inl (fun _ => zI 0)))] H := hP
  have hD : va_D A [(h0, .inr (2, [.int 0, .ref q7, .ref q15, .ref q23, .ref q31, .ref q39, .int (zI (1)), .ref q53, .int 0, .int 0, .null])), (q7, .inl (cs.2.1 0, 64, .inl (fun _ => zI 0))), (q15, .inl (cs.2.1 0, 64, .inl (fun _ => zI 0))), (q23, .inl (cs.2.1 0, 64, .inl (fun _ => zI 0))), (q31, .inl (cs.2.1 0, 64, .inl (fun _ => zI 0))), (q39, .inl (cs.2.1 1, 64, .inl (fun _ => zI 0))), (q53, .inl (cs.2.1 0, 4096, .inl (fun _ => zI 0))), (q62, .inl (cs.2.1 0, 4097, .inl (fun _ => zI 0)))] := hD
  refine va_putF (D := cs.1) (ci := 2) (v := .ref q62) (ty := tyX2 10) (C := RX2) (T := TX2) (N := 11) hx hb hts in_RX2 tyX2 tyX2_ok nmX2 hown hK hP hD hS 0 rfl rfl 10 (by decide) (hts _ fl_X2_33) (fun _ h9 => h9) rfl hin rfl (tyX2_ok 10 (by decide)) rfl rfl (Nat.le_of_ble_eq_true rfl) dX2_init_64 (fun H locs hP hD hS => ?_)
  have hP : va_P cs.1 vwCl [(h0, .inr (2, [.int 0, .ref q7, .ref q15, .ref q23, .ref q31, .ref q39, .int (zI (1)), .ref q53, .int 0, .int 0, .ref q62])), (q7, .inl (cs.2.1 0, 64, .inl (fun _ => zI 0))), (q15, .inl (cs.2.1 0, 64, .inl (fun _ => zI 0))), (q23, .inl (cs.2.1 0, 64, .inl (fun _ => zI 0))), (q31, .inl (cs.2.1 0, 64, .inl (fun _ => zI 0))), (q39, .inl (cs.2.1 1, 64, .inl (fun _ => zI 0))), (q53, .inl (cs.2.1 0, 4096, .inl (fun _ => zI 0))), (q62, .inl (cs.2.1 0, 4097, .inl (fun _ => zI 0)))] H := hP
  have hD : va_D A [(h0, .inr (2, [.int 0, .ref q7, .ref q15, .ref q23, .ref q31, .ref q39, .int (zI (1)), .ref q53, .int 0, .int 0, .ref q62])), (q7, .inl (cs.2.1 0, 64, .inl (fun _ => zI 0))), (q15, .inl (cs.2.1 0, 64, .inl (fun _ => zI 0))), (q23, .inl (cs.2.1 0, 64, .inl (fun _ => zI 0))), (q31, .inl (cs.2.1 0, 64, .inl (fun _ => zI 0))), (q39, .inl (cs.2.1 1, 64, .inl (fun _ => zI 0))), (q53, .inl (cs.2.1 0, 4096, .inl (fun _ => zI 0))), (q62, .inl (cs.2.1 0, 4097, .inl (fun _ => zI 0)))] := hD
  refine lv_aload_n hx hb dX2_init_67 rfl (lv_at hl 0 rfl) ?_
  refine va_get (D := cs.1) (ci := 2) (v := .ref q15) (C := RX2) (T := TX2) (N := 11) hx hb hts in_RX2 hown hK hP 0 rfl rfl 2 (by decide) (hts _ fl_X2_13) (fun _ h9 => h9) rfl dX2_init_68 ?_
  refine lv_iconst hx hb dX2_init_71 (v := zI (0)) (by decide) ?_
  refine lv_sipush hx hb dX2_init_72 (v := zI (4096)) (by decide) ?_
  refine va_iast hx hb hK hP hD hS 2 0 rfl rfl (zI_in (by decide) (by decide)) dX2_init_75 (fun H locs hP hD hS => ?_)
  have hP : va_P cs.1 vwCl [(h0, .inr (2, [.int 0, .ref q7, .ref q15, .ref q23, .ref q31, .ref q39, .int (zI (1)), .ref q53, .int 0, .int 0, .ref q62])), (q7, .inl (cs.2.1 0, 64, .inl (fun _ => zI 0))), (q15, .inl (cs.2.1 0, 64, .inl (upd (fun _ => zI 0) (zI (0)).toNatClampNeg (zI (4096))))), (q23, .inl (cs.2.1 0, 64, .inl (fun _ => zI 0))), (q31, .inl (cs.2.1 0, 64, .inl (fun _ => zI 0))), (q39, .inl (cs.2.1 1, 64, .inl (fun _ => zI 0))), (q53, .inl (cs.2.1 0, 4096, .inl (fun _ => zI 0))), (q62, .inl (cs.2.1 0, 4097, .inl (fun _ => zI 0)))] H := hP
  have hD : va_D A [(h0, .inr (2, [.int 0, .ref q7, .ref q15, .ref q23, .ref q31, .ref q39, .int (zI (1)), .ref q53, .int 0, .int 0, .ref q62])), (q7, .inl (cs.2.1 0, 64, .inl (fun _ => zI 0))), (q15, .inl (cs.2.1 0, 64, .inl (upd (fun _ => zI 0) (zI (0)).toNatClampNeg (zI (4096))))), (q23, .inl (cs.2.1 0, 64, .inl (fun _ => zI 0))), (q31, .inl (cs.2.1 0, 64, .inl (fun _ => zI 0))), (q39, .inl (cs.2.1 1, 64, .inl (fun _ => zI 0))), (q53, .inl (cs.2.1 0, 4096, .inl (fun _ => zI 0))), (q62, .inl (cs.2.1 0, 4097, .inl (fun _ => zI 0)))] := hD
  refine lv_aload_n hx hb dX2_init_76 rfl (lv_at hl 0 rfl) ?_
  refine va_get (D := cs.1) (ci := 2) (v := .ref q23) (C := RX2) (T := TX2) (N := 11) hx hb hts in_RX2 hown hK hP 0 rfl rfl 3 (by decide) (hts _ fl_X2_16) (fun _ h9 => h9) rfl dX2_init_77 ?_
  refine lv_iconst hx hb dX2_init_80 (v := zI (0)) (by decide) ?_
  refine lv_iconst hx hb dX2_init_81 (v := zI (-1)) (by decide) ?_
  refine va_iast hx hb hK hP hD hS 3 0 rfl rfl (zI_in (by decide) (by decide)) dX2_init_82 (fun H locs hP hD hS => ?_)
  have hP : va_P cs.1 vwCl [(h0, .inr (2, [.int 0, .ref q7, .ref q15, .ref q23, .ref q31, .ref q39, .int (zI (1)), .ref q53, .int 0, .int 0, .ref q62])), (q7, .inl (cs.2.1 0, 64, .inl (fun _ => zI 0))), (q15, .inl (cs.2.1 0, 64, .inl (upd (fun _ => zI 0) (zI (0)).toNatClampNeg (zI (4096))))), (q23, .inl (cs.2.1 0, 64, .inl (upd (fun _ => zI 0) (zI (0)).toNatClampNeg (zI (-1))))), (q31, .inl (cs.2.1 0, 64, .inl (fun _ => zI 0))), (q39, .inl (cs.2.1 1, 64, .inl (fun _ => zI 0))), (q53, .inl (cs.2.1 0, 4096, .inl (fun _ => zI 0))), (q62, .inl (cs.2.1 0, 4097, .inl (fun _ => zI 0)))] H := hP
  have hD : va_D A [(h0, .inr (2, [.int 0, .ref q7, .ref q15, .ref q23, .ref q31, .ref q39, .int (zI (1)), .ref q53, .int 0, .int 0, .ref q62])), (q7, .inl (cs.2.1 0, 64, .inl (fun _ => zI 0))), (q15, .inl (cs.2.1 0, 64, .inl (upd (fun _ => zI 0) (zI (0)).toNatClampNeg (zI (4096))))), (q23, .inl (cs.2.1 0, 64, .inl (upd (fun _ => zI 0) (zI (0)).toNatClampNeg (zI (-1))))), (q31, .inl (cs.2.1 0, 64, .inl (fun _ => zI 0))), (q39, .inl (cs.2.1 1, 64, .inl (fun _ => zI 0))), (q53, .inl (cs.2.1 0, 4096, .inl (fun _ => zI 0))), (q62, .inl (cs.2.1 0, 4097, .inl (fun _ => zI 0)))] := hD
  refine lv_aload_n hx hb dX2_init_83 rfl (lv_at hl 0 rfl) ?_
  refine va_get (D := cs.1) (ci := 2) (v := .ref q39) (C := RX2) (T := TX2) (N := 11) hx hb hts in_RX2 hown hK hP 0 rfl rfl 5 (by decide) (hts _ fl_X2_22) (fun _ h9 => h9) rfl dX2_init_84 ?_
  refine lv_iconst hx hb dX2_init_87 (v := zI (0)) (by decide) ?_
  refine lv_iconst hx hb dX2_init_88 (v := zI (1)) (by decide) ?_
  refine va_zast hx hb hK hP hD hS 5 1 rfl rfl (zI_in (by decide) (by decide)) dX2_init_89 (fun H locs hP hD hS => ?_)
  have hP : va_P cs.1 vwCl [(h0, .inr (2, [.int 0, .ref q7, .ref q15, .ref q23, .ref q31, .ref q39, .int (zI (1)), .ref q53, .int 0, .int 0, .ref q62])), (q7, .inl (cs.2.1 0, 64, .inl (fun _ => zI 0))), (q15, .inl (cs.2.1 0, 64, .inl (upd (fun _ => zI 0) (zI (0)).toNatClampNeg (zI (4096))))), (q23, .inl (cs.2.1 0, 64, .inl (upd (fun _ => zI 0) (zI (0)).toNatClampNeg (zI (-1))))), (q31, .inl (cs.2.1 0, 64, .inl (fun _ => zI 0))), (q39, .inl (cs.2.1 1, 64, .inl (upd (fun _ => zI 0) (zI (0)).toNatClampNeg (vp_nar .boolean (zI (1)))))), (q53, .inl (cs.2.1 0, 4096, .inl (fun _ => zI 0))), (q62, .inl (cs.2.1 0, 4097, .inl (fun _ => zI 0)))] H := hP
  have hD : va_D A [(h0, .inr (2, [.int 0, .ref q7, .ref q15, .ref q23, .ref q31, .ref q39, .int (zI (1)), .ref q53, .int 0, .int 0, .ref q62])), (q7, .inl (cs.2.1 0, 64, .inl (fun _ => zI 0))), (q15, .inl (cs.2.1 0, 64, .inl (upd (fun _ => zI 0) (zI (0)).toNatClampNeg (zI (4096))))), (q23, .inl (cs.2.1 0, 64, .inl (upd (fun _ => zI 0) (zI (0)).toNatClampNeg (zI (-1))))), (q31, .inl (cs.2.1 0, 64, .inl (fun _ => zI 0))), (q39, .inl (cs.2.1 1, 64, .inl (upd (fun _ => zI 0) (zI (0)).toNatClampNeg (vp_nar .boolean (zI (1)))))), (q53, .inl (cs.2.1 0, 4096, .inl (fun _ => zI 0))), (q62, .inl (cs.2.1 0, 4097, .inl (fun _ => zI 0)))] := hD
  refine W.widen (k := 7) (n := 8513) (Nat.le_of_ble_eq_true rfl) (Nat.le_of_ble_eq_true rfl) ?_
  exact W.vret hx hb hr (fun t ht hW => ⟨⟨(q7, q15, q23, q31, q39, q53, q62), rfl, trivial, by rw [ht]; exact hP, hD⟩, hS.F ht⟩) hS.2.2 dX2_init_90 hlocks
