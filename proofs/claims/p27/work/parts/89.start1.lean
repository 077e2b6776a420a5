theorem initY_d : yX1_init.cls ≠ "java/lang/invoke/MethodHandle" ∧ yX1_init.cls ≠ "java/lang/invoke/VarHandle" ∧ (parseMethodDescriptor yX1_init.desc).map (fun d => d.parameters.length) = some 0 := by decide +kernel
set_option maxRecDepth 100000 in
/-- YOUR PART: from the entry, for every script of at most 260 ints, the law comes to its end with true ('hflags': the launch's flags, for a law that throws: no stack traces) -/
theorem whole_start {p : Program} {e : Env} {s : State} {m : MethodId} {below : List Frame} {meth : Method} {c : Code} (l : Launch) (hflags : l.flags = flags0) {b L : Nat} {xs : Nat → Int32} (hL : L ≤ 260) (C0 : lw_At p s m meth c b L xs) : W p l e room_1 s m #[Value.ref b] below meth c s.heap [] 0 0 (lw_Z below #[Value.ref b] s) (entryFrame m ([Value.ref b] : List Value).toArray 7) := by
  obtain ⟨cs, C, hAO, hX⟩ := law_gC l hflags C0
  have hx := C.1
  have hb := C.2.1
  have hml := C.2.2.1
  have hown := C.2.2.2.1
  have hts := C.2.2.2.2.1
  have hK := C.2.2.2.2.2.2.1
  have hA : ∀ q : Nat, s.heap.size ≤ q → (fun q => s.heap.size ≤ q) q := fun q h => h
  have hS : va_S (fun q => s.heap.size ≤ q) s.heap s.heap [] := va_S.rf
  have hP : va_P cs.1 vwCl [] s.heap := fun k q h => by cases h
  have hD : va_D (fun q => s.heap.size ≤ q) [] := ⟨(fun i j p q h => by cases h), (fun k q h => by cases h)⟩
  have hl := gl_entry [.ref b] (n := 7) (fun w hw => by rw [List.mem_singleton.mp hw]; rfl) (Nat.le_of_ble_eq_true rfl)
  rw [lg_entry_eq]
  generalize (lg_sl ([.ref b]) ++ List.replicate (7 - (lg_sl ([.ref b])).length) Slot.unset).toArray = ls at hl ⊢
  have hl : gl ls 7 [some (.ref b), none, none, none, none, none, none] := hl
  obtain ⟨A, hAe⟩ : ∃ A : Nat → Prop, A = fun q => s.heap.size ≤ q := ⟨_, rfl⟩
  rw [← hAe] at hA hS hD
  obtain ⟨H, hH⟩ : ∃ H, H = s.heap := ⟨_, rfl⟩
  show W p l e room_1 s m #[Value.ref b] below meth c s.heap [] 0 0 (lw_Z below #[Value.ref b] s) (F0 m 0 ls [])
  refine va_new (ci := 1) (fs := [.null, .null, .int 0, .null, .int 0, .int 0, .null, .int 0]) (C := RX1) (T := TX1) (N := 8) hx hb hts in_RX1 tyX1 tyX1_ok hown (hts _ cl_L_9) (hts _ ins_PrefixYard) (hts _ ini_PrefixYard) hK hP hD hS hA rfl (fun j hj => by rcases (show j = 0 ∨ j = 1 ∨ j = 2 ∨ j = 3 ∨ j = 4 ∨ j = 5 ∨ j = 6 ∨ j = 7 by omega) with rfl | rfl | rfl | rfl | rfl | rfl | rfl | rfl <;> rfl) (Nat.le_of_ble_eq_true rfl) (Nat.le_of_ble_eq_true rfl) dL_law_0 (fun q0 H hP hD hS => ?_)
  have hP : va_P cs.1 vwCl [(q0, .inr (1, [.null, .null, .int 0, .null, .int 0, .int 0, .null, .int 0]))] H := hP
  have hD : va_D A [(q0, .inr (1, [.null, .null, .int 0, .null, .int 0, .int 0, .null, .int 0]))] := hD
  refine lv_dup hx hb dL_law_3 rfl ?_
  have hPc := hP.sub (ws' := [(q0, .inr (1, [.null, .null, .int 0, .null, .int 0, .int 0, .null, .int 0]))]) [0] rfl
  have hDc := hD.sub (ws' := [(q0, .inr (1, [.null, .null, .int 0, .null, .int 0, .int 0, .null, .int 0]))]) [0] (by decide) rfl
  have hFc := va_free (wc := [(q0, .inr (1, [.null, .null, .int 0, .null, .int 0, .int 0, .null, .int 0]))]) hD hS hA [0] rfl
  refine va_callv (va_runI (As := []) (rest := [.ref q0]) ⟨hx, hb, hml, hown, hts⟩ (n_X1_init l cs q0 H.size) (cwI 0 hts (GW_in fun w hw => by rcases List.mem_cons.mp hw with rfl | hw; exact mc_X1_init; exact hw) rfl rfl rfl (hts _ ini_PrefixYard) (hts _ ml_L_117) (hts _ mi_X1_init) rfl initY_d ⟨(Nat.le_of_ble_eq_true rfl), (Nat.le_of_ble_eq_true rfl)⟩) ⟨fun a U g mk q => by obtain ⟨q0, q1, qP, qO, qK, qD⟩ := q; exact ⟨q0, q1, qP, va_AO.moved (u := U) (U := U.calling g mk a) (Vm.Alike.refl U.vm) qO, va_K.moved (u := U) (U := U.calling g mk a) (Vm.Alike.refl U.vm) qK, qD⟩, fun U hU hW => ⟨rfl, by rw [hU], by rw [hU]; exact hPc, va_AO.moved hW.alike hAO, va_K.moved hW.alike hK, hDc.weaken (fun _ _ _ _ => trivial)⟩⟩ rfl rfl hl.1 rfl (lv_room (Nat.le_of_ble_eq_true rfl)) dL_law_4 ⟨(Nat.le_of_ble_eq_true rfl), (Nat.le_of_ble_eq_true rfl)⟩) hS (fun q _ h => hFc q h) hFc (fun u t H1 locs ht hvm h5 hB hz1 hk1 hS => ?_)
  obtain ⟨hP1, hD1⟩ := hB
  rw [ht] at hP1
  obtain ⟨hP, hD⟩ := va_join (wr := []) (w1 := w_X1_init cs q0 u) hP hD [0] [] rfl rfl (by decide) (by decide) hk1 hFc hP1 hD1
  generalize H1 = H at hP hS ⊢
  have hP : va_P cs.1 vwCl [(q0, .inr (1, [.ref u.1, .ref u.2.1, .int (zI (1)), .ref u.2.2.1, .int (zI (0)), .int (zI (0)), .ref u.2.2.2, .int (zI (0))])), (u.1, .inr (0, [.int (zI (0)), .null, .int (zI (0)), .int (zI (4096)), .int (zI (0))])), (u.2.1, .inl (cs.2.1 2, 60, .inr (.inr (.inr (.inr (va_up (fun _ => none) (zI (0)).toNatClampNeg (some u.1))))))), (u.2.2.1, .inl (cs.2.1 0, 4096, .inl (fun _ => zI 0))), (u.2.2.2, .inl (cs.2.1 0, 4096, .inl (fun _ => zI 0)))] H := hP
  have hD : va_D A [(q0, .inr (1, [.ref u.1, .ref u.2.1, .int (zI (1)), .ref u.2.2.1, .int (zI (0)), .int (zI (0)), .ref u.2.2.2, .int (zI (0))])), (u.1, .inr (0, [.int (zI (0)), .null, .int (zI (0)), .int (zI (4096)), .int (zI (0))])), (u.2.1, .inl (cs.2.1 2, 60, .inr (.inr (.inr (.inr (va_up (fun _ => none) (zI (0)).toNatClampNeg (some u.1))))))), (u.2.2.1, .inl (cs.2.1 0, 4096, .inl (fun _ => zI 0))), (u.2.2.2, .inl (cs.2.1 0, 4096, .inl (fun _ => zI 0)))] := hD
  refine lv_astore_n hx hb dL_law_7 rfl (gl_has hl) (by decide) rfl (fun ls2 h2 => ?_)
  have hl : gl ls2 7 [some (.ref b), some (.ref q0), none, none, none, none, none] := gl_back hl rfl h2 (fun _ q => q)
  refine va_new (ci := 1) (fs := [.null, .null, .int 0, .null, .int 0, .int 0, .null, .int 0]) (C := RX1) (T := TX1) (N := 8) hx hb hts in_RX1 tyX1 tyX1_ok hown (hts _ cl_L_9) (hts _ ins_PrefixYard) (hts _ ini_PrefixYard) hK hP hD hS hA rfl (fun j hj => by rcases (show j = 0 ∨ j = 1 ∨ j = 2 ∨ j = 3 ∨ j = 4 ∨ j = 5 ∨ j = 6 ∨ j = 7 by omega) with rfl | rfl | rfl | rfl | rfl | rfl | rfl | rfl <;> rfl) (Nat.le_of_ble_eq_true rfl) (Nat.le_of_ble_eq_true rfl) dL_law_8 (fun q8 H hP hD hS => ?_)
  have hP : va_P cs.1 vwCl [(q0, .inr (1, [.ref u.1, .ref u.2.1, .int (zI (1)), .ref u.2.2.1, .int (zI (0)), .int (zI (0)), .ref u.2.2.2, .int (zI (0))])), (u.1, .inr (0, [.int (zI (0)), .null, .int (zI (0)), .int (zI (4096)), .int (zI (0))])), (u.2.1, .inl (cs.2.1 2, 60, .inr (.inr (.inr (.inr (va_up (fun _ => none) (zI (0)).toNatClampNeg (some u.1))))))), (u.2.2.1, .inl (cs.2.1 0, 4096, .inl (fun _ => zI 0))), (u.2.2.2, .inl (cs.2.1 0, 4096, .inl (fun _ => zI 0))), (q8, .inr (1, [.null, .null, .int 0, .null, .int 0, .int 0, .null, .int 0]))] H := hP
  have hD : va_D A [(q0, .inr (1, [.ref u.1, .ref u.2.1, .int (zI (1)), .ref u.2.2.1, .int (zI (0)), .int (zI (0)), .ref u.2.2.2, .int (zI (0))])), (u.1, .inr (0, [.int (zI (0)), .null, .int (zI (0)), .int (zI (4096)), .int (zI (0))])), (u.2.1, .inl (cs.2.1 2, 60, .inr (.inr (.inr (.inr (va_up (fun _ => none) (zI (0)).toNatClampNeg (some u.1))))))), (u.2.2.1, .inl (cs.2.1 0, 4096, .inl (fun _ => zI 0))), (u.2.2.2, .inl (cs.2.1 0, 4096, .inl (fun _ => zI 0))), (q8, .inr (1, [.null, .null, .int 0, .null, .int 0, .int 0, .null, .int 0]))] := hD
  refine lv_dup hx hb dL_law_11 rfl ?_
  have hPc := hP.sub (ws' := [(q8, .inr (1, [.null, .null, .int 0, .null, .int 0, .int 0, .null, .int 0]))]) [5] rfl
  have hDc := hD.sub (ws' := [(q8, .inr (1, [.null, .null, .int 0, .null, .int 0, .int 0, .null, .int 0]))]) [5] (by decide) rfl
  have hFc := va_free (wc := [(q8, .inr (1, [.null, .null, .int 0, .null, .int 0, .int 0, .null, .int 0]))]) hD hS hA [5] rfl
  refine va_callv (va_runI (As := []) (rest := [.ref q8]) ⟨hx, hb, hml, hown, hts⟩ (n_X1_init l cs q8 H.size) (cwI 0 hts (GW_in fun w hw => by rcases List.mem_cons.mp hw with rfl | hw; exact mc_X1_init; exact hw) rfl rfl rfl (hts _ ini_PrefixYard) (hts _ ml_L_117) (hts _ mi_X1_init) rfl initY_d ⟨(Nat.le_of_ble_eq_true rfl), (Nat.le_of_ble_eq_true rfl)⟩) ⟨fun a U g mk q => by obtain ⟨q0, q1, qP, qO, qK, qD⟩ := q; exact ⟨q0, q1, qP, va_AO.moved (u := U) (U := U.calling g mk a) (Vm.Alike.refl U.vm) qO, va_K.moved (u := U) (U := U.calling g mk a) (Vm.Alike.refl U.vm) qK, qD⟩, fun U hU hW => ⟨rfl, by rw [hU], by rw [hU]; exact hPc, va_AO.moved hW.alike hAO, va_K.moved hW.alike hK, hDc.weaken (fun _ _ _ _ => trivial)⟩⟩ rfl rfl hl.1 rfl (lv_room (Nat.le_of_ble_eq_true rfl)) dL_law_12 ⟨(Nat.le_of_ble_eq_true rfl), (Nat.le_of_ble_eq_true rfl)⟩) hS (fun q _ h => hFc q h) hFc (fun v t H1 locs ht hvm h5 hB hz1 hk1 hS => ?_)
  obtain ⟨hP1, hD1⟩ := hB
  rw [ht] at hP1
  obtain ⟨hP, hD⟩ := va_join (wr := [(q0, .inr (1, [.ref u.1, .ref u.2.1, .int (zI (1)), .ref u.2.2.1, .int (zI (0)), .int (zI (0)), .ref u.2.2.2, .int (zI (0))])), (u.1, .inr (0, [.int (zI (0)), .null, .int (zI (0)), .int (zI (4096)), .int (zI (0))])), (u.2.1, .inl (cs.2.1 2, 60, .inr (.inr (.inr (.inr (va_up (fun _ => none) (zI (0)).toNatClampNeg (some u.1))))))), (u.2.2.1, .inl (cs.2.1 0, 4096, .inl (fun _ => zI 0))), (u.2.2.2, .inl (cs.2.1 0, 4096, .inl (fun _ => zI 0)))]) (w1 := w_X1_init cs q8 v) hP hD [5] [0, 1, 2, 3, 4] rfl rfl (by decide) (by decide) hk1 hFc hP1 hD1
  generalize H1 = H at hP hS ⊢
  have hP : va_P cs.1 vwCl [(q0, .inr (1, [.ref u.1, .ref u.2.1, .int (zI (1)), .ref u.2.2.1, .int (zI (0)), .int (zI (0)), .ref u.2.2.2, .int (zI (0))])), (u.1, .inr (0, [.int (zI (0)), .null, .int (zI (0)), .int (zI (4096)), .int (zI (0))])), (u.2.1, .inl (cs.2.1 2, 60, .inr (.inr (.inr (.inr (va_up (fun _ => none) (zI (0)).toNatClampNeg (some u.1))))))), (u.2.2.1, .inl (cs.2.1 0, 4096, .inl (fun _ => zI 0))), (u.2.2.2, .inl (cs.2.1 0, 4096, .inl (fun _ => zI 0))), (q8, .inr (1, [.ref v.1, .ref v.2.1, .int (zI (1)), .ref v.2.2.1, .int (zI (0)), .int (zI (0)), .ref v.2.2.2, .int (zI (0))])), (v.1, .inr (0, [.int (zI (0)), .null, .int (zI (0)), .int (zI (4096)), .int (zI (0))])), (v.2.1, .inl (cs.2.1 2, 60, .inr (.inr (.inr (.inr (va_up (fun _ => none) (zI (0)).toNatClampNeg (some v.1))))))), (v.2.2.1, .inl (cs.2.1 0, 4096, .inl (fun _ => zI 0))), (v.2.2.2, .inl (cs.2.1 0, 4096, .inl (fun _ => zI 0)))] H := hP
  have hD : va_D A [(q0, .inr (1, [.ref u.1, .ref u.2.1, .int (zI (1)), .ref u.2.2.1, .int (zI (0)), .int (zI (0)), .ref u.2.2.2, .int (zI (0))])), (u.1, .inr (0, [.int (zI (0)), .null, .int (zI (0)), .int (zI (4096)), .int (zI (0))])), (u.2.1, .inl (cs.2.1 2, 60, .inr (.inr (.inr (.inr (va_up (fun _ => none) (zI (0)).toNatClampNeg (some u.1))))))), (u.2.2.1, .inl (cs.2.1 0, 4096, .inl (fun _ => zI 0))), (u.2.2.2, .inl (cs.2.1 0, 4096, .inl (fun _ => zI 0))), (q8, .inr (1, [.ref v.1, .ref v.2.1, .int (zI (1)), .ref v.2.2.1, .int (zI (0)), .int (zI (0)), .ref v.2.2.2, .int (zI (0))])), (v.1, .inr (0, [.int (zI (0)), .null, .int (zI (0)), .int (zI (4096)), .int (zI (0))])), (v.2.1, .inl (cs.2.1 2, 60, .inr (.inr (.inr (.inr (va_up (fun _ => none) (zI (0)).toNatClampNeg (some v.1))))))), (v.2.2.1, .inl (cs.2.1 0, 4096, .inl (fun _ => zI 0))), (v.2.2.2, .inl (cs.2.1 0, 4096, .inl (fun _ => zI 0)))] := hD
  refine lv_astore_n hx hb dL_law_15 rfl (gl_has hl) (by decide) rfl (fun ls3 h3 => ?_)
  have hl : gl ls3 7 [some (.ref b), some (.ref q0), some (.ref q8), none, none, none, none] := gl_back hl rfl h3 (fun _ q => q)
  refine lv_iconst hx hb dL_law_16 (v := zI (0)) (by decide) ?_
  refine lv_istore_n hx hb dL_law_17 rfl (gl_has hl) (by decide) rfl (fun ls4 h4 => ?_)
  have hl : gl ls4 7 [some (.ref b), some (.ref q0), some (.ref q8), some (.int (zI 0)), none, none, none] := gl_back hl rfl h4 (fun _ q => q)
  have eg1 := gW0 cs q0 u
  have eg2 := gW0 cs q8 v
  have hPA := hP.sub (ws' := gW cs 14 (ad0 q0 u) T00) [0, 2, 3, 4, 1] (by rw [eg1]; rfl)
  have hDA := hD.sub (ws' := gW cs 14 (ad0 q0 u) T00) [0, 2, 3, 4, 1] (by decide) (by rw [eg1]; rfl)
  have hPB := hP.sub (ws' := gW cs 14 (ad0 q8 v) T00) [5, 7, 8, 9, 6] (by rw [eg2]; rfl)
  have hDB := hD.sub (ws' := gW cs 14 (ad0 q8 v) T00) [5, 7, 8, 9, 6] (by decide) (by rw [eg2]; rfl)
  have hDAB := hD.sub (ws' := gW cs 14 (ad0 q0 u) T00 ++ gW cs 14 (ad0 q8 v) T00) [0, 2, 3, 4, 1, 5, 7, 8, 9, 6] (by decide) (by rw [eg1, eg2]; rfl)
  subst hAe
  exact h_wid (Nat.le_of_ble_eq_true rfl) (Nat.le_of_ble_eq_true rfl) (law_loop C hX hL q0 q8 70 0 14 14 (ad0 q0 u) (ad0 q8 v) T00 T00 none none none rfl Inv00 LF00 Inv00 (pq.rf T00) rfl rfl) H _ ls4 hPA hDA hPB hDB (dj_of hDAB) hS hl
