/-! constructors: worlds that are not whole yet -/
theorem ac_int : Cond.arrayClass (newarray.typeOf .int) ∈ GW := List.mem_filter.mpr ⟨by decide +kernel, by decide +kernel⟩
theorem ac_boolean : Cond.arrayClass (newarray.typeOf .boolean) ∈ GW := List.mem_filter.mpr ⟨by decide +kernel, by decide +kernel⟩
theorem ac_long : Cond.arrayClass (newarray.typeOf .long) ∈ GW := List.mem_filter.mpr ⟨by decide +kernel, by decide +kernel⟩
theorem ao_span : Cond.arrayOver (.object RX0) ∈ lw_tbl := by decide +kernel
section
variable {p : Program} {l : Launch} {e : Env} {R : Room} {s : State} {m : MethodId} {args : Array Value} {below : List Frame} {meth : Method} {c : Code} {Q : State → Prop} {cs : CSt} {A : Nat → Prop}
variable {cc : ByteArray} {H H0 : Heap} {locs : List Loc} {cells slots pc : Nat} {ls : Array Slot} {rest : List Value} {ws : va_W}
theorem n_newa (hexec : p.tables.exec = Jvm.exec) (hb : c.code = cc) {atype : ArrayType} (harr : (Cond.arrayClass (newarray.typeOf atype)).before args s = true) {ty : FieldType} (hty : newarray.typeOf atype = ty) (hK : va_K cs.1 vwCl (gTy cs) s) (hP : va_P cs.1 vwCl ws H) (hD : va_D A ws) (hS : va_S A H0 H locs) (hA : ∀ q, H0.size ≤ q → A q)
    {cB : ClassId} (t0 : Nat) (ht : (gTy cs)[t0]? = some (cB, ty)) (hs : ty = .int ∨ ty = .boolean ∨ ty = .long)
    {n : Int32} {N' : Nat} {a0 : vp_A} (ha : ∀ cA : ClassId, vp_cell cA a0 = arrV cA N' (fun _ => defaultValue ty)) (hn : ¬ n < 0) (hN : n.toNatClampNeg = N') (hbytes : N' * componentBytes ty ≤ 536870912) (hcells : cells + 1 ≤ R.cells) (hslots : slots + N' ≤ R.slots) (hdg : decode cc pc = .ok (.newarray atype, 2))
    (kk : ∀ (q : Nat) (H1 : Heap), va_P cs.1 vwCl (ws ++ [(q, .inl (cB, a0))]) H1 → va_D A (ws ++ [(q, .inl (cB, a0))]) → va_S A H0 H1 locs → W p l e R s m args below meth c H1 locs (cells + 1) (slots + N') Q (F0 m (pc + 2) ls (.ref q :: rest))) : W p l e R s m args below meth c H locs cells slots Q (F0 m pc ls (.int n :: rest)) :=
  va_newa hexec hb harr hty hK hP hD hS hA ha hn hN hbytes hcells hslots hdg (fun q cA H1 hK1 hP1 hD1 hS1 => by
    have h1 := (hK.2 t0 _ ht).2
    have h2 := (hK1.2 4 (cA, ty) rfl).2
    have e1 : cA = cB := by
      rcases hs with rfl | rfl | rfl
      · exact Option.some.inj (h2.symm.trans h1)
      · exact Option.some.inj (h2.symm.trans h1)
      · exact Option.some.inj (h2.symm.trans h1)
    subst e1
    exact kk q H1 hP1 hD1 hS1)
theorem n_newq (hexec : p.tables.exec = Jvm.exec) (hb : c.code = cc) {own C : String} {index : Nat} (hown : s.vm.findClass own = some m.cls) (hclink : (Cond.classLink own index C).before args s = true) (hover : va_AO C s) (hK : va_K cs.1 vwCl (gTy cs) s) (hP : va_P cs.1 vwCl ws H) (hD : va_D A ws) (hS : va_S A H0 H locs) (hA : ∀ q, H0.size ≤ q → A q)
    {cB : ClassId} (t0 : Nat) (ht : (gTy cs)[t0]? = some (cB, .object C))
    {n : Int32} {N' : Nat} (hn : ¬ n < 0) (hN : n.toNatClampNeg = N') (hbytes : N' * 4 ≤ 536870912) (hcells : cells + 1 ≤ R.cells) (hslots : slots + N' ≤ R.slots) (hdg : decode cc pc = .ok (.anewarray index, 3))
    (kk : ∀ (q : Nat) (H1 : Heap), va_P cs.1 vwCl (ws ++ [(q, .inl (cB, N', .inr (.inr (.inr (.inr (fun _ => none))))))]) H1 → va_D A (ws ++ [(q, .inl (cB, N', .inr (.inr (.inr (.inr (fun _ => none))))))]) → va_S A H0 H1 locs → W p l e R s m args below meth c H1 locs (cells + 1) (slots + N') Q (F0 m (pc + 3) ls (.ref q :: rest))) : W p l e R s m args below meth c H locs cells slots Q (F0 m pc ls (.int n :: rest)) :=
  va_newq hexec hb hown hclink hover hK hP hD hS hA hn hN hbytes hcells hslots hdg (fun q cA H1 hK1 hP1 hD1 hS1 => by
    obtain ⟨k1, c1, -, -, -, h1⟩ := (hK.2 t0 _ ht).2
    obtain ⟨k2, c2, -, -, -, h2⟩ := (hK1.2 4 (cA, .object C) rfl).2
    have e1 : cA = cB := Option.some.inj (h2.symm.trans h1)
    subst e1
    exact kk q H1 hP1 hD1 hS1)
end
