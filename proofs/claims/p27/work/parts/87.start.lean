theorem arr_K {s : State} {args : Array Value} {ty : FieldType} (h : (Cond.arrayClass ty).before args s = true) (hs : ty = .int ∨ ty = .boolean ∨ ty = .long) : ∃ cA : ClassId, ArrOfT s cA ty ∧ va_RA s cA ty := by
  obtain ⟨cA, kA, comp, h1, h2, h3⟩ := Cond.arrayClass_spec h
  refine ⟨cA, fun n z => ⟨fun k h => (by cases h), kA, h2, comp, h3⟩, ?_⟩
  rcases hs with rfl | rfl | rfl <;> exact h1
theorem arr_Q {s : State} {C : String} (h : va_AO C s) : ∃ cA : ClassId, ArrOfT s cA (.object C) ∧ va_RA s cA (.object C) := by
  obtain ⟨comp, cA, kA, h1, h2, h3, h4, h5⟩ := Cond.arrayOver_spec h
  exact ⟨cA, fun n z => ⟨fun k h => (by cases h), kA, h3, comp, h4⟩, kA, comp, h3, h4, h1, h5⟩
theorem law_gC {p : Program} {s : State} {m : MethodId} {meth : Method} {c : Code} (l : Launch) (hflags : l.flags = flags0) {b L : Nat} {xs : Nat → Int32} (C0 : lw_At p s m meth c b L xs) : ∃ cs : CSt, gC p l s m #[Value.ref b] meth c cs (fun q => s.heap.size ≤ q) 7 cL_law RL ret ∧ va_AO RX0 s ∧ scP b L xs (fun q => s.heap.size ≤ q) s := by
  obtain ⟨hx, hb, hr, hml, hown, hts, hX, hbl, hlocks, hgv⟩ := C0
  have hgw : ∀ w ∈ GW, w.before #[Value.ref b] s = true := fun w hw => hts w (List.mem_filter.mp hw).1
  obtain ⟨c0, i0, h0⟩ := u_known (T := TX0) (N := 5) hgw in_RX0 (hgw _ ins_PrefixYard_Span)
  obtain ⟨c1, i1, h1⟩ := u_known (T := TX1) (N := 8) hgw in_RX1 (hgw _ ins_PrefixYard)
  have hAO : va_AO RX0 s := va_AO.of (hts _ ao_span)
  obtain ⟨t0, k0⟩ := arr_K (hgw _ ac_int) (Or.inl rfl)
  obtain ⟨t2, k2⟩ := arr_Q hAO
  have hst : ∀ k : Nat, ∃ a : Nat, ∀ q ∈ gStr, q.1 = k → vk_R RX1 q.1 q.2 a s := by
    intro k
    by_cases h : ∃ q ∈ gStr, q.1 = k
    · obtain ⟨q, hq, rfl⟩ := h
      have hw : (Cond.stringRef RX1 q.1 q.2).before #[Value.ref b] s = true := hts _ ((by decide +kernel : ∀ q ∈ gStr, Cond.stringRef RX1 q.1 q.2 ∈ lw_tbl) q hq)
      obtain ⟨k9, cf, i, a, -, -, -, -, -, he⟩ := Cond.stringRef_spec h1.2.1 hw
      refine ⟨a, fun q2 hq2 he2 => ?_⟩
      have hu : ∀ q ∈ gStr, ∀ q2 ∈ gStr, q2.1 = q.1 → q2 = q := by decide +kernel
      rw [hu q hq q2 hq2 he2]
      exact vk_R.of hw he
    · exact ⟨0, fun q hq he => absurd ⟨q, hq, he⟩ h⟩
  have hfl := flat_of_before _ hgv
  have hnA : ∀ a : Nat, a < s.heap.size → ¬ s.heap.size ≤ a := fun a h q => by omega
  refine ⟨⟨(fun k => match k with | 0 => c0 | _ => c1, fun k => match k with | 0 => i0 | _ => i1), fun k => match k with | 0 => t0 | _ => t2, fun k => Classical.choose (hst k)⟩, ⟨hx, hb, hml, hown, hgw, hlocks, ⟨?_, ?_⟩, fun q h => h, ⟨?_, ?_, ?_, ?_, ?_⟩, ?_, hr⟩, hAO, hX, hbl, fun q => by omega⟩
  · intro k q hq
    match k, hq with
    | 0, hq => cases hq; exact h0
    | 1, hq => cases hq; exact h1
  · intro k q hq
    match k, hq with
    | 0, hq => cases hq; exact k0
    | 1, hq => cases hq; exact k2
  · exact vx_Zqof (args := #[Value.ref b]) (hts _ (by decide +kernel)) (hgw _ ini_java_lang_Throwable) (hfl _ (by decide +kernel)) hnA
  · exact vx_Zqof (args := #[Value.ref b]) (hts _ (by decide +kernel)) (hgw _ ini_java_lang_Throwable) (hfl _ (by decide +kernel)) hnA
  · intro q hq
    exact Classical.choose_spec (hst q.1) q hq rfl
  · intro w hw
    exact va_Nw.of (gBd_ot w hw) (hts w ((by decide +kernel : ∀ w ∈ gBd, w ∈ lw_tbl) w hw))
  · intro q hq
    exact va_Nc.of (hfl _ ((by decide +kernel : ∀ q ∈ gNc, Cond.not (.castable q.1 q.2) ∈ flatC (Jvm.Cond.and given_1 narrow_1)) q hq))
  · unfold Launch.stackTraces
    rw [hflags]
    decide +kernel
