/-! calls whose answer is known by a relation -/
abbrev KE (l : Launch) (cs : CSt) (y : MethodName) (ws : List Cond) (d mc ms : Nat) (av : List Value) (np : Nat) (ad : Nat → Nat) (T : MT) (P : Int → MT → Prop) : Prop := KC l cs y ws d mc ms av np ad T (fun v u => ∃ (r : Int) (U : MT), v = some (.int (zI r)) ∧ P r U ∧ u = (np, ad, U)) (fun _ _ => False)
section
variable {p : Program} {l : Launch} {e : Env} {R : Room} {s : State} {m : MethodId} {args : Array Value} {below : List Frame} {meth : Method} {c : Code} {Q : State → Prop} {cs : CSt} {A : Nat → Prop} {nL : Nat}
variable {cc : ByteArray} {own : String} {rt : Option FieldType} {k n np : Nat} {ad : Nat → Nat} {T : MT} {pc : Nat} {lv : List (Option Value)} {st : List Value}
theorem g_cM1E (C : gC p l s m args meth c cs A nL cc own rt) {a1 : Value} {P : Int → MT → Prop} {y : MethodName} {b : ByteArray} {maxL : Nat} {ret : Option FieldType} {d mc' ms' idx : Nat} {rest : List Value} (hG : CGV own idx RX2 y b maxL ret 1) (K : KE l cs y (Cond.code y b maxL ret :: GW) d mc' ms' [.ref (ad 4), a1] np ad T P) (hR : d + 1 ≤ R.frames ∧ 8 + (maxL + 11) + 40 * d ≤ R.locals) (hq : 13 ≤ np) (hW : (rest.map fun v => v.category).sum ≤ 8) (hf : k + mc' ≤ R.cells ∧ n + ms' ≤ R.slots) (dd : decode cc pc = .ok (.invokevirtual idx, 3)) (kk : ∀ (r : Int) (U : MT), P r U → GG p l e R s m args below meth c Q cs A nL (k + mc') (n + ms') np ad U (pc + 3) lv (.int (zI r) :: rest)) : GG p l e R s m args below meth c Q cs A nL k n np ad T pc lv (a1 :: .ref (ad 4) :: rest) := by
  exact g_call0 C (g_runV C (ci := 2) (q := 4) (Cn := RX2) (TT := TX2) (N := 11) (As := [a1]) K hG.1 hG.2 hR (show 4 < np by omega) rfl rfl hW hf dd) (fun E u h => h.elim) (fun v u h => by obtain ⟨r, U, rfl, hp, rfl⟩ := h; exact kk r U hp)
theorem g_cM2E (C : gC p l s m args meth c cs A nL cc own rt) {a1 a2 : Value} {P : Int → MT → Prop} {y : MethodName} {b : ByteArray} {maxL : Nat} {ret : Option FieldType} {d mc' ms' idx : Nat} {rest : List Value} (hG : CGV own idx RX2 y b maxL ret 2) (K : KE l cs y (Cond.code y b maxL ret :: GW) d mc' ms' [.ref (ad 4), a1, a2] np ad T P) (hR : d + 1 ≤ R.frames ∧ 8 + (maxL + 11) + 40 * d ≤ R.locals) (hq : 13 ≤ np) (hW : (rest.map fun v => v.category).sum ≤ 8) (hf : k + mc' ≤ R.cells ∧ n + ms' ≤ R.slots) (dd : decode cc pc = .ok (.invokevirtual idx, 3)) (kk : ∀ (r : Int) (U : MT), P r U → GG p l e R s m args below meth c Q cs A nL (k + mc') (n + ms') np ad U (pc + 3) lv (.int (zI r) :: rest)) : GG p l e R s m args below meth c Q cs A nL k n np ad T pc lv (a2 :: a1 :: .ref (ad 4) :: rest) := by
  exact g_call0 C (g_runV C (ci := 2) (q := 4) (Cn := RX2) (TT := TX2) (N := 11) (As := [a1, a2]) K hG.1 hG.2 hR (show 4 < np by omega) rfl rfl hW hf dd) (fun E u h => h.elim) (fun v u h => by obtain ⟨r, U, rfl, hp, rfl⟩ := h; exact kk r U hp)
theorem g_cM3E (C : gC p l s m args meth c cs A nL cc own rt) {a1 a2 a3 : Value} {P : Int → MT → Prop} {y : MethodName} {b : ByteArray} {maxL : Nat} {ret : Option FieldType} {d mc' ms' idx : Nat} {rest : List Value} (hG : CGV own idx RX2 y b maxL ret 3) (K : KE l cs y (Cond.code y b maxL ret :: GW) d mc' ms' [.ref (ad 4), a1, a2, a3] np ad T P) (hR : d + 1 ≤ R.frames ∧ 8 + (maxL + 11) + 40 * d ≤ R.locals) (hq : 13 ≤ np) (hW : (rest.map fun v => v.category).sum ≤ 8) (hf : k + mc' ≤ R.cells ∧ n + ms' ≤ R.slots) (dd : decode cc pc = .ok (.invokevirtual idx, 3)) (kk : ∀ (r : Int) (U : MT), P r U → GG p l e R s m args below meth c Q cs A nL (k + mc') (n + ms') np ad U (pc + 3) lv (.int (zI r) :: rest)) : GG p l e R s m args below meth c Q cs A nL k n np ad T pc lv (a3 :: a2 :: a1 :: .ref (ad 4) :: rest) := by
  exact g_call0 C (g_runV C (ci := 2) (q := 4) (Cn := RX2) (TT := TX2) (N := 11) (As := [a1, a2, a3]) K hG.1 hG.2 hR (show 4 < np by omega) rfl rfl hW hf dd) (fun E u h => h.elim) (fun v u h => by obtain ⟨r, U, rfl, hp, rfl⟩ := h; exact kk r U hp)
theorem g_cM4E (C : gC p l s m args meth c cs A nL cc own rt) {a1 a2 a3 a4 : Value} {P : Int → MT → Prop} {y : MethodName} {b : ByteArray} {maxL : Nat} {ret : Option FieldType} {d mc' ms' idx : Nat} {rest : List Value} (hG : CGV own idx RX2 y b maxL ret 4) (K : KE l cs y (Cond.code y b maxL ret :: GW) d mc' ms' [.ref (ad 4), a1, a2, a3, a4] np ad T P) (hR : d + 1 ≤ R.frames ∧ 8 + (maxL + 11) + 40 * d ≤ R.locals) (hq : 13 ≤ np) (hW : (rest.map fun v => v.category).sum ≤ 8) (hf : k + mc' ≤ R.cells ∧ n + ms' ≤ R.slots) (dd : decode cc pc = .ok (.invokevirtual idx, 3)) (kk : ∀ (r : Int) (U : MT), P r U → GG p l e R s m args below meth c Q cs A nL (k + mc') (n + ms') np ad U (pc + 3) lv (.int (zI r) :: rest)) : GG p l e R s m args below meth c Q cs A nL k n np ad T pc lv (a4 :: a3 :: a2 :: a1 :: .ref (ad 4) :: rest) := by
  exact g_call0 C (g_runV C (ci := 2) (q := 4) (Cn := RX2) (TT := TX2) (N := 11) (As := [a1, a2, a3, a4]) K hG.1 hG.2 hR (show 4 < np by omega) rfl rfl hW hf dd) (fun E u h => h.elim) (fun v u h => by obtain ⟨r, U, rfl, hp, rfl⟩ := h; exact kk r U hp)
end
theorem sz2_s (S : Int) (i : Nat) : sz2 S (i + 1) = 2 * sz2 S i := rfl
theorem sz2_pw {S : Int} (hS : szp S) {i : Nat} (h : sz2 S i ≤ 4096) : pw13 (sz2 S i) := by
  have h1 : ∀ i, 1 ≤ sz2 S i := by
    intro i
    induction i with
    | zero => show 1 ≤ S; unfold szp at hS; omega
    | succ i ih => rw [sz2_s]; omega
  induction i with
  | zero => show pw13 S; unfold szp at hS; unfold pw13; omega
  | succ i ih =>
    have h2 := h1 i
    rw [sz2_s] at h ⊢
    have := ih (by omega)
    unfold pw13 at this ⊢
    omega
theorem sz2_b {S : Int} (hS : 1 ≤ S) (i : Nat) : 1 ≤ sz2 S i ∧ (i : Int) < sz2 S i := by
  induction i with
  | zero => exact ⟨hS, hS⟩
  | succ i ih => rw [sz2_s]; omega
theorem sn2_i {i k i2 k2 : Nat} : sn2 i k i2 (k2 + 1) ↔ sn2 i k i2 k2 ∨ (i = i2 ∧ k = k2) := by unfold sn2; omega
theorem fnI_no {T : MT} {x S w : Int} {i k : Nat} {f fs : Int} (h : fnI T x S w i k f fs) (hw : wh2 T x S i k → vl2 T x S i k → f ≠ -1 ∧ (0 < w → sz2 S i ≤ fs)) (hS : 1 ≤ S) (h5 : 0 ≤ T 5 x.toNat) : fnI T x S w i (k + 1) f fs := by
  rcases h with ⟨h1, h2, h3⟩ | ⟨i0, k0, h1, h2, h3, h4, h5, h6⟩
  · refine Or.inl ⟨h1, h2, fun i' k' hs hv hh => ?_⟩
    rcases sn2_i.mp hs with hs | ⟨rfl, rfl⟩
    · exact h3 i' k' hs hv hh
    · exact (hw hh hv).1 h1
  · refine Or.inr ⟨i0, k0, sn2_i.mpr (Or.inl h1), h2, h3, h4, h5, fun i' k' hs hv hh => ?_⟩
    rcases sn2_i.mp hs with hs | ⟨rfl, rfl⟩
    · exact h6 i' k' hs hv hh
    · have h7 := (hw hh hv).2
      by_cases e : w ≤ 0
      · rw [if_pos e]
        unfold sn2 at h1
        omega
      · rw [if_neg e]
        have h8 := h7 (by omega)
        unfold sn2 at h1
        rcases h1 with h1 | ⟨rfl, h1⟩
        · have := sz2_lt hS h1
          omega
        · omega
theorem fnI_yes {T : MT} {x S w : Int} {i k : Nat} {f fs : Int} (h : fnI T x S w i k f fs) (hb : f = -1 ∨ (0 < w ∧ fs < sz2 S i)) (hv : vl2 T x S i k) (hh : wh2 T x S i k) (hS : 1 ≤ S) (h5 : 0 ≤ T 5 x.toNat) : fnI T x S w i (k + 1) (T 5 x.toNat + k * sz2 S i) (sz2 S i) := by
  refine Or.inr ⟨i, k, by unfold sn2; omega, hv, hh, rfl, rfl, fun i' k' hs hv' hh' => ?_⟩
  rcases sn2_i.mp hs with ht | ⟨rfl, rfl⟩
  · rcases h with ⟨h1, h2, h3⟩ | ⟨i0, k0, h1, h2, h3, h4, h7, h6⟩
    · exact absurd hh' (h3 i' k' ht hv')
    · have h8 := sz2_b hS i0
      have h9 : 0 ≤ (k0 : Int) * sz2 S i0 := Int.mul_nonneg (by omega) (by omega)
      rcases hb with hb | ⟨hb, hb2⟩
      · omega
      · rw [if_neg (by omega)]
        unfold sn2 at ht
        rcases ht with ht | ⟨rfl, ht⟩
        · exact Or.inl ht
        · have h10 := h6 i' k' (Or.inr ⟨rfl, ht⟩) hv' hh'
          rw [if_neg (by omega)] at h10
          rw [h7] at hb2
          unfold sn2 at h1
          rcases h1 with h1 | ⟨rfl, h1⟩
          · rcases h10 with h10 | ⟨rfl, h10⟩ <;> omega
          · omega
  · split <;> exact Or.inr ⟨rfl, Nat.le_refl _⟩
theorem fnI_nx {T : MT} {x S w : Int} {i k : Nat} {f fs : Int} (h : fnI T x S w i k f fs) (hk : T 6 x.toNat ≤ (k : Int) * sz2 S i) (hS : 1 ≤ S) : fnI T x S w (i + 1) 0 f fs := by
  have h8 := sz2_b hS i
  have hs2 : ∀ i' k', sn2 i' k' (i + 1) 0 → vl2 T x S i' k' → sn2 i' k' i k := by
    intro i' k' hs hv
    unfold sn2 at hs ⊢
    by_cases e : i' < i
    · exact Or.inl e
    · obtain rfl : i' = i := by omega
      refine Or.inr ⟨rfl, ?_⟩
      by_cases e2 : k' < k
      · exact e2
      · have h9 : (k : Int) * sz2 S i' ≤ (k' : Int) * sz2 S i' := Int.mul_le_mul_of_nonneg_right (by omega) (by omega)
        unfold vl2 at hv
        omega
  rcases h with ⟨h1, h2, h3⟩ | ⟨i0, k0, h1, h2, h3, h4, h7, h6⟩
  · exact Or.inl ⟨h1, h2, fun i' k' hs hv => h3 i' k' (hs2 i' k' hs hv) hv⟩
  · refine Or.inr ⟨i0, k0, by unfold sn2 at h1 ⊢; omega, h2, h3, h4, h7, fun i' k' hs hv => h6 i' k' (hs2 i' k' hs hv) hv⟩
theorem fnI_end {T : MT} {x S w : Int} {i : Nat} {f fs : Int} (h : fnI T x S w i 0 f fs) (hk : T 6 x.toNat < sz2 S i) (hS : 1 ≤ S) : ((f = -1 ∧ fs = 0 ∧ ∀ i k, vl2 T x S i k → ¬ wh2 T x S i k) ∨
  ∃ i k, vl2 T x S i k ∧ wh2 T x S i k ∧ f = T 5 x.toNat + k * sz2 S i ∧ fs = sz2 S i ∧ ∀ i' k', vl2 T x S i' k' → wh2 T x S i' k' → if w ≤ 0 then i < i' ∨ (i = i' ∧ k ≤ k') else i' < i ∨ (i = i' ∧ k ≤ k')) := by
  have hs2 : ∀ i' k', vl2 T x S i' k' → sn2 i' k' i 0 := by
    intro i' k' hv
    unfold sn2
    unfold vl2 at hv
    by_cases e : i' < i
    · exact Or.inl e
    · by_cases e2 : i = i'
      · subst e2; omega
      · have := sz2_lt hS (show i < i' by omega)
        omega
  rcases h with ⟨h1, h2, h3⟩ | ⟨i0, k0, h1, h2, h3, h4, h7, h6⟩
  · exact Or.inl ⟨h1, h2, fun i' k' hv => h3 i' k' (hs2 i' k' hv) hv⟩
  · exact Or.inr ⟨i0, k0, h2, h3, h4, h7, fun i' k' hv => h6 i' k' (hs2 i' k' hv) hv⟩
theorem fnI_bd {np : Nat} {T : MT} (hV : VM T) {x S w : Int} (hx : 0 ≤ x ∧ x < 64) (hS : 1 ≤ S) {i k : Nat} {f fs : Int} (h : fnI T x S w i k f fs) : -1 ≤ f ∧ f ≤ 4096 ∧ 0 ≤ fs ∧ fs ≤ 4096 := by
  have hs := hV.s hx
  rcases h with ⟨h1, h2, -⟩ | ⟨i0, k0, -, h2, h3, h4, h7, -⟩
  · omega
  · have h8 := sz2_b hS i0
    have h9 : 0 ≤ (k0 : Int) * sz2 S i0 := Int.mul_nonneg (by omega) (by omega)
    unfold vl2 at h2
    omega
set_option maxRecDepth 100000 in
theorem k_X2_find {l : Launch} {cs : CSt} {np : Nat} {ad : Nat → Nat} {T : MT} (h13 : 13 ≤ np) (hV : VM T) (x S w : Int) (hx : 0 ≤ x ∧ x < 64) (hS : szp S) (hw : 0 ≤ w ∧ w ≤ 2) : KE l cs yX2_find (Cond.code yX2_find cX2_find 9 (some .int) :: GW) 3 0 0 [.ref (ad 4), .int (zI x), .int (zI S), .int (zI w)] np ad T (fun r U => U = T ∧ fndP T x S w r ∧ -1 ≤ r ∧ r ≤ 8192) := by
  have hs := hV.s hx
  have hS1 : 1 ≤ S ∧ S ≤ 2048 := by unfold szp at hS; omega
  refine KC_of (cc := cX2_find) (nL := 9) (rt := (some .int)) (by decide) (by simp [grf_cat, cat_int, cat_ref]) (by simp) ?_
  intro p e s m args below meth c A C hE hin
  refine g_eq (lv2 := [some (.ref (ad 4)), some (.int (zI x)), some (.int (zI S)), some (.int (zI w)), none, none, none, none, none]) rfl rfl rfl ?_
  refine g_iconst (pc := 0) C dX2_find_0 ?_
  refine g_istore_4 (pc := 1) C dX2_find_1 ?_
  refine g_iconst (pc := 3) C dX2_find_3 ?_
  refine g_istore_5 (pc := 4) C dX2_find_4 ?_
  refine g_iload_2 (pc := 6) C dX2_find_6 ?_
  refine g_istore_6 (pc := 7) C dX2_find_7 ?_
  refine g_loop (σ := (Int × Int) × Option Value × Option Value) (Tf := fun _ _ => T) (lvf := fun i z => [some (.ref (ad 4)), some (.int (zI x)), some (.int (zI S)), some (.int (zI w)), some (.int (zI z.1.1)), some (.int (zI z.1.2)), some (.int (zI (sz2 S i))), z.2.1, z.2.2]) (inv := fun i z => fnI T x S w i 0 z.1.1 z.1.2 ∧ sz2 S i ≤ 8192) (N := 8192) 0 ((-1, 0), none, none) ⟨Or.inl ⟨rfl, rfl, fun i k hs => by unfold sn2 at hs; omega⟩, (by omega : S ≤ 8192)⟩ (by omega) (fun i z hi hN ih => ?_)
  obtain ⟨⟨f, fs⟩, a7, a8⟩ := z
  dsimp only at hi ih ⊢
  obtain ⟨hi, hi2⟩ := hi
  have hb := fnI_bd (np := np) hV hx hS1.1 hi
  have hz := sz2_b hS1.1 i
  refine g_iload_6 (pc := 9) C dX2_find_9 ?_
  refine g_aload_0 (pc := 11) C dX2_find_11 ?_
  refine g_get_X2_13 (pc := 12) C (by omega) dX2_find_12 ?_
  refine g_iload_1 (pc := 15) C dX2_find_15 ?_
  first | refine g_aldn_6 (pc := 16) C (by omega) (by omega) dX2_find_16 ?_ | refine g_ald_6 (pc := 16) C (by omega) (by omega) dX2_find_16 ?_
  refine g_icmp_gt (pc := 17) (tgt := 114) C dX2_find_17 (by decide) (by omega) (by omega) (fun h17 => ?_) (fun h17 => ?_)
  · have he := fnI_end hi (by omega) hS1.1
    refine g_iload_3 (pc := 114) C dX2_find_114 ?_
    refine g_iconst (pc := 115) C dX2_find_115 ?_
    refine g_icmp_ne (pc := 116) (tgt := 135) C dX2_find_116 (by decide) (by omega) (by omega) (fun h116 => ?_) (fun h116 => ?_)
    · refine g_iload_4 (pc := 135) C dX2_find_135 ?_
      refine g_iret (pc := 137) C (Nat.le_of_ble_eq_true rfl) (Nat.le_of_ble_eq_true rfl) dX2_find_137 ?_
      exact ⟨f, T, rfl, ⟨rfl, ⟨f, fs, by rw [if_neg (by omega)], he⟩, by omega, by omega⟩, rfl⟩
    · refine g_iload_5 (pc := 119) C dX2_find_119 ?_
      refine g_iload_2 (pc := 121) C dX2_find_121 ?_
      refine g_icmp_le (pc := 122) (tgt := 135) C dX2_find_122 (by decide) (by omega) (by omega) (fun h122 => ?_) (fun h122 => ?_)
      · refine g_iload_4 (pc := 135) C dX2_find_135 ?_
        refine g_iret (pc := 137) C (Nat.le_of_ble_eq_true rfl) (Nat.le_of_ble_eq_true rfl) dX2_find_137 ?_
        exact ⟨f, T, rfl, ⟨rfl, ⟨f, fs, by rw [if_neg (by omega)], he⟩, by omega, by omega⟩, rfl⟩
      · refine g_iload_4 (pc := 125) C dX2_find_125 ?_
        refine g_iload_5 (pc := 127) C dX2_find_127 ?_
        refine g_iconst (pc := 129) C dX2_find_129 ?_
        refine g_idiv (pc := 130) C dX2_find_130 (by omega) (by omega) ?_
        refine g_iadd (pc := 131) C dX2_find_131 ?_
        refine g_goto (pc := 132) (tgt := 137) C dX2_find_132 (by decide) ?_
        refine g_iret (pc := 137) C (Nat.le_of_ble_eq_true rfl) (Nat.le_of_ble_eq_true rfl) dX2_find_137 ?_
        exact ⟨f + fs / 2, T, rfl, ⟨rfl, ⟨f, fs, by rw [if_pos (by omega)], he⟩, by omega, by omega⟩, rfl⟩
  · have hp := sz2_pw hS (i := i) (by omega)
    have e7 := sz2_s S i
    refine g_aload_0 (pc := 20) C dX2_find_20 ?_
    refine g_get_X2_7 (pc := 21) C (by omega) dX2_find_21 ?_
    refine g_iload_1 (pc := 24) C dX2_find_24 ?_
    first | refine g_aldn_5 (pc := 25) C (by omega) (by omega) dX2_find_25 ?_ | refine g_ald_5 (pc := 25) C (by omega) (by omega) dX2_find_25 ?_
    refine g_istore_7 (pc := 26) C dX2_find_26 ?_
    generalize hB : sz2 S i = B at *
    refine g_eq (lv2 := [some (.ref (ad 4)), some (.int (zI x)), some (.int (zI S)), some (.int (zI w)), some (.int (zI f)), some (.int (zI fs)), some (.int (zI B)), some (.int (zI (T 5 x.toNat + (0 : Nat) * B))), a8]) rfl (by simp) rfl ?_
    refine g_loop (σ := (Int × Int) × Option Value) (Tf := fun _ _ => T) (lvf := fun k z => [some (.ref (ad 4)), some (.int (zI x)), some (.int (zI S)), some (.int (zI w)), some (.int (zI z.1.1)), some (.int (zI z.1.2)), some (.int (zI B)), some (.int (zI (T 5 x.toNat + (k : Int) * B))), z.2]) (inv := fun k z => fnI T x S w i k z.1.1 z.1.2 ∧ (k : Int) * B ≤ 8192) (N := 8192) 0 ((f, fs), a8) ⟨hi, by simp⟩ (by omega) (fun k z hk hK ihk => ?_)
    clear hi hb
    obtain ⟨⟨f, fs⟩, a8⟩ := z
    dsimp only at hk ihk ⊢
    obtain ⟨hk, hk2⟩ := hk
    have hb := fnI_bd (np := np) hV hx hS1.1 hk
    have hk3 : (k : Int) ≤ (k : Int) * B := by
      have := Int.mul_le_mul_of_nonneg_left (a := 1) (b := B) (c := (k : Int)) (by omega) (by omega)
      omega
    have e8 : T 5 x.toNat + (k : Int) * B + B = T 5 x.toNat + ((k + 1 : Nat) : Int) * B := by
      rw [Int.natCast_add, Int.add_mul, Int.natCast_one, Int.one_mul, Int.add_assoc]
    refine g_iload_7 (pc := 28) C dX2_find_28 ?_
    refine g_aload_0 (pc := 30) C dX2_find_30 ?_
    refine g_get_X2_7 (pc := 31) C (by omega) dX2_find_31 ?_
    refine g_iload_1 (pc := 34) C dX2_find_34 ?_
    first | refine g_aldn_5 (pc := 35) C (by omega) (by omega) dX2_find_35 ?_ | refine g_ald_5 (pc := 35) C (by omega) (by omega) dX2_find_35 ?_
    refine g_aload_0 (pc := 36) C dX2_find_36 ?_
    refine g_get_X2_13 (pc := 37) C (by omega) dX2_find_37 ?_
    refine g_iload_1 (pc := 40) C dX2_find_40 ?_
    first | refine g_aldn_6 (pc := 41) C (by omega) (by omega) dX2_find_41 ?_ | refine g_ald_6 (pc := 41) C (by omega) (by omega) dX2_find_41 ?_
    refine g_iadd (pc := 42) C dX2_find_42 ?_
    refine g_icmp_ge (pc := 43) (tgt := 105) C dX2_find_43 (by decide) (by omega) (by omega) (fun h43 => ?_) (fun h43 => ?_)
    · refine g_iload_6 (pc := 105) C dX2_find_105 ?_
      refine g_iconst (pc := 107) C dX2_find_107 ?_
      refine g_imul (pc := 108) C dX2_find_108 ?_
      refine g_istore_6 (pc := 109) C dX2_find_109 ?_
      refine g_eq (lv2 := [some (.ref (ad 4)), some (.int (zI x)), some (.int (zI S)), some (.int (zI w)), some (.int (zI f)), some (.int (zI fs)), some (.int (zI (sz2 S (i + 1)))), some (.int (zI (T 5 x.toNat + (k : Int) * B))), a8]) rfl (by rw [e7, Int.mul_comm]) rfl ?_
      refine g_goto (pc := 111) (tgt := 9) C dX2_find_111 (by decide) ?_
      exact ih ((f, fs), _, _) (by omega) ⟨fnI_nx hk (by rw [hB]; omega) hS1.1, by rw [e7]; omega⟩
    · have hvl : vl2 T x S i k := ⟨by rw [hB]; omega, by rw [hB]; omega⟩
      have hkk : ((k + 1 : Nat) : Int) * B ≤ 8192 := by
        rw [Int.natCast_add, Int.add_mul, Int.natCast_one, Int.one_mul]; omega
      have hwh : wh2 T x S i k ↔ whM T x (T 5 x.toNat + (k : Int) * B) B := by unfold wh2; rw [hB]
      refine g_iload_4 (pc := 46) C dX2_find_46 ?_
      refine g_iconst (pc := 48) C dX2_find_48 ?_
      refine g_icmp_eq (pc := 49) (tgt := 63) C dX2_find_49 (by decide) (by omega) (by omega) (fun h49 => ?_) (fun h49 => ?_)
      · refine g_iconst (pc := 63) C dX2_find_63 ?_
        refine g_goto (pc := 64) (tgt := 68) C dX2_find_64 (by decide) ?_
        refine g_istore_8 (pc := 68) C dX2_find_68 ?_
        refine g_iload_8 (pc := 70) C dX2_find_70 ?_
        refine g_if_eq (pc := 72) (tgt := 95) C dX2_find_72 (by decide) (by omega) (fun h72 => ?_) (fun h72 => ?_)
        · omega
        · refine g_aload_0 (pc := 75) C dX2_find_75 ?_
          refine g_iload_1 (pc := 76) C dX2_find_76 ?_
          refine g_iload_7 (pc := 77) C dX2_find_77 ?_
          refine g_iload_6 (pc := 79) C dX2_find_79 ?_
          refine g_cM3Pv (pc := 81) C cs_X2_53 (k_X2_isWhole h13 hV x _ B hx (by omega) hp) ⟨Nat.le_of_ble_eq_true rfl, Nat.le_of_ble_eq_true rfl⟩ (by omega) (Nat.le_of_ble_eq_true rfl) ⟨Nat.le_of_ble_eq_true rfl, Nat.le_of_ble_eq_true rfl⟩ dX2_find_81 ?_
          refine g_if_eq (pc := 84) (tgt := 95) C dX2_find_84 (by decide) (bz_rg _) (fun h84 => ?_) (fun h84 => ?_)
          · refine g_iload_7 (pc := 95) C dX2_find_95 ?_
            refine g_iload_6 (pc := 97) C dX2_find_97 ?_
            refine g_iadd (pc := 99) C dX2_find_99 ?_
            refine g_istore_7 (pc := 100) C dX2_find_100 ?_
            refine g_goto (pc := 102) (tgt := 28) C dX2_find_102 (by decide) ?_
            rw [e8]
            exact ihk ((f, fs), _) (by omega) ⟨fnI_no hk (fun h1 _ => absurd (hwh.mp h1) (bz_0 h84)) hS1.1 (by omega), hkk⟩
          · refine g_iload_7 (pc := 87) C dX2_find_87 ?_
            refine g_istore_4 (pc := 89) C dX2_find_89 ?_
            refine g_iload_6 (pc := 91) C dX2_find_91 ?_
            refine g_istore_5 (pc := 93) C dX2_find_93 ?_
            refine g_iload_7 (pc := 95) C dX2_find_95 ?_
            refine g_iload_6 (pc := 97) C dX2_find_97 ?_
            refine g_iadd (pc := 99) C dX2_find_99 ?_
            refine g_istore_7 (pc := 100) C dX2_find_100 ?_
            refine g_goto (pc := 102) (tgt := 28) C dX2_find_102 (by decide) ?_
            rw [e8]
            refine ihk ((T 5 x.toNat + (k : Int) * B, B), _) (by omega) ⟨?_, hkk⟩
            have h1 := fnI_yes hk (by rw [hB]; omega) hvl (hwh.mpr (bz_1 h84)) hS1.1 (by omega)
            rw [hB] at h1
            exact h1
      · refine g_iload_3 (pc := 52) C dX2_find_52 ?_
        refine g_if_le (pc := 53) (tgt := 67) C dX2_find_53 (by decide) (by omega) (fun h53 => ?_) (fun h53 => ?_)
        · refine g_iconst (pc := 67) C dX2_find_67 ?_
          refine g_istore_8 (pc := 68) C dX2_find_68 ?_
          refine g_iload_8 (pc := 70) C dX2_find_70 ?_
          refine g_if_eq (pc := 72) (tgt := 95) C dX2_find_72 (by decide) (by omega) (fun h72 => ?_) (fun h72 => ?_)
          · refine g_iload_7 (pc := 95) C dX2_find_95 ?_
            refine g_iload_6 (pc := 97) C dX2_find_97 ?_
            refine g_iadd (pc := 99) C dX2_find_99 ?_
            refine g_istore_7 (pc := 100) C dX2_find_100 ?_
            refine g_goto (pc := 102) (tgt := 28) C dX2_find_102 (by decide) ?_
            rw [e8]
            have h1 : fnI T x S w i (k + 1) f fs := fnI_no hk (fun _ _ => ⟨by omega, fun _ => by rw [hB]; omega⟩) hS1.1 (by omega)
            exact ihk ((f, fs), _) (by omega) ⟨h1, hkk⟩
          · omega
        · refine g_iload_6 (pc := 56) C dX2_find_56 ?_
          refine g_iload_5 (pc := 58) C dX2_find_58 ?_
          refine g_icmp_le (pc := 60) (tgt := 67) C dX2_find_60 (by decide) (by omega) (by omega) (fun h60 => ?_) (fun h60 => ?_)
          · refine g_iconst (pc := 67) C dX2_find_67 ?_
            refine g_istore_8 (pc := 68) C dX2_find_68 ?_
            refine g_iload_8 (pc := 70) C dX2_find_70 ?_
            refine g_if_eq (pc := 72) (tgt := 95) C dX2_find_72 (by decide) (by omega) (fun h72 => ?_) (fun h72 => ?_)
            · refine g_iload_7 (pc := 95) C dX2_find_95 ?_
              refine g_iload_6 (pc := 97) C dX2_find_97 ?_
              refine g_iadd (pc := 99) C dX2_find_99 ?_
              refine g_istore_7 (pc := 100) C dX2_find_100 ?_
              refine g_goto (pc := 102) (tgt := 28) C dX2_find_102 (by decide) ?_
              rw [e8]
              have h1 : fnI T x S w i (k + 1) f fs := fnI_no hk (fun _ _ => ⟨by omega, fun _ => by rw [hB]; omega⟩) hS1.1 (by omega)
              exact ihk ((f, fs), _) (by omega) ⟨h1, hkk⟩
            · omega
          · refine g_iconst (pc := 63) C dX2_find_63 ?_
            refine g_goto (pc := 64) (tgt := 68) C dX2_find_64 (by decide) ?_
            refine g_istore_8 (pc := 68) C dX2_find_68 ?_
            refine g_iload_8 (pc := 70) C dX2_find_70 ?_
            refine g_if_eq (pc := 72) (tgt := 95) C dX2_find_72 (by decide) (by omega) (fun h72 => ?_) (fun h72 => ?_)
            · omega
            · refine g_aload_0 (pc := 75) C dX2_find_75 ?_
              refine g_iload_1 (pc := 76) C dX2_find_76 ?_
              refine g_iload_7 (pc := 77) C dX2_find_77 ?_
              refine g_iload_6 (pc := 79) C dX2_find_79 ?_
              refine g_cM3Pv (pc := 81) C cs_X2_53 (k_X2_isWhole h13 hV x _ B hx (by omega) hp) ⟨Nat.le_of_ble_eq_true rfl, Nat.le_of_ble_eq_true rfl⟩ (by omega) (Nat.le_of_ble_eq_true rfl) ⟨Nat.le_of_ble_eq_true rfl, Nat.le_of_ble_eq_true rfl⟩ dX2_find_81 ?_
              refine g_if_eq (pc := 84) (tgt := 95) C dX2_find_84 (by decide) (bz_rg _) (fun h84 => ?_) (fun h84 => ?_)
              · refine g_iload_7 (pc := 95) C dX2_find_95 ?_
                refine g_iload_6 (pc := 97) C dX2_find_97 ?_
                refine g_iadd (pc := 99) C dX2_find_99 ?_
                refine g_istore_7 (pc := 100) C dX2_find_100 ?_
                refine g_goto (pc := 102) (tgt := 28) C dX2_find_102 (by decide) ?_
                rw [e8]
                exact ihk ((f, fs), _) (by omega) ⟨fnI_no hk (fun h1 _ => absurd (hwh.mp h1) (bz_0 h84)) hS1.1 (by omega), hkk⟩
              · refine g_iload_7 (pc := 87) C dX2_find_87 ?_
                refine g_istore_4 (pc := 89) C dX2_find_89 ?_
                refine g_iload_6 (pc := 91) C dX2_find_91 ?_
                refine g_istore_5 (pc := 93) C dX2_find_93 ?_
                refine g_iload_7 (pc := 95) C dX2_find_95 ?_
                refine g_iload_6 (pc := 97) C dX2_find_97 ?_
                refine g_iadd (pc := 99) C dX2_find_99 ?_
                refine g_istore_7 (pc := 100) C dX2_find_100 ?_
                refine g_goto (pc := 102) (tgt := 28) C dX2_find_102 (by decide) ?_
                rw [e8]
                refine ihk ((T 5 x.toNat + (k : Int) * B, B), _) (by omega) ⟨?_, hkk⟩
                have h1 := fnI_yes hk (by rw [hB]; omega) hvl (hwh.mpr (bz_1 h84)) hS1.1 (by omega)
                rw [hB] at h1
                exact h1
