theorem grf_ref {ad : Nat → Nat} {x : Int} (h : 0 ≤ x) : grf ad x = .ref (ad (x.toNat + 13)) := by
  unfold grf gO
  rw [if_neg (by omega)]
  rfl
theorem grf_null {ad : Nat → Nat} {x : Int} (h : x < 0) : grf ad x = .null := by
  unfold grf gO
  rw [if_pos h]
  rfl
theorem grf_cat {ad : Nat → Nat} {x : Int} : (grf ad x).category = 1 := by
  unfold grf
  cases gO ad x <;> rfl
section
variable {p : Program} {l : Launch} {e : Env} {R : Room} {s : State} {m : MethodId} {args : Array Value} {below : List Frame} {meth : Method} {c : Code} {Q : State → Prop} {cs : CSt} {A : Nat → Prop} {nL : Nat}
variable {cc : ByteArray} {own : String} {rt : Option FieldType} {k n np : Nat} {ad : Nat → Nat} {T T' : MT} {pc : Nat} {lv : List (Option Value)} {st : List Value}
/-- the same place in the code and the world, said otherwise -/
theorem g_eq {T2 : MT} {lv2 : List (Option Value)} {st2 : List Value} (hT : T = T2) (hl : lv = lv2) (hs : st = st2) (kk : GG p l e R s m args below meth c Q cs A nL k n np ad T2 pc lv2 st2) : GG p l e R s m args below meth c Q cs A nL k n np ad T pc lv st := by
  subst hT; subst hl; subst hs; exact kk
theorem g_getG (C : gC p l s m args meth c cs A nL cc own rt) {ci f idx : Nat} {Cn : String} {TT : u_T} {N : Nat} {fs : List Value} {v : Value} {q : Nat} (hq : 13 ≤ np ∧ (q < 4 ∨ 13 ≤ q) ∧ q < np) (he : cel cs ad T q = .inr (ci, fs)) (hc : vwCl[ci]? = some (Cn, TT, N)) (hin : ∀ w ∈ u_ws Cn TT N, w ∈ GW) (hf : f < N) (hlink : Cond.fieldLink own idx (TT f).1 (TT f).2.1 (TT f).2.2.1 ∈ GW) (hv : fs[f]? = some v) (d : decode cc pc = .ok (.getfield idx, 3)) (kk : GG p l e R s m args below meth c Q cs A nL k n np ad T (pc + 3) lv (v :: st)) : GG p l e R s m args below meth c Q cs A nL k n np ad T pc lv (.ref (ad q) :: st) := fun H locs ls hP hD hS hl =>
  va_get (D := cs.1) (ci := ci) (v := v) (C := Cn) (T := TT) (N := N) C.1 C.2.1 C.2.2.2.2.1 hin C.2.2.2.1 C.2.2.2.2.2.2.1 hP (gJ q) (by rw [gW_get hq, he]) hc f hf (C.2.2.2.2.1 _ hlink) (fun _ h9 => h9) hv d (kk H locs ls hP hD hS hl)
theorem g_putG (C : gC p l s m args meth c cs A nL cc own rt) {ci f idx : Nat} {Cn : String} {TT : u_T} {N : Nat} {fs : List Value} {v : Value} {q : Nat} {tyf : Nat → FieldType} {ty : FieldType} (hq : 13 ≤ np ∧ (q < 4 ∨ 13 ≤ q) ∧ q < np) (he : cel cs ad T q = .inr (ci, fs)) (hc : vwCl[ci]? = some (Cn, TT, N)) (hin : ∀ w ∈ u_ws Cn TT N, w ∈ GW) (hty : ∀ k, k < N → parseFieldDescriptor (TT k).2.2.1 = some (tyf k)) (hnm : ∀ a, a < N → ∀ b, b < N → a ≠ b → (TT a).2.1 ≠ (TT b).2.1) (hf : f < N) (hlink : Cond.fieldLink own idx (TT f).1 (TT f).2.1 (TT f).2.2.1 ∈ GW) (hfin : (TT f).2.2.2 = false) (hd : parseFieldDescriptor (TT f).2.2.1 = some ty) (hn : narrow ty v = v) (hfit : fits ty v = true) (hlen : f < fs.length) (he' : cel cs ad T' q = .inr (ci, fs.set f v)) (ho : ∀ j, j ≠ q → cel cs ad T' j = cel cs ad T j) (d : decode cc pc = .ok (.putfield idx, 3)) (kk : GG p l e R s m args below meth c Q cs A nL k n np ad T' (pc + 3) lv st) : GG p l e R s m args below meth c Q cs A nL k n np ad T pc lv (v :: .ref (ad q) :: st) := fun H locs ls hP hD hS hl =>
  va_put (D := cs.1) (ci := ci) (v := v) (ty := ty) (C := Cn) (T := TT) (N := N) C.1 C.2.1 C.2.2.2.2.1 hin tyf hty hnm C.2.2.2.1 C.2.2.2.2.2.2.1 hP hD hS (gJ q) (by rw [gW_get hq, he]) hc f hf (C.2.2.2.2.1 _ hlink) (fun _ h9 => h9) hfin hd hn hfit hlen d (fun H1 locs1 hP1 hD1 hS1 => by
    have e1 := gW_set (x := .inr (ci, fs.set f v)) hq he' ho
    rw [e1] at hP1 hD1
    exact kk H1 locs1 ls hP1 hD1 hS1 hl)
theorem g_putFG (C : gC p l s m args meth c cs A nL cc own rt) {ci f idx : Nat} {Cn : String} {TT : u_T} {N : Nat} {fs : List Value} {v : Value} {q : Nat} {tyf : Nat → FieldType} {ty : FieldType} (hq : 13 ≤ np ∧ (q < 4 ∨ 13 ≤ q) ∧ q < np) (he : cel cs ad T q = .inr (ci, fs)) (hc : vwCl[ci]? = some (Cn, TT, N)) (hin : ∀ w ∈ u_ws Cn TT N, w ∈ GW) (hty : ∀ k, k < N → parseFieldDescriptor (TT k).2.2.1 = some (tyf k)) (hnm : ∀ a, a < N → ∀ b, b < N → a ≠ b → (TT a).2.1 ≠ (TT b).2.1) (hf : f < N) (hlink : Cond.fieldLink own idx (TT f).1 (TT f).2.1 (TT f).2.2.1 ∈ GW) (hfin : (TT f).2.2.2 = true) (hin2 : meth.name = "<init>") (hdecl : (TT f).1 = own) (hd : parseFieldDescriptor (TT f).2.2.1 = some ty) (hn : narrow ty v = v) (hfit : fits ty v = true) (hlen : f < fs.length) (he' : cel cs ad T' q = .inr (ci, fs.set f v)) (ho : ∀ j, j ≠ q → cel cs ad T' j = cel cs ad T j) (d : decode cc pc = .ok (.putfield idx, 3)) (kk : GG p l e R s m args below meth c Q cs A nL k n np ad T' (pc + 3) lv st) : GG p l e R s m args below meth c Q cs A nL k n np ad T pc lv (v :: .ref (ad q) :: st) := fun H locs ls hP hD hS hl =>
  va_putF (D := cs.1) (ci := ci) (v := v) (ty := ty) (C := Cn) (T := TT) (N := N) C.1 C.2.1 C.2.2.2.2.1 hin tyf hty hnm C.2.2.2.1 C.2.2.2.2.2.2.1 hP hD hS (gJ q) (by rw [gW_get hq, he]) hc f hf (C.2.2.2.2.1 _ hlink) (fun _ h9 => h9) hfin hin2 hdecl hd hn hfit hlen d (fun H1 locs1 hP1 hD1 hS1 => by
    have e1 := gW_set (x := .inr (ci, fs.set f v)) hq he' ho
    rw [e1] at hP1 hD1
    exact kk H1 locs1 ls hP1 hD1 hS1 hl)
/-! arrays -/
theorem g_iald (C : gC p l s m args meth c cs A nL cc own rt) {q N : Nat} {i : Int} {f : Nat → Int32} (hq : 13 ≤ np ∧ (q < 4 ∨ 13 ≤ q) ∧ q < np) (he : cel cs ad T q = .inl (cs.2.1 0, N, .inl f)) (hi : 0 ≤ i ∧ i < N) (hN : N < 2147483648) (d : decode cc pc = .ok (.iaload, 1)) (kk : GG p l e R s m args below meth c Q cs A nL k n np ad T (pc + 1) lv (.int (f i.toNat) :: st)) : GG p l e R s m args below meth c Q cs A nL k n np ad T pc lv (.int (zI i) :: .ref (ad q) :: st) := fun H locs ls hP hD hS hl =>
  va_iald C.1 C.2.1 C.2.2.2.2.2.2.1 hP (gJ q) 0 (by rw [gW_get hq, he]) rfl (zI_in hi hN) d (by rw [zI_nat (by omega)]; exact kk H locs ls hP hD hS hl)
theorem g_aald (C : gC p l s m args meth c cs A nL cc own rt) (hq : 13 ≤ np) {i : Int} (hi : 0 ≤ i ∧ i < 60) (d : decode cc pc = .ok (.aaload, 1)) (kk : GG p l e R s m args below meth c Q cs A nL k n np ad T (pc + 1) lv (grf ad (mkd T i.toNat) :: st)) : GG p l e R s m args below meth c Q cs A nL k n np ad T pc lv (.int (zI i) :: .ref (ad 1) :: st) := fun H locs ls hP hD hS hl =>
  va_aldq (C := RX0) C.1 C.2.1 C.2.2.2.2.2.2.1 hP (gJ 1) 1 (by rw [gW_get (by omega)]; rfl) rfl (zI_in (n := 60) (by omega) (by decide)) d (by rw [zI_nat (by omega)]; exact kk H locs ls hP hD hS hl)
theorem upd_zI {T T' : MT} {r i : Nat} {z : Int} (h : T' = mst T r i z) : upd (fun j => zI (T r j)) i (zI z) = fun j => zI (T' r j) := by
  subst h
  funext j
  by_cases hj : j = i
  · subst hj
    rw [pk_us, mst_eq]
  · rw [pk_un hj, mst_i hj]
theorem g_iast (C : gC p l s m args meth c cs A nL cc own rt) {q N : Nat} {i z : Int} (hq : 13 ≤ np ∧ (q < 4 ∨ 13 ≤ q) ∧ q < np) (h13 : q < 13) (he : ∀ T : MT, cel cs ad T q = .inl (cs.2.1 0, N, .inl (fun j => zI (T q j)))) (hi : 0 ≤ i ∧ i < N) (hN : N < 2147483648) (d : decode cc pc = .ok (.iastore, 1)) (kk : GG p l e R s m args below meth c Q cs A nL k n np ad (mst T q i.toNat z) (pc + 1) lv st) : GG p l e R s m args below meth c Q cs A nL k n np ad T pc lv (.int (zI z) :: .int (zI i) :: .ref (ad q) :: st) := fun H locs ls hP hD hS hl =>
  va_iast C.1 C.2.1 C.2.2.2.2.2.2.1 hP hD hS (gJ q) 0 (by rw [gW_get hq, he T]) rfl (zI_in hi hN) d (fun H1 locs1 hP1 hD1 hS1 => by
    rw [zI_nat (by omega), upd_zI rfl] at hP1 hD1
    have e1 := gW_set (cs := cs) (ad := ad) (T := T) (T' := mst T q i.toNat z) hq (he _) (cel_reg q h13 (fun r j hr => mst_r hr))
    rw [e1] at hP1 hD1
    exact kk H1 locs1 ls hP1 hD1 hS1 hl)
theorem nar_bool {z : Int} (h : z = 0 ∨ z = 1) : vp_nar .boolean (zI z) = zI z := by
  rcases h with rfl | rfl <;> decide
/-- made[i] = null -/
theorem g_aastN (C : gC p l s m args meth c cs A nL cc own rt) {i : Int} (hq : 13 ≤ np) (hi : 0 ≤ i ∧ i < 60) (d : decode cc pc = .ok (.aastore, 1)) (kk : GG p l e R s m args below meth c Q cs A nL k n np ad (mst T 1 i.toNat 0) (pc + 1) lv st) : GG p l e R s m args below meth c Q cs A nL k n np ad T pc lv (.null :: .int (zI i) :: .ref (ad 1) :: st) := fun H locs ls hP hD hS hl =>
  va_astqN (C := RX0) C.1 C.2.1 C.2.2.2.2.2.2.1 hP hD hS (gJ 1) 1 (by rw [gW_get (by omega)]; rfl) rfl (zI_in (n := 60) (by omega) (by decide)) d (fun H1 locs1 hP1 hD1 hS1 => by
    have e0 : va_up (fun j => gO ad (mkd T j)) i.toNat none = fun j => gO ad (mkd (mst T 1 i.toNat 0) j) := by
      funext j
      by_cases hj : j = i.toNat
      · rw [hj, va_up_self]
        simp [mkd, mst, gO]
      · rw [va_up_ne _ _ hj]
        simp [mkd, mst, hj]
    rw [zI_nat (by omega), e0] at hP1 hD1
    have e1 := gW_set (cs := cs) (np := np) (ad := ad) (T := T) (T' := mst T 1 i.toNat 0) (k := 1) (by omega) rfl (cel_reg 1 (by decide) (fun r j hr => mst_r hr))
    exact kk H1 locs1 ls (by rw [← e1]; exact hP1) (by rw [← e1]; exact hD1) hS1 hl)
/-- made[i] = the span i -/
theorem g_aast (C : gC p l s m args meth c cs A nL cc own rt) {i : Int} (hq : i + 13 < np) (hi : 0 ≤ i ∧ i < 60) (d : decode cc pc = .ok (.aastore, 1)) (kk : GG p l e R s m args below meth c Q cs A nL k n np ad (mst T 1 i.toNat 1) (pc + 1) lv st) : GG p l e R s m args below meth c Q cs A nL k n np ad T pc lv (grf ad i :: .int (zI i) :: .ref (ad 1) :: st) := fun H locs ls hP hD hS hl => by
  rw [grf_ref hi.1]
  refine va_astq (r := (RX0, TX0, 5)) (ci := 0) C.1 C.2.1 C.2.2.2.2.2.2.1 hP hD hS (gJ 1) 1 (gJ (i.toNat + 13)) (by rw [gW_get (by omega)]; rfl) rfl (by rw [gW_get (by omega)]; rfl) rfl (zI_in (n := 60) (by omega) (by decide)) d (fun H1 locs1 hP1 hD1 hS1 => ?_)
  have e0 : va_up (fun j => gO ad (mkd T j)) i.toNat (some (ad (i.toNat + 13))) = fun j => gO ad (mkd (mst T 1 i.toNat 1) j) := by
      funext j
      by_cases hj : j = i.toNat
      · rw [hj, va_up_self]
        have h2 : mkd (mst T 1 i.toNat 1) i.toNat = (i.toNat : Int) := by simp [mkd, mst]
        rw [h2]
        unfold gO
        rw [if_neg (by omega), Int.toNat_natCast]
      · rw [va_up_ne _ _ hj]
        simp [mkd, mst, hj]
  rw [zI_nat (by omega), e0] at hP1 hD1
  have e1 := gW_set (cs := cs) (np := np) (ad := ad) (T := T) (T' := mst T 1 i.toNat 1) (k := 1) (by omega) rfl (cel_reg 1 (by decide) (fun r j hr => mst_r hr))
  exact kk H1 locs1 ls (by rw [← e1]; exact hP1) (by rw [← e1]; exact hD1) hS1 hl
theorem g_alen1 (C : gC p l s m args meth c cs A nL cc own rt) (hq : 13 ≤ np) (d : decode cc pc = .ok (.arraylength, 1)) (kk : GG p l e R s m args below meth c Q cs A nL k n np ad T (pc + 1) lv (.int (zI 60) :: st)) : GG p l e R s m args below meth c Q cs A nL k n np ad T pc lv (.ref (ad 1) :: st) := fun H locs ls hP hD hS hl =>
  va_alen C.1 C.2.1 C.2.2.2.2.2.2.1 hP (gJ 1) 1 (by rw [gW_get (by omega)]; rfl) rfl (show Int32.ofNat 60 = zI 60 by decide) d (kk H locs ls hP hD hS hl)
theorem g_alen2 (C : gC p l s m args meth c cs A nL cc own rt) (hq : 13 ≤ np) (d : decode cc pc = .ok (.arraylength, 1)) (kk : GG p l e R s m args below meth c Q cs A nL k n np ad T (pc + 1) lv (.int (zI 4096) :: st)) : GG p l e R s m args below meth c Q cs A nL k n np ad T pc lv (.ref (ad 2) :: st) := fun H locs ls hP hD hS hl =>
  va_alen C.1 C.2.1 C.2.2.2.2.2.2.1 hP (gJ 2) 0 (by rw [gW_get (by omega)]; rfl) rfl (show Int32.ofNat 4096 = zI 4096 by decide) d (kk H locs ls hP hD hS hl)
theorem g_alen3 (C : gC p l s m args meth c cs A nL cc own rt) (hq : 13 ≤ np) (d : decode cc pc = .ok (.arraylength, 1)) (kk : GG p l e R s m args below meth c Q cs A nL k n np ad T (pc + 1) lv (.int (zI 4096) :: st)) : GG p l e R s m args below meth c Q cs A nL k n np ad T pc lv (.ref (ad 3) :: st) := fun H locs ls hP hD hS hl =>
  va_alen C.1 C.2.1 C.2.2.2.2.2.2.1 hP (gJ 3) 0 (by rw [gW_get (by omega)]; rfl) rfl (show Int32.ofNat 4096 = zI 4096 by decide) d (kk H locs ls hP hD hS hl)
/-! references to spans -/
theorem g_ifnull (C : gC p l s m args meth c cs A nL cc own rt) {x off : Int} {tgt : Nat} (d : decode cc pc = .ok (.ifnull off, 3)) (ht : (pc : Int) + off = (tgt : Int)) (kt : x < 0 → GG p l e R s m args below meth c Q cs A nL k n np ad T tgt lv st) (kf : 0 ≤ x → GG p l e R s m args below meth c Q cs A nL k n np ad T (pc + 3) lv st) : GG p l e R s m args below meth c Q cs A nL k n np ad T pc lv (grf ad x :: st) := fun H locs ls hP hD hS hl => by
  by_cases h : x < 0
  · rw [grf_null h]
    exact lv_ifnullN C.1 C.2.1 d ht (kt h H locs ls hP hD hS hl)
  · rw [grf_ref (by omega)]
    exact lv_ifnull C.1 C.2.1 d (kf (by omega) H locs ls hP hD hS hl)
theorem g_ifnonnull (C : gC p l s m args meth c cs A nL cc own rt) {x off : Int} {tgt : Nat} (d : decode cc pc = .ok (.ifnonnull off, 3)) (ht : (pc : Int) + off = (tgt : Int)) (kt : 0 ≤ x → GG p l e R s m args below meth c Q cs A nL k n np ad T tgt lv st) (kf : x < 0 → GG p l e R s m args below meth c Q cs A nL k n np ad T (pc + 3) lv st) : GG p l e R s m args below meth c Q cs A nL k n np ad T pc lv (grf ad x :: st) := fun H locs ls hP hD hS hl => by
  by_cases h : x < 0
  · rw [grf_null h]
    exact lv_ifnonnullN C.1 C.2.1 d (kf h H locs ls hP hD hS hl)
  · rw [grf_ref (by omega)]
    exact lv_ifnonnull C.1 C.2.1 d ht (kt (by omega) H locs ls hP hD hS hl)
theorem gO_inj {cs : CSt} {A : Nat → Prop} {np : Nat} {ad : Nat → Nat} {T : MT} (hD : va_D A (gW cs np ad T)) {x y : Int} (hx : -1 ≤ x ∧ x + 13 < np) (hy : -1 ≤ y ∧ y + 13 < np) : gO ad x = gO ad y ↔ x = y := by
  constructor
  · intro h
    unfold gO at h
    by_cases h1 : x < 0 <;> by_cases h2 : y < 0
    · omega
    · rw [if_pos h1, if_neg h2] at h; cases h
    · rw [if_neg h1, if_pos h2] at h; cases h
    · rw [if_neg h1, if_neg h2] at h
      have h3 := Option.some.inj h
      have h4 := hD.1 (gJ (x.toNat + 13)) (gJ (y.toNat + 13)) _ _ (gW_get (by omega)) (gW_get (by omega)) h3
      have h5 : ∀ z : Nat, gJ (z + 13) = z + 4 := fun z => by unfold gJ; rw [if_neg (by omega)]; omega
      rw [h5, h5] at h4
      omega
  · intro h; rw [h]
theorem g_acmp_ne (C : gC p l s m args meth c cs A nL cc own rt) {x y off : Int} {tgt : Nat} (d : decode cc pc = .ok (.if_acmp .ne off, 3)) (ht : (pc : Int) + off = (tgt : Int)) (hx : -1 ≤ x ∧ x + 13 < np) (hy : -1 ≤ y ∧ y + 13 < np) (kt : x ≠ y → GG p l e R s m args below meth c Q cs A nL k n np ad T tgt lv st) (kf : x = y → GG p l e R s m args below meth c Q cs A nL k n np ad T (pc + 3) lv st) : GG p l e R s m args below meth c Q cs A nL k n np ad T pc lv (grf ad y :: grf ad x :: st) := fun H locs ls hP hD hS hl =>
  lv_acmp_ne C.1 C.2.1 d ht (fun h => kt (fun q => h ((gO_inj hD hx hy).mpr q)) H locs ls hP hD hS hl) (fun h => kf ((gO_inj hD hx hy).mp h) H locs ls hP hD hS hl)
theorem g_acmp_eq (C : gC p l s m args meth c cs A nL cc own rt) {x y off : Int} {tgt : Nat} (d : decode cc pc = .ok (.if_acmp .eq off, 3)) (ht : (pc : Int) + off = (tgt : Int)) (hx : -1 ≤ x ∧ x + 13 < np) (hy : -1 ≤ y ∧ y + 13 < np) (kt : x = y → GG p l e R s m args below meth c Q cs A nL k n np ad T tgt lv st) (kf : x ≠ y → GG p l e R s m args below meth c Q cs A nL k n np ad T (pc + 3) lv st) : GG p l e R s m args below meth c Q cs A nL k n np ad T pc lv (grf ad y :: grf ad x :: st) := fun H locs ls hP hD hS hl =>
  lv_acmp_eq C.1 C.2.1 d ht (fun h => kt ((gO_inj hD hx hy).mp h) H locs ls hP hD hS hl) (fun h => kf (fun q => h ((gO_inj hD hx hy).mpr q)) H locs ls hP hD hS hl)
end
