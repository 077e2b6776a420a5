/-! what the law makes of a class's call: whether it throws, what it answers, the memory behind it -/
abbrev Cmd : Type := Nat × Int × MT
def aPR (c : Cmd) (np : Nat) (ad : Nat → Nat) (T : MT) : Option Value → St3 → Prop := fun v u => (c.1 = 0 ∧ v = some (.int (zI c.2.1)) ∧ ∃ ad', ad' 0 = ad 0 ∧ u = ((c.2.2 0 2).toNat + 13, ad', c.2.2)) ∨ (c.1 ≠ 0 ∧ v = some (.int (zI (-99999))) ∧ u = (np, ad, T))
noncomputable def exR (T : MT) (a : Int) : Nat := if fsp T a < 0 then 1 else if 0 ≤ T 14 a.toNat ∧ cntC T a (T 15 a.toNat) (T 16 a.toNat) 60 ≤ 0 ∧ lnt (T 2) (T 15 a.toNat).toNat (T 16 a.toNat).toNat ≤ 0 then 0 else 3
noncomputable def exG (T : MT) (a : Int) : Nat := if fsp T a < 0 then 1 else if 0 ≤ T 14 a.toNat ∧ 2 * T 16 a.toNat < T 16 (T 14 a.toNat).toNat ∧ cntC T (T 14 a.toNat) (grB T a) (2 * T 16 a.toNat) 60 ≤ 1 then 0 else 3
noncomputable def exH (T : MT) (a : Int) : Nat := if fsp T a < 0 then 1 else if 0 ≤ T 14 a.toNat ∧ T 16 a.toNat / 2 ≠ 0 ∧ cntC T a (T 15 a.toNat + T 16 a.toNat / 2) (T 16 a.toNat / 2) 60 ≤ 0 ∧ lnt (T 2) (T 15 a.toNat + T 16 a.toNat / 2).toNat (T 16 a.toNat / 2).toNat ≤ 0 then 0 else 3
noncomputable def exS (T : MT) (a o : Int) : Nat := if fsp T a < 0 then 1 else if 0 ≤ o ∧ o < 8 then 0 else 2
noncomputable def exL (T : MT) (a d : Int) : Nat := if fsp T a < 0 then 1 else if ¬ (0 ≤ d ∧ d ≤ 100) then 2 else if T 0 4 < 200 ∧ ¬ cntC T a (T 15 a.toNat) (T 16 a.toNat) 60 > 0 ∧ 0 ≤ lwC T a then 0 else 3
def exT (T : MT) (a : Int) : Nat := if ¬ (0 ≤ a ∧ a < 4096) then 1 else if T 2 a.toNat = 0 then 3 else 0
def exP (T : MT) (d : Int) : Nat := if ¬ (1 ≤ d ∧ d ≤ 1000) then 2 else if 100000 - T 0 5 < d then 3 else 0
noncomputable def cCv (T : MT) (a S o w : Int) : Cmd := (exCv T a S o w, T 0 2, mkT T (T 0 2).toNat a (cvB T a S w) S o)
noncomputable def cCa (T : MT) (a B S o : Int) : Cmd := (exCa T a B S o, T 0 2, mkT T (T 0 2).toNat a B S o)
noncomputable def cRm (T : MT) (a : Int) : Cmd := (exR T a, T 16 a.toNat, mst (mst T 1 a.toNat 0) 0 7 0)
noncomputable def cGr (T : MT) (a : Int) : Cmd := (exG T a, grB T a, mst (mst (mst T 15 a.toNat (grB T a)) 16 a.toNat (2 * T 16 a.toNat)) 0 7 0)
noncomputable def cHv (T : MT) (a : Int) : Cmd := (exH T a, T 16 a.toNat / 2, mst (mst T 16 a.toNat (T 16 a.toNat / 2)) 0 7 0)
noncomputable def cSo (T : MT) (a o : Int) : Cmd := (exS T a o, T 17 a.toNat, mst T 17 a.toNat o)
noncomputable def cLe (T : MT) (a d : Int) : Cmd := (exL T a d, lwC T a, mst (mst T 2 (lwC T a).toNat (if d = 0 then -1 else T 0 5 + d)) 0 4 (T 0 4 + 1))
def cTk (T : MT) (a : Int) : Cmd := (exT T a, (if T 2 a.toNat = -1 then 0 else T 2 a.toNat - T 0 5), mst (mst T 2 a.toNat 0) 0 4 (T 0 4 - 1))
def cPs (T : MT) (d : Int) : Cmd := (exP T d, psN T (T 0 5 + d) 4096, mst (mst (pasT T (T 0 5 + d) 4096) 0 5 (T 0 5 + d)) 0 4 (T 0 4 - psN T (T 0 5 + d) 4096))
theorem np_eq {np : Nat} {T : MT} (hV : VC np T) : (T 0 2).toNat + 13 = np := by have := hV.1; omega
theorem a_KD {np : Nat} {ad : Nat → Nat} {T U : MT} {ex : Nat} {w : Int} (hV : VC np T) (h02 : U 0 2 = T 0 2) {v : Option Value} {u : St3} (h : hRt ex (dRt ex (some (.int (zI w))) (np, ad, U)) np ad T v u) : aPR (ex, w, U) np ad T v u := by
  rcases h with ⟨h0, rfl, rfl⟩ | h
  · exact Or.inl ⟨h0, rfl, ad, rfl, by show _ = ((U 0 2).toNat + 13, ad, U); rw [h02, np_eq hV]⟩
  · exact Or.inr h
theorem a_mk {np : Nat} {ad : Nat → Nat} {T : MT} {ex : Nat} {a B S o : Int} (hV : VC np T) {v : Option Value} {u : St3} (h : hRt ex (fun v u => ex = 0 ∧ v = some (.int (zI (T 0 2))) ∧ ∃ q, u = (np + 1, va_up ad np q, mkT T (T 0 2).toNat a B S o)) np ad T v u) : aPR (ex, T 0 2, mkT T (T 0 2).toNat a B S o) np ad T v u := by
  have h1 := hV.1
  rcases h with ⟨h0, rfl, q, rfl⟩ | h
  · refine Or.inl ⟨h0, rfl, va_up ad np q, va_up_ne _ _ (by omega), ?_⟩
    have e1 : mkT T (T 0 2).toNat a B S o 0 2 = T 0 2 + 1 := by
      unfold mkT
      rw [if_neg (by omega), if_neg (by omega), if_pos ⟨rfl, rfl⟩]
    show _ = ((mkT T (T 0 2).toNat a B S o 0 2).toNat + 13, va_up ad np q, mkT T (T 0 2).toNat a B S o)
    rw [e1, show (T 0 2 + 1).toNat + 13 = np + 1 by omega]
  · exact Or.inr h
theorem aPR_int {c : Cmd} {np : Nat} {ad : Nat → Nat} {T : MT} {v : Option Value} {u : St3} (h : aPR c np ad T v u) : ∃ z : Int, v = some (.int (zI z)) := by
  rcases h with ⟨-, h, -⟩ | ⟨-, h, -⟩
  · exact ⟨_, h⟩
  · exact ⟨_, h⟩
section
variable {l : Launch} {cs : CSt} {np : Nat} {ad : Nat → Nat} {T : MT}
theorem a_carve (hI : Inv np T) (a0 a1 a2 a3 : Int) (h0 : -2147483648 ≤ a0 ∧ a0 < 2147483648) (h1 : -2147483648 ≤ a1 ∧ a1 < 2147483648) (h2 : -2147483648 ≤ a2 ∧ a2 < 2147483648) (h3 : -2147483648 ≤ a3 ∧ a3 < 2147483648) : KC l cs yL_carve (Cond.codeWith yL_carve cL_carve 6 (some .int) [(0, 9, 10, 14), (0, 9, 15, 17), (0, 9, 20, 19)] :: GW) 8 8 48 [.ref (ad 0), .int (zI a0), .int (zI a1), .int (zI a2), .int (zI a3)] np ad T (aPR (cCv T a0 a1 a2 a3) np ad T) (fun _ _ => False) :=
  KC.mono (k_L_carve hI.n13 (k_X1_carve hI.1 hI.2.1 hI.2.2.1 a0 a1 a2 a3 h0 h1 h2 h3) (fun v u h => ⟨_, h.2.1⟩) (by unfold exCv; (repeat' split) <;> simp)) (fun v u h => a_mk hI.1 h) (fun _ _ h => h)
theorem a_carveAt (hI : Inv np T) (a0 a1 a2 a3 : Int) (h0 : -2147483648 ≤ a0 ∧ a0 < 2147483648) (h1 : -2147483648 ≤ a1 ∧ a1 < 2147483648) (h2 : -2147483648 ≤ a2 ∧ a2 < 2147483648) (h3 : -2147483648 ≤ a3 ∧ a3 < 2147483648) : KC l cs yL_carveAt (Cond.codeWith yL_carveAt cL_carveAt 6 (some .int) [(0, 9, 10, 14), (0, 9, 15, 17), (0, 9, 20, 19)] :: GW) 8 8 48 [.ref (ad 0), .int (zI a0), .int (zI a1), .int (zI a2), .int (zI a3)] np ad T (aPR (cCa T a0 a1 a2 a3) np ad T) (fun _ _ => False) :=
  KC.mono (k_L_carveAt hI.n13 (k_X1_carveAt hI.1 hI.2.1 hI.2.2.1 a0 a1 a2 a3 h0 h1 h2 h3) (fun v u h => ⟨_, h.2.1⟩) (by unfold exCa; (repeat' split) <;> simp)) (fun v u h => a_mk hI.1 h) (fun _ _ h => h)
theorem a_remove (hI : Inv np T) (a0 : Int) (h0 : -2147483648 ≤ a0 ∧ a0 < 2147483648) : KC l cs yL_remove (Cond.codeWith yL_remove cL_remove 3 (some .int) [(0, 5, 6, 14), (0, 5, 10, 19)] :: GW) 8 8 48 [.ref (ad 0), .int (zI a0)] np ad T (aPR (cRm T a0) np ad T) (fun _ _ => False) :=
  KC.mono (k_L_remove hI.n13 (k_X1_remove hI.1 hI.2.1 a0 h0) (fun v u h => ⟨_, h.2.1⟩) (by (repeat' split) <;> simp)) (fun v u h => a_KD hI.1 (by rw [mst_i (by decide), mst_r (by decide)]) h) (fun _ _ h => h)
theorem a_grow (hI : Inv np T) (a0 : Int) (h0 : -2147483648 ≤ a0 ∧ a0 < 2147483648) : KC l cs yL_grow (Cond.codeWith yL_grow cL_grow 3 (some .int) [(0, 5, 6, 14), (0, 5, 10, 19)] :: GW) 8 8 48 [.ref (ad 0), .int (zI a0)] np ad T (aPR (cGr T a0) np ad T) (fun _ _ => False) :=
  KC.mono (k_L_grow hI.n13 (k_X1_grow hI.1 hI.2.2.2.1 a0 h0 (fun hs => pw13_2 (hI.geo.2.1 a0.toNat (by have := hs.1; have := hs.2.1; omega) hs.2.2).1)) (fun v u h => ⟨_, h.2.1⟩) (by (repeat' split) <;> simp)) (fun v u h => a_KD hI.1 (by rw [mst_i (by decide), mst_r (by decide), mst_r (by decide)]) h) (fun _ _ h => h)
theorem a_halve (hI : Inv np T) (a0 : Int) (h0 : -2147483648 ≤ a0 ∧ a0 < 2147483648) : KC l cs yL_halve (Cond.codeWith yL_halve cL_halve 3 (some .int) [(0, 5, 6, 14), (0, 5, 10, 19)] :: GW) 8 8 48 [.ref (ad 0), .int (zI a0)] np ad T (aPR (cHv T a0) np ad T) (fun _ _ => False) :=
  KC.mono (k_L_halve hI.n13 (k_X1_halve hI.1 hI.2.1 a0 h0 (fun hs => by
    have h1 := (hI.geo.2.1 a0.toNat (by have := hs.1; have := hs.2.1; omega) hs.2.2).1
    unfold pw13 at h1; omega)) (fun v u h => ⟨_, h.2.1⟩) (by (repeat' split) <;> simp)) (fun v u h => a_KD hI.1 (by rw [mst_i (by decide), mst_r (by decide)]) h) (fun _ _ h => h)
theorem a_setOwner (hI : Inv np T) (a0 a1 : Int) (h0 : -2147483648 ≤ a0 ∧ a0 < 2147483648) (h1 : -2147483648 ≤ a1 ∧ a1 < 2147483648) : KC l cs yL_setOwner (Cond.codeWith yL_setOwner cL_setOwner 4 (some .int) [(0, 6, 7, 14), (0, 6, 11, 17)] :: GW) 8 8 48 [.ref (ad 0), .int (zI a0), .int (zI a1)] np ad T (aPR (cSo T a0 a1) np ad T) (fun _ _ => False) :=
  KC.mono (k_L_setOwner hI.n13 (k_X1_setOwner hI.1 a0 a1 h0 h1) (fun v u h => ⟨_, h.2.1⟩) (by (repeat' split) <;> simp)) (fun v u h => a_KD hI.1 (by rw [mst_r (by decide)]) h) (fun _ _ h => h)
theorem a_lend (hI : Inv np T) (a0 a1 : Int) (h0 : -2147483648 ≤ a0 ∧ a0 < 2147483648) (h1 : -2147483648 ≤ a1 ∧ a1 < 2147483648) : KC l cs yL_lend (Cond.codeWith yL_lend cL_lend 4 (some .int) [(0, 6, 7, 14), (0, 6, 11, 17), (0, 6, 15, 19)] :: GW) 8 8 48 [.ref (ad 0), .int (zI a0), .int (zI a1)] np ad T (aPR (cLe T a0 a1) np ad T) (fun _ _ => False) :=
  KC.mono (k_L_lend hI.n13 (k_X1_lend hI.1 hI.2.1 a0 a1 h0 h1) (fun v u h => ⟨_, h.2.1⟩) (by (repeat' split) <;> simp)) (fun v u h => a_KD hI.1 (by rw [mst_i (by decide), mst_r (by decide)]) h) (fun _ _ h => h)
theorem a_takeBack (hI : Inv np T) (a0 : Int) (h0 : -2147483648 ≤ a0 ∧ a0 < 2147483648) : KC l cs yL_takeBack (Cond.codeWith yL_takeBack cL_takeBack 3 (some .int) [(0, 5, 6, 14), (0, 5, 10, 19)] :: GW) 8 8 48 [.ref (ad 0), .int (zI a0)] np ad T (aPR (cTk T a0) np ad T) (fun _ _ => False) :=
  KC.mono (k_L_takeBack hI.n13 (k_X1_takeBack hI.n13 hI.2.1 a0 h0) (fun v u h => ⟨_, h.2.1⟩) (by (repeat' split) <;> simp)) (fun v u h => a_KD hI.1 (by rw [mst_i (by decide), mst_r (by decide)]) h) (fun _ _ h => h)
theorem a_pass (hI : Inv np T) (a0 : Int) (h0 : -2147483648 ≤ a0 ∧ a0 < 2147483648) : KC l cs yL_pass (Cond.codeWith yL_pass cL_pass 3 (some .int) [(0, 5, 6, 17), (0, 5, 10, 19)] :: GW) 8 8 48 [.ref (ad 0), .int (zI a0)] np ad T (aPR (cPs T a0) np ad T) (fun _ _ => False) :=
  KC.mono (k_L_pass hI.n13 (k_X1_pass hI.n13 hI.2.1 a0 h0) (fun v u h => ⟨_, h.2.1⟩) (by (repeat' split) <;> simp)) (fun v u h => a_KD hI.1 (by rw [mst_i (by decide), mst_i (by decide), pasT_r (Or.inl (by decide))]) h) (fun _ _ h => h)
end
