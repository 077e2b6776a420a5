/-! the law's helpers: what they answer, by what the class's method does -/
def hRt (ex : Nat) (PR' : Option Value → St3 → Prop) (w : Int) (np : Nat) (ad : Nat → Nat) (T : MT) (ps : Int) : Option Value → St3 → Prop := fun v u => (v = some (.int (zI 0)) ∧ ∃ u', PR' (some (.int (zI w))) u' ∧ u = (u'.1, u'.2.1, mst u'.2.2 12 0 w)) ∨ (ex ≠ 0 ∧ v = some (.int (zI ps)) ∧ u = (np, ad, T))
abbrev hWt (ad : Nat → Nat) (PR' : Option Value → St3 → Prop) (w : Int) : Prop := ∀ v u, PR' v u → v = some (.int (zI w)) ∧ 13 ≤ u.1 ∧ u.2.1 12 = ad 12 ∧ -2147483648 ≤ w ∧ w < 2147483648
theorem k_L_carve {l : Launch} {cs : CSt} {np : Nat} {ad : Nat → Nat} {T : MT} (h13 : 13 ≤ np) {ex : Nat} {PR' : Option Value → St3 → Prop} {w : Int} {a0 a1 a2 a3 : Int} (K : KC l cs yX1_carve (Cond.code yX1_carve cX1_carve 9 (some .int) :: GW) 7 8 48 [.ref (ad 0), .int (zI a0), .int (zI a1), .int (zI a2), .int (zI a3)] np ad T PR' (dEx ex (np, ad, T))) (hw : hWt ad PR' w) (hex : ex = 0 ∨ ex = 1 ∨ ex = 2 ∨ ex = 3) : KC l cs yL_carve (Cond.codeWith yL_carve cL_carve 7 (some .int) [(0, 14, 17, 13), (0, 14, 21, 15), (0, 14, 25, 17)] :: GW) 8 8 48 [.ref (ad 0), .int (zI a0), .int (zI a1), .int (zI a2), .int (zI a3), .ref (ad 12)] np ad T (hRt ex PR' w np ad T (if ex = 1 then 1 else if ex = 2 then 2 else if ex = 3 then 3 else 0)) (fun _ _ => False) := by
  refine KX_of (cc := cL_carve) (nL := 7) (rt := (some .int)) (by decide) (by simp [cat_int, cat_ref]) (by simp) ?_
  intro p e s m args below meth c A C hE hin
  refine g_eq (lv2 := [some (.ref (ad 0)), some (.int (zI a0)), some (.int (zI a1)), some (.int (zI a2)), some (.int (zI a3)), some (.ref (ad 12)), none]) rfl rfl rfl ?_
  refine g_aload_5 (pc := 0) C dL_carve_0 ?_
  refine g_iconst (pc := 2) C dL_carve_2 ?_
  refine g_aload_0 (pc := 3) C dL_carve_3 ?_
  refine g_iload_1 (pc := 4) C dL_carve_4 ?_
  refine g_iload_2 (pc := 5) C dL_carve_5 ?_
  refine g_iload_3 (pc := 6) C dL_carve_6 ?_
  refine g_iload_4 (pc := 7) C dL_carve_7 ?_
  refine g_call0 C (g_runV (pc := 9) C (ci := 1) (q := 0) (Cn := RX1) (TT := TX1) (N := 8) (As := [.int (zI a0), .int (zI a1), .int (zI a2), .int (zI a3)]) (rest := [.int (zI 0), .ref (ad 12)]) K cs_L_7.1 cs_L_7.2 ⟨Nat.le_of_ble_eq_true rfl, Nat.le_of_ble_eq_true rfl⟩ (by omega) rfl rfl (Nat.le_of_ble_eq_true rfl) ⟨Nat.le_of_ble_eq_true rfl, Nat.le_of_ble_eq_true rfl⟩ dL_carve_9) (fun E u h => ?_) (fun v u h => ?_)
  · obtain ⟨h1, rfl, rfl⟩ := h
    rcases hex with rfl | rfl | rfl | rfl
    · exact absurd rfl h1
    · refine g_catch C hE [] ⟨0, 14, 17, 13⟩ [⟨0, 14, 21, 15⟩, ⟨0, 14, 25, 17⟩] rfl (fun z hz => nomatch hz) (by decide) (by decide) cl_L_13 (by decide) (fun q => ?_)
      refine g_astore_6 (pc := 17) C dL_carve_17 ?_
      refine g_iconst (pc := 19) C dL_carve_19 ?_
      refine g_iret (pc := 20) C (Nat.le_of_ble_eq_true rfl) (Nat.le_of_ble_eq_true rfl) dL_carve_20 ?_
      exact Or.inr ⟨h1, rfl, rfl⟩
    · refine g_catch C hE [⟨0, 14, 17, 13⟩] ⟨0, 14, 21, 15⟩ [⟨0, 14, 25, 17⟩] rfl (fun z hz => by rw [List.mem_singleton.mp hz]; exact ⟨by decide, _, cl_L_13, by decide⟩) (by decide) (by decide) cl_L_15 (by decide) (fun q => ?_)
      refine g_astore_6 (pc := 21) C dL_carve_21 ?_
      refine g_iconst (pc := 23) C dL_carve_23 ?_
      refine g_iret (pc := 24) C (Nat.le_of_ble_eq_true rfl) (Nat.le_of_ble_eq_true rfl) dL_carve_24 ?_
      exact Or.inr ⟨h1, rfl, rfl⟩
    · refine g_catch C hE [⟨0, 14, 17, 13⟩, ⟨0, 14, 21, 15⟩] ⟨0, 14, 25, 17⟩ [] rfl (fun z hz => by rcases List.mem_cons.mp hz with h | h; (rw [h]; exact ⟨by decide, _, cl_L_13, by decide⟩); (rw [List.mem_singleton.mp h]; exact ⟨by decide, _, cl_L_15, by decide⟩)) (by decide) (by decide) cl_L_17 (by decide) (fun q => ?_)
      refine g_astore_6 (pc := 25) C dL_carve_25 ?_
      refine g_iconst (pc := 27) C dL_carve_27 ?_
      refine g_iret (pc := 28) C (Nat.le_of_ble_eq_true rfl) (Nat.le_of_ble_eq_true rfl) dL_carve_28 ?_
      exact Or.inr ⟨h1, rfl, rfl⟩
  · obtain ⟨rfl, q1, q2, q3⟩ := hw v u h
    obtain ⟨np', ad', U⟩ := u
    dsimp only at q1 q2
    refine g_eq (st2 := [.int (zI w), .int (zI 0), .ref (ad' 12)]) rfl rfl (by rw [q2]; rfl) ?_
    refine g_i2l (pc := 12) C dL_carve_12 (by omega) ?_
    refine g_last (pc := 13) C (by omega) dL_carve_13 ?_
    refine g_goto (pc := 14) (tgt := 29) C dL_carve_14 (by decide) ?_
    refine g_iconst (pc := 29) C dL_carve_29 ?_
    refine g_iret (pc := 30) C (Nat.le_of_ble_eq_true rfl) (Nat.le_of_ble_eq_true rfl) dL_carve_30 ?_
    exact Or.inl ⟨rfl, (np', ad', U), h, rfl⟩

theorem k_L_carveAt {l : Launch} {cs : CSt} {np : Nat} {ad : Nat → Nat} {T : MT} (h13 : 13 ≤ np) {ex : Nat} {PR' : Option Value → St3 → Prop} {w : Int} {a0 a1 a2 a3 : Int} (K : KC l cs yX1_carveAt (Cond.code yX1_carveAt cX1_carveAt 6 (some .int) :: GW) 7 8 48 [.ref (ad 0), .int (zI a0), .int (zI a1), .int (zI a2), .int (zI a3)] np ad T PR' (dEx ex (np, ad, T))) (hw : hWt ad PR' w) (hex : ex = 0 ∨ ex = 1 ∨ ex = 2 ∨ ex = 3) : KC l cs yL_carveAt (Cond.codeWith yL_carveAt cL_carveAt 7 (some .int) [(0, 14, 17, 13), (0, 14, 21, 15), (0, 14, 25, 17)] :: GW) 8 8 48 [.ref (ad 0), .int (zI a0), .int (zI a1), .int (zI a2), .int (zI a3), .ref (ad 12)] np ad T (hRt ex PR' w np ad T (if ex = 1 then 1 else if ex = 2 then 2 else if ex = 3 then 3 else 0)) (fun _ _ => False) := by
  refine KX_of (cc := cL_carveAt) (nL := 7) (rt := (some .int)) (by decide) (by simp [cat_int, cat_ref]) (by simp) ?_
  intro p e s m args below meth c A C hE hin
  refine g_eq (lv2 := [some (.ref (ad 0)), some (.int (zI a0)), some (.int (zI a1)), some (.int (zI a2)), some (.int (zI a3)), some (.ref (ad 12)), none]) rfl rfl rfl ?_
  refine g_aload_5 (pc := 0) C dL_carveAt_0 ?_
  refine g_iconst (pc := 2) C dL_carveAt_2 ?_
  refine g_aload_0 (pc := 3) C dL_carveAt_3 ?_
  refine g_iload_1 (pc := 4) C dL_carveAt_4 ?_
  refine g_iload_2 (pc := 5) C dL_carveAt_5 ?_
  refine g_iload_3 (pc := 6) C dL_carveAt_6 ?_
  refine g_iload_4 (pc := 7) C dL_carveAt_7 ?_
  refine g_call0 C (g_runV (pc := 9) C (ci := 1) (q := 0) (Cn := RX1) (TT := TX1) (N := 8) (As := [.int (zI a0), .int (zI a1), .int (zI a2), .int (zI a3)]) (rest := [.int (zI 0), .ref (ad 12)]) K cs_L_19.1 cs_L_19.2 ⟨Nat.le_of_ble_eq_true rfl, Nat.le_of_ble_eq_true rfl⟩ (by omega) rfl rfl (Nat.le_of_ble_eq_true rfl) ⟨Nat.le_of_ble_eq_true rfl, Nat.le_of_ble_eq_true rfl⟩ dL_carveAt_9) (fun E u h => ?_) (fun v u h => ?_)
  · obtain ⟨h1, rfl, rfl⟩ := h
    rcases hex with rfl | rfl | rfl | rfl
    · exact absurd rfl h1
    · refine g_catch C hE [] ⟨0, 14, 17, 13⟩ [⟨0, 14, 21, 15⟩, ⟨0, 14, 25, 17⟩] rfl (fun z hz => nomatch hz) (by decide) (by decide) cl_L_13 (by decide) (fun q => ?_)
      refine g_astore_6 (pc := 17) C dL_carveAt_17 ?_
      refine g_iconst (pc := 19) C dL_carveAt_19 ?_
      refine g_iret (pc := 20) C (Nat.le_of_ble_eq_true rfl) (Nat.le_of_ble_eq_true rfl) dL_carveAt_20 ?_
      exact Or.inr ⟨h1, rfl, rfl⟩
    · refine g_catch C hE [⟨0, 14, 17, 13⟩] ⟨0, 14, 21, 15⟩ [⟨0, 14, 25, 17⟩] rfl (fun z hz => by rw [List.mem_singleton.mp hz]; exact ⟨by decide, _, cl_L_13, by decide⟩) (by decide) (by decide) cl_L_15 (by decide) (fun q => ?_)
      refine g_astore_6 (pc := 21) C dL_carveAt_21 ?_
      refine g_iconst (pc := 23) C dL_carveAt_23 ?_
      refine g_iret (pc := 24) C (Nat.le_of_ble_eq_true rfl) (Nat.le_of_ble_eq_true rfl) dL_carveAt_24 ?_
      exact Or.inr ⟨h1, rfl, rfl⟩
    · refine g_catch C hE [⟨0, 14, 17, 13⟩, ⟨0, 14, 21, 15⟩] ⟨0, 14, 25, 17⟩ [] rfl (fun z hz => by rcases List.mem_cons.mp hz with h | h; (rw [h]; exact ⟨by decide, _, cl_L_13, by decide⟩); (rw [List.mem_singleton.mp h]; exact ⟨by decide, _, cl_L_15, by decide⟩)) (by decide) (by decide) cl_L_17 (by decide) (fun q => ?_)
      refine g_astore_6 (pc := 25) C dL_carveAt_25 ?_
      refine g_iconst (pc := 27) C dL_carveAt_27 ?_
      refine g_iret (pc := 28) C (Nat.le_of_ble_eq_true rfl) (Nat.le_of_ble_eq_true rfl) dL_carveAt_28 ?_
      exact Or.inr ⟨h1, rfl, rfl⟩
  · obtain ⟨rfl, q1, q2, q3⟩ := hw v u h
    obtain ⟨np', ad', U⟩ := u
    dsimp only at q1 q2
    refine g_eq (st2 := [.int (zI w), .int (zI 0), .ref (ad' 12)]) rfl rfl (by rw [q2]; rfl) ?_
    refine g_i2l (pc := 12) C dL_carveAt_12 (by omega) ?_
    refine g_last (pc := 13) C (by omega) dL_carveAt_13 ?_
    refine g_goto (pc := 14) (tgt := 29) C dL_carveAt_14 (by decide) ?_
    refine g_iconst (pc := 29) C dL_carveAt_29 ?_
    refine g_iret (pc := 30) C (Nat.le_of_ble_eq_true rfl) (Nat.le_of_ble_eq_true rfl) dL_carveAt_30 ?_
    exact Or.inl ⟨rfl, (np', ad', U), h, rfl⟩

theorem k_L_remove {l : Launch} {cs : CSt} {np : Nat} {ad : Nat → Nat} {T : MT} (h13 : 13 ≤ np) {ex : Nat} {PR' : Option Value → St3 → Prop} {w : Int} {a0 : Int} (K : KC l cs yX1_remove (Cond.code yX1_remove cX1_remove 3 (some .int) :: GW) 7 8 48 [.ref (ad 0), .int (zI a0)] np ad T PR' (dEx ex (np, ad, T))) (hw : hWt ad PR' w) (hex : ex = 0 ∨ ex = 1 ∨ ex = 3) : KC l cs yL_remove (Cond.codeWith yL_remove cL_remove 4 (some .int) [(0, 9, 12, 13), (0, 9, 15, 17)] :: GW) 8 8 48 [.ref (ad 0), .int (zI a0), .ref (ad 12)] np ad T (hRt ex PR' w np ad T (if ex = 1 then 1 else if ex = 3 then 2 else 0)) (fun _ _ => False) := by
  refine KX_of (cc := cL_remove) (nL := 4) (rt := (some .int)) (by decide) (by simp [cat_int, cat_ref]) (by simp) ?_
  intro p e s m args below meth c A C hE hin
  refine g_eq (lv2 := [some (.ref (ad 0)), some (.int (zI a0)), some (.ref (ad 12)), none]) rfl rfl rfl ?_
  refine g_aload_2 (pc := 0) C dL_remove_0 ?_
  refine g_iconst (pc := 1) C dL_remove_1 ?_
  refine g_aload_0 (pc := 2) C dL_remove_2 ?_
  refine g_iload_1 (pc := 3) C dL_remove_3 ?_
  refine g_call0 C (g_runV (pc := 4) C (ci := 1) (q := 0) (Cn := RX1) (TT := TX1) (N := 8) (As := [.int (zI a0)]) (rest := [.int (zI 0), .ref (ad 12)]) K cs_L_22.1 cs_L_22.2 ⟨Nat.le_of_ble_eq_true rfl, Nat.le_of_ble_eq_true rfl⟩ (by omega) rfl rfl (Nat.le_of_ble_eq_true rfl) ⟨Nat.le_of_ble_eq_true rfl, Nat.le_of_ble_eq_true rfl⟩ dL_remove_4) (fun E u h => ?_) (fun v u h => ?_)
  · obtain ⟨h1, rfl, rfl⟩ := h
    rcases hex with rfl | rfl | rfl
    · exact absurd rfl h1
    · refine g_catch C hE [] ⟨0, 9, 12, 13⟩ [⟨0, 9, 15, 17⟩] rfl (fun z hz => nomatch hz) (by decide) (by decide) cl_L_13 (by decide) (fun q => ?_)
      refine g_astore_3 (pc := 12) C dL_remove_12 ?_
      refine g_iconst (pc := 13) C dL_remove_13 ?_
      refine g_iret (pc := 14) C (Nat.le_of_ble_eq_true rfl) (Nat.le_of_ble_eq_true rfl) dL_remove_14 ?_
      exact Or.inr ⟨h1, rfl, rfl⟩
    · refine g_catch C hE [⟨0, 9, 12, 13⟩] ⟨0, 9, 15, 17⟩ [] rfl (fun z hz => by rw [List.mem_singleton.mp hz]; exact ⟨by decide, _, cl_L_13, by decide⟩) (by decide) (by decide) cl_L_17 (by decide) (fun q => ?_)
      refine g_astore_3 (pc := 15) C dL_remove_15 ?_
      refine g_iconst (pc := 16) C dL_remove_16 ?_
      refine g_iret (pc := 17) C (Nat.le_of_ble_eq_true rfl) (Nat.le_of_ble_eq_true rfl) dL_remove_17 ?_
      exact Or.inr ⟨h1, rfl, rfl⟩
  · obtain ⟨rfl, q1, q2, q3⟩ := hw v u h
    obtain ⟨np', ad', U⟩ := u
    dsimp only at q1 q2
    refine g_eq (st2 := [.int (zI w), .int (zI 0), .ref (ad' 12)]) rfl rfl (by rw [q2]; rfl) ?_
    refine g_i2l (pc := 7) C dL_remove_7 (by omega) ?_
    refine g_last (pc := 8) C (by omega) dL_remove_8 ?_
    refine g_goto (pc := 9) (tgt := 18) C dL_remove_9 (by decide) ?_
    refine g_iconst (pc := 18) C dL_remove_18 ?_
    refine g_iret (pc := 19) C (Nat.le_of_ble_eq_true rfl) (Nat.le_of_ble_eq_true rfl) dL_remove_19 ?_
    exact Or.inl ⟨rfl, (np', ad', U), h, rfl⟩

theorem k_L_grow {l : Launch} {cs : CSt} {np : Nat} {ad : Nat → Nat} {T : MT} (h13 : 13 ≤ np) {ex : Nat} {PR' : Option Value → St3 → Prop} {w : Int} {a0 : Int} (K : KC l cs yX1_grow (Cond.code yX1_grow cX1_grow 6 (some .int) :: GW) 7 8 48 [.ref (ad 0), .int (zI a0)] np ad T PR' (dEx ex (np, ad, T))) (hw : hWt ad PR' w) (hex : ex = 0 ∨ ex = 1 ∨ ex = 3) : KC l cs yL_grow (Cond.codeWith yL_grow cL_grow 4 (some .int) [(0, 9, 12, 13), (0, 9, 15, 17)] :: GW) 8 8 48 [.ref (ad 0), .int (zI a0), .ref (ad 12)] np ad T (hRt ex PR' w np ad T (if ex = 1 then 1 else if ex = 3 then 2 else 0)) (fun _ _ => False) := by
  refine KX_of (cc := cL_grow) (nL := 4) (rt := (some .int)) (by decide) (by simp [cat_int, cat_ref]) (by simp) ?_
  intro p e s m args below meth c A C hE hin
  refine g_eq (lv2 := [some (.ref (ad 0)), some (.int (zI a0)), some (.ref (ad 12)), none]) rfl rfl rfl ?_
  refine g_aload_2 (pc := 0) C dL_grow_0 ?_
  refine g_iconst (pc := 1) C dL_grow_1 ?_
  refine g_aload_0 (pc := 2) C dL_grow_2 ?_
  refine g_iload_1 (pc := 3) C dL_grow_3 ?_
  refine g_call0 C (g_runV (pc := 4) C (ci := 1) (q := 0) (Cn := RX1) (TT := TX1) (N := 8) (As := [.int (zI a0)]) (rest := [.int (zI 0), .ref (ad 12)]) K cs_L_26.1 cs_L_26.2 ⟨Nat.le_of_ble_eq_true rfl, Nat.le_of_ble_eq_true rfl⟩ (by omega) rfl rfl (Nat.le_of_ble_eq_true rfl) ⟨Nat.le_of_ble_eq_true rfl, Nat.le_of_ble_eq_true rfl⟩ dL_grow_4) (fun E u h => ?_) (fun v u h => ?_)
  · obtain ⟨h1, rfl, rfl⟩ := h
    rcases hex with rfl | rfl | rfl
    · exact absurd rfl h1
    · refine g_catch C hE [] ⟨0, 9, 12, 13⟩ [⟨0, 9, 15, 17⟩] rfl (fun z hz => nomatch hz) (by decide) (by decide) cl_L_13 (by decide) (fun q => ?_)
      refine g_astore_3 (pc := 12) C dL_grow_12 ?_
      refine g_iconst (pc := 13) C dL_grow_13 ?_
      refine g_iret (pc := 14) C (Nat.le_of_ble_eq_true rfl) (Nat.le_of_ble_eq_true rfl) dL_grow_14 ?_
      exact Or.inr ⟨h1, rfl, rfl⟩
    · refine g_catch C hE [⟨0, 9, 12, 13⟩] ⟨0, 9, 15, 17⟩ [] rfl (fun z hz => by rw [List.mem_singleton.mp hz]; exact ⟨by decide, _, cl_L_13, by decide⟩) (by decide) (by decide) cl_L_17 (by decide) (fun q => ?_)
      refine g_astore_3 (pc := 15) C dL_grow_15 ?_
      refine g_iconst (pc := 16) C dL_grow_16 ?_
      refine g_iret (pc := 17) C (Nat.le_of_ble_eq_true rfl) (Nat.le_of_ble_eq_true rfl) dL_grow_17 ?_
      exact Or.inr ⟨h1, rfl, rfl⟩
  · obtain ⟨rfl, q1, q2, q3⟩ := hw v u h
    obtain ⟨np', ad', U⟩ := u
    dsimp only at q1 q2
    refine g_eq (st2 := [.int (zI w), .int (zI 0), .ref (ad' 12)]) rfl rfl (by rw [q2]; rfl) ?_
    refine g_i2l (pc := 7) C dL_grow_7 (by omega) ?_
    refine g_last (pc := 8) C (by omega) dL_grow_8 ?_
    refine g_goto (pc := 9) (tgt := 18) C dL_grow_9 (by decide) ?_
    refine g_iconst (pc := 18) C dL_grow_18 ?_
    refine g_iret (pc := 19) C (Nat.le_of_ble_eq_true rfl) (Nat.le_of_ble_eq_true rfl) dL_grow_19 ?_
    exact Or.inl ⟨rfl, (np', ad', U), h, rfl⟩

theorem k_L_halve {l : Launch} {cs : CSt} {np : Nat} {ad : Nat → Nat} {T : MT} (h13 : 13 ≤ np) {ex : Nat} {PR' : Option Value → St3 → Prop} {w : Int} {a0 : Int} (K : KC l cs yX1_halve (Cond.code yX1_halve cX1_halve 5 (some .int) :: GW) 7 8 48 [.ref (ad 0), .int (zI a0)] np ad T PR' (dEx ex (np, ad, T))) (hw : hWt ad PR' w) (hex : ex = 0 ∨ ex = 1 ∨ ex = 3) : KC l cs yL_halve (Cond.codeWith yL_halve cL_halve 4 (some .int) [(0, 9, 12, 13), (0, 9, 15, 17)] :: GW) 8 8 48 [.ref (ad 0), .int (zI a0), .ref (ad 12)] np ad T (hRt ex PR' w np ad T (if ex = 1 then 1 else if ex = 3 then 2 else 0)) (fun _ _ => False) := by
  refine KX_of (cc := cL_halve) (nL := 4) (rt := (some .int)) (by decide) (by simp [cat_int, cat_ref]) (by simp) ?_
  intro p e s m args below meth c A C hE hin
  refine g_eq (lv2 := [some (.ref (ad 0)), some (.int (zI a0)), some (.ref (ad 12)), none]) rfl rfl rfl ?_
  refine g_aload_2 (pc := 0) C dL_halve_0 ?_
  refine g_iconst (pc := 1) C dL_halve_1 ?_
  refine g_aload_0 (pc := 2) C dL_halve_2 ?_
  refine g_iload_1 (pc := 3) C dL_halve_3 ?_
  refine g_call0 C (g_runV (pc := 4) C (ci := 1) (q := 0) (Cn := RX1) (TT := TX1) (N := 8) (As := [.int (zI a0)]) (rest := [.int (zI 0), .ref (ad 12)]) K cs_L_29.1 cs_L_29.2 ⟨Nat.le_of_ble_eq_true rfl, Nat.le_of_ble_eq_true rfl⟩ (by omega) rfl rfl (Nat.le_of_ble_eq_true rfl) ⟨Nat.le_of_ble_eq_true rfl, Nat.le_of_ble_eq_true rfl⟩ dL_halve_4) (fun E u h => ?_) (fun v u h => ?_)
  · obtain ⟨h1, rfl, rfl⟩ := h
    rcases hex with rfl | rfl | rfl
    · exact absurd rfl h1
    · refine g_catch C hE [] ⟨0, 9, 12, 13⟩ [⟨0, 9, 15, 17⟩] rfl (fun z hz => nomatch hz) (by decide) (by decide) cl_L_13 (by decide) (fun q => ?_)
      refine g_astore_3 (pc := 12) C dL_halve_12 ?_
      refine g_iconst (pc := 13) C dL_halve_13 ?_
      refine g_iret (pc := 14) C (Nat.le_of_ble_eq_true rfl) (Nat.le_of_ble_eq_true rfl) dL_halve_14 ?_
      exact Or.inr ⟨h1, rfl, rfl⟩
    · refine g_catch C hE [⟨0, 9, 12, 13⟩] ⟨0, 9, 15, 17⟩ [] rfl (fun z hz => by rw [List.mem_singleton.mp hz]; exact ⟨by decide, _, cl_L_13, by decide⟩) (by decide) (by decide) cl_L_17 (by decide) (fun q => ?_)
      refine g_astore_3 (pc := 15) C dL_halve_15 ?_
      refine g_iconst (pc := 16) C dL_halve_16 ?_
      refine g_iret (pc := 17) C (Nat.le_of_ble_eq_true rfl) (Nat.le_of_ble_eq_true rfl) dL_halve_17 ?_
      exact Or.inr ⟨h1, rfl, rfl⟩
  · obtain ⟨rfl, q1, q2, q3⟩ := hw v u h
    obtain ⟨np', ad', U⟩ := u
    dsimp only at q1 q2
    refine g_eq (st2 := [.int (zI w), .int (zI 0), .ref (ad' 12)]) rfl rfl (by rw [q2]; rfl) ?_
    refine g_i2l (pc := 7) C dL_halve_7 (by omega) ?_
    refine g_last (pc := 8) C (by omega) dL_halve_8 ?_
    refine g_goto (pc := 9) (tgt := 18) C dL_halve_9 (by decide) ?_
    refine g_iconst (pc := 18) C dL_halve_18 ?_
    refine g_iret (pc := 19) C (Nat.le_of_ble_eq_true rfl) (Nat.le_of_ble_eq_true rfl) dL_halve_19 ?_
    exact Or.inl ⟨rfl, (np', ad', U), h, rfl⟩

theorem k_L_setOwner {l : Launch} {cs : CSt} {np : Nat} {ad : Nat → Nat} {T : MT} (h13 : 13 ≤ np) {ex : Nat} {PR' : Option Value → St3 → Prop} {w : Int} {a0 a1 : Int} (K : KC l cs yX1_setOwner (Cond.code yX1_setOwner cX1_setOwner 5 (some .int) :: GW) 7 8 48 [.ref (ad 0), .int (zI a0), .int (zI a1)] np ad T PR' (dEx ex (np, ad, T))) (hw : hWt ad PR' w) (hex : ex = 0 ∨ ex = 1 ∨ ex = 2) : KC l cs yL_setOwner (Cond.codeWith yL_setOwner cL_setOwner 5 (some .int) [(0, 10, 13, 13), (0, 10, 17, 15)] :: GW) 8 8 48 [.ref (ad 0), .int (zI a0), .int (zI a1), .ref (ad 12)] np ad T (hRt ex PR' w np ad T (if ex = 1 then 1 else if ex = 2 then 2 else 0)) (fun _ _ => False) := by
  refine KX_of (cc := cL_setOwner) (nL := 5) (rt := (some .int)) (by decide) (by simp [cat_int, cat_ref]) (by simp) ?_
  intro p e s m args below meth c A C hE hin
  refine g_eq (lv2 := [some (.ref (ad 0)), some (.int (zI a0)), some (.int (zI a1)), some (.ref (ad 12)), none]) rfl rfl rfl ?_
  refine g_aload_3 (pc := 0) C dL_setOwner_0 ?_
  refine g_iconst (pc := 1) C dL_setOwner_1 ?_
  refine g_aload_0 (pc := 2) C dL_setOwner_2 ?_
  refine g_iload_1 (pc := 3) C dL_setOwner_3 ?_
  refine g_iload_2 (pc := 4) C dL_setOwner_4 ?_
  refine g_call0 C (g_runV (pc := 5) C (ci := 1) (q := 0) (Cn := RX1) (TT := TX1) (N := 8) (As := [.int (zI a0), .int (zI a1)]) (rest := [.int (zI 0), .ref (ad 12)]) K cs_L_32.1 cs_L_32.2 ⟨Nat.le_of_ble_eq_true rfl, Nat.le_of_ble_eq_true rfl⟩ (by omega) rfl rfl (Nat.le_of_ble_eq_true rfl) ⟨Nat.le_of_ble_eq_true rfl, Nat.le_of_ble_eq_true rfl⟩ dL_setOwner_5) (fun E u h => ?_) (fun v u h => ?_)
  · obtain ⟨h1, rfl, rfl⟩ := h
    rcases hex with rfl | rfl | rfl
    · exact absurd rfl h1
    · refine g_catch C hE [] ⟨0, 10, 13, 13⟩ [⟨0, 10, 17, 15⟩] rfl (fun z hz => nomatch hz) (by decide) (by decide) cl_L_13 (by decide) (fun q => ?_)
      refine g_astore_4 (pc := 13) C dL_setOwner_13 ?_
      refine g_iconst (pc := 15) C dL_setOwner_15 ?_
      refine g_iret (pc := 16) C (Nat.le_of_ble_eq_true rfl) (Nat.le_of_ble_eq_true rfl) dL_setOwner_16 ?_
      exact Or.inr ⟨h1, rfl, rfl⟩
    · refine g_catch C hE [⟨0, 10, 13, 13⟩] ⟨0, 10, 17, 15⟩ [] rfl (fun z hz => by rw [List.mem_singleton.mp hz]; exact ⟨by decide, _, cl_L_13, by decide⟩) (by decide) (by decide) cl_L_15 (by decide) (fun q => ?_)
      refine g_astore_4 (pc := 17) C dL_setOwner_17 ?_
      refine g_iconst (pc := 19) C dL_setOwner_19 ?_
      refine g_iret (pc := 20) C (Nat.le_of_ble_eq_true rfl) (Nat.le_of_ble_eq_true rfl) dL_setOwner_20 ?_
      exact Or.inr ⟨h1, rfl, rfl⟩
  · obtain ⟨rfl, q1, q2, q3⟩ := hw v u h
    obtain ⟨np', ad', U⟩ := u
    dsimp only at q1 q2
    refine g_eq (st2 := [.int (zI w), .int (zI 0), .ref (ad' 12)]) rfl rfl (by rw [q2]; rfl) ?_
    refine g_i2l (pc := 8) C dL_setOwner_8 (by omega) ?_
    refine g_last (pc := 9) C (by omega) dL_setOwner_9 ?_
    refine g_goto (pc := 10) (tgt := 21) C dL_setOwner_10 (by decide) ?_
    refine g_iconst (pc := 21) C dL_setOwner_21 ?_
    refine g_iret (pc := 22) C (Nat.le_of_ble_eq_true rfl) (Nat.le_of_ble_eq_true rfl) dL_setOwner_22 ?_
    exact Or.inl ⟨rfl, (np', ad', U), h, rfl⟩

theorem k_L_lend {l : Launch} {cs : CSt} {np : Nat} {ad : Nat → Nat} {T : MT} (h13 : 13 ≤ np) {ex : Nat} {PR' : Option Value → St3 → Prop} {w : Int} {a0 a1 : Int} (K : KC l cs yX1_lend (Cond.code yX1_lend cX1_lend 5 (some .int) :: GW) 7 8 48 [.ref (ad 0), .int (zI a0), .int (zI a1)] np ad T PR' (dEx ex (np, ad, T))) (hw : hWt ad PR' w) (hex : ex = 0 ∨ ex = 1 ∨ ex = 2 ∨ ex = 3) : KC l cs yL_lend (Cond.codeWith yL_lend cL_lend 5 (some .int) [(0, 10, 13, 13), (0, 10, 17, 15), (0, 10, 21, 17)] :: GW) 8 8 48 [.ref (ad 0), .int (zI a0), .int (zI a1), .ref (ad 12)] np ad T (hRt ex PR' w np ad T (if ex = 1 then 1 else if ex = 2 then 2 else if ex = 3 then 3 else 0)) (fun _ _ => False) := by
  refine KX_of (cc := cL_lend) (nL := 5) (rt := (some .int)) (by decide) (by simp [cat_int, cat_ref]) (by simp) ?_
  intro p e s m args below meth c A C hE hin
  refine g_eq (lv2 := [some (.ref (ad 0)), some (.int (zI a0)), some (.int (zI a1)), some (.ref (ad 12)), none]) rfl rfl rfl ?_
  refine g_aload_3 (pc := 0) C dL_lend_0 ?_
  refine g_iconst (pc := 1) C dL_lend_1 ?_
  refine g_aload_0 (pc := 2) C dL_lend_2 ?_
  refine g_iload_1 (pc := 3) C dL_lend_3 ?_
  refine g_iload_2 (pc := 4) C dL_lend_4 ?_
  refine g_call0 C (g_runV (pc := 5) C (ci := 1) (q := 0) (Cn := RX1) (TT := TX1) (N := 8) (As := [.int (zI a0), .int (zI a1)]) (rest := [.int (zI 0), .ref (ad 12)]) K cs_L_36.1 cs_L_36.2 ⟨Nat.le_of_ble_eq_true rfl, Nat.le_of_ble_eq_true rfl⟩ (by omega) rfl rfl (Nat.le_of_ble_eq_true rfl) ⟨Nat.le_of_ble_eq_true rfl, Nat.le_of_ble_eq_true rfl⟩ dL_lend_5) (fun E u h => ?_) (fun v u h => ?_)
  · obtain ⟨h1, rfl, rfl⟩ := h
    rcases hex with rfl | rfl | rfl | rfl
    · exact absurd rfl h1
    · refine g_catch C hE [] ⟨0, 10, 13, 13⟩ [⟨0, 10, 17, 15⟩, ⟨0, 10, 21, 17⟩] rfl (fun z hz => nomatch hz) (by decide) (by decide) cl_L_13 (by decide) (fun q => ?_)
      refine g_astore_4 (pc := 13) C dL_lend_13 ?_
      refine g_iconst (pc := 15) C dL_lend_15 ?_
      refine g_iret (pc := 16) C (Nat.le_of_ble_eq_true rfl) (Nat.le_of_ble_eq_true rfl) dL_lend_16 ?_
      exact Or.inr ⟨h1, rfl, rfl⟩
    · refine g_catch C hE [⟨0, 10, 13, 13⟩] ⟨0, 10, 17, 15⟩ [⟨0, 10, 21, 17⟩] rfl (fun z hz => by rw [List.mem_singleton.mp hz]; exact ⟨by decide, _, cl_L_13, by decide⟩) (by decide) (by decide) cl_L_15 (by decide) (fun q => ?_)
      refine g_astore_4 (pc := 17) C dL_lend_17 ?_
      refine g_iconst (pc := 19) C dL_lend_19 ?_
      refine g_iret (pc := 20) C (Nat.le_of_ble_eq_true rfl) (Nat.le_of_ble_eq_true rfl) dL_lend_20 ?_
      exact Or.inr ⟨h1, rfl, rfl⟩
    · refine g_catch C hE [⟨0, 10, 13, 13⟩, ⟨0, 10, 17, 15⟩] ⟨0, 10, 21, 17⟩ [] rfl (fun z hz => by rcases List.mem_cons.mp hz with h | h; (rw [h]; exact ⟨by decide, _, cl_L_13, by decide⟩); (rw [List.mem_singleton.mp h]; exact ⟨by decide, _, cl_L_15, by decide⟩)) (by decide) (by decide) cl_L_17 (by decide) (fun q => ?_)
      refine g_astore_4 (pc := 21) C dL_lend_21 ?_
      refine g_iconst (pc := 23) C dL_lend_23 ?_
      refine g_iret (pc := 24) C (Nat.le_of_ble_eq_true rfl) (Nat.le_of_ble_eq_true rfl) dL_lend_24 ?_
      exact Or.inr ⟨h1, rfl, rfl⟩
  · obtain ⟨rfl, q1, q2, q3⟩ := hw v u h
    obtain ⟨np', ad', U⟩ := u
    dsimp only at q1 q2
    refine g_eq (st2 := [.int (zI w), .int (zI 0), .ref (ad' 12)]) rfl rfl (by rw [q2]; rfl) ?_
    refine g_i2l (pc := 8) C dL_lend_8 (by omega) ?_
    refine g_last (pc := 9) C (by omega) dL_lend_9 ?_
    refine g_goto (pc := 10) (tgt := 25) C dL_lend_10 (by decide) ?_
    refine g_iconst (pc := 25) C dL_lend_25 ?_
    refine g_iret (pc := 26) C (Nat.le_of_ble_eq_true rfl) (Nat.le_of_ble_eq_true rfl) dL_lend_26 ?_
    exact Or.inl ⟨rfl, (np', ad', U), h, rfl⟩

theorem k_L_takeBack {l : Launch} {cs : CSt} {np : Nat} {ad : Nat → Nat} {T : MT} (h13 : 13 ≤ np) {ex : Nat} {PR' : Option Value → St3 → Prop} {w : Int} {a0 : Int} (K : KC l cs yX1_takeBack (Cond.code yX1_takeBack cX1_takeBack 3 (some .int) :: GW) 7 8 48 [.ref (ad 0), .int (zI a0)] np ad T PR' (dEx ex (np, ad, T))) (hw : hWt ad PR' w) (hex : ex = 0 ∨ ex = 1 ∨ ex = 3) : KC l cs yL_takeBack (Cond.codeWith yL_takeBack cL_takeBack 4 (some .int) [(0, 9, 12, 13), (0, 9, 15, 17)] :: GW) 8 8 48 [.ref (ad 0), .int (zI a0), .ref (ad 12)] np ad T (hRt ex PR' w np ad T (if ex = 1 then 1 else if ex = 3 then 2 else 0)) (fun _ _ => False) := by
  refine KX_of (cc := cL_takeBack) (nL := 4) (rt := (some .int)) (by decide) (by simp [cat_int, cat_ref]) (by simp) ?_
  intro p e s m args below meth c A C hE hin
  refine g_eq (lv2 := [some (.ref (ad 0)), some (.int (zI a0)), some (.ref (ad 12)), none]) rfl rfl rfl ?_
  refine g_aload_2 (pc := 0) C dL_takeBack_0 ?_
  refine g_iconst (pc := 1) C dL_takeBack_1 ?_
  refine g_aload_0 (pc := 2) C dL_takeBack_2 ?_
  refine g_iload_1 (pc := 3) C dL_takeBack_3 ?_
  refine g_call0 C (g_runV (pc := 4) C (ci := 1) (q := 0) (Cn := RX1) (TT := TX1) (N := 8) (As := [.int (zI a0)]) (rest := [.int (zI 0), .ref (ad 12)]) K cs_L_39.1 cs_L_39.2 ⟨Nat.le_of_ble_eq_true rfl, Nat.le_of_ble_eq_true rfl⟩ (by omega) rfl rfl (Nat.le_of_ble_eq_true rfl) ⟨Nat.le_of_ble_eq_true rfl, Nat.le_of_ble_eq_true rfl⟩ dL_takeBack_4) (fun E u h => ?_) (fun v u h => ?_)
  · obtain ⟨h1, rfl, rfl⟩ := h
    rcases hex with rfl | rfl | rfl
    · exact absurd rfl h1
    · refine g_catch C hE [] ⟨0, 9, 12, 13⟩ [⟨0, 9, 15, 17⟩] rfl (fun z hz => nomatch hz) (by decide) (by decide) cl_L_13 (by decide) (fun q => ?_)
      refine g_astore_3 (pc := 12) C dL_takeBack_12 ?_
      refine g_iconst (pc := 13) C dL_takeBack_13 ?_
      refine g_iret (pc := 14) C (Nat.le_of_ble_eq_true rfl) (Nat.le_of_ble_eq_true rfl) dL_takeBack_14 ?_
      exact Or.inr ⟨h1, rfl, rfl⟩
    · refine g_catch C hE [⟨0, 9, 12, 13⟩] ⟨0, 9, 15, 17⟩ [] rfl (fun z hz => by rw [List.mem_singleton.mp hz]; exact ⟨by decide, _, cl_L_13, by decide⟩) (by decide) (by decide) cl_L_17 (by decide) (fun q => ?_)
      refine g_astore_3 (pc := 15) C dL_takeBack_15 ?_
      refine g_iconst (pc := 16) C dL_takeBack_16 ?_
      refine g_iret (pc := 17) C (Nat.le_of_ble_eq_true rfl) (Nat.le_of_ble_eq_true rfl) dL_takeBack_17 ?_
      exact Or.inr ⟨h1, rfl, rfl⟩
  · obtain ⟨rfl, q1, q2, q3⟩ := hw v u h
    obtain ⟨np', ad', U⟩ := u
    dsimp only at q1 q2
    refine g_eq (st2 := [.int (zI w), .int (zI 0), .ref (ad' 12)]) rfl rfl (by rw [q2]; rfl) ?_
    refine g_i2l (pc := 7) C dL_takeBack_7 (by omega) ?_
    refine g_last (pc := 8) C (by omega) dL_takeBack_8 ?_
    refine g_goto (pc := 9) (tgt := 18) C dL_takeBack_9 (by decide) ?_
    refine g_iconst (pc := 18) C dL_takeBack_18 ?_
    refine g_iret (pc := 19) C (Nat.le_of_ble_eq_true rfl) (Nat.le_of_ble_eq_true rfl) dL_takeBack_19 ?_
    exact Or.inl ⟨rfl, (np', ad', U), h, rfl⟩

theorem k_L_pass {l : Launch} {cs : CSt} {np : Nat} {ad : Nat → Nat} {T : MT} (h13 : 13 ≤ np) {ex : Nat} {PR' : Option Value → St3 → Prop} {w : Int} {a0 : Int} (K : KC l cs yX1_pass (Cond.code yX1_pass cX1_pass 5 (some .int) :: GW) 7 8 48 [.ref (ad 0), .int (zI a0)] np ad T PR' (dEx ex (np, ad, T))) (hw : hWt ad PR' w) (hex : ex = 0 ∨ ex = 2 ∨ ex = 3) : KC l cs yL_pass (Cond.codeWith yL_pass cL_pass 4 (some .int) [(0, 9, 12, 15), (0, 9, 15, 17)] :: GW) 8 8 48 [.ref (ad 0), .int (zI a0), .ref (ad 12)] np ad T (hRt ex PR' w np ad T (if ex = 2 then 1 else if ex = 3 then 2 else 0)) (fun _ _ => False) := by
  refine KX_of (cc := cL_pass) (nL := 4) (rt := (some .int)) (by decide) (by simp [cat_int, cat_ref]) (by simp) ?_
  intro p e s m args below meth c A C hE hin
  refine g_eq (lv2 := [some (.ref (ad 0)), some (.int (zI a0)), some (.ref (ad 12)), none]) rfl rfl rfl ?_
  refine g_aload_2 (pc := 0) C dL_pass_0 ?_
  refine g_iconst (pc := 1) C dL_pass_1 ?_
  refine g_aload_0 (pc := 2) C dL_pass_2 ?_
  refine g_iload_1 (pc := 3) C dL_pass_3 ?_
  refine g_call0 C (g_runV (pc := 4) C (ci := 1) (q := 0) (Cn := RX1) (TT := TX1) (N := 8) (As := [.int (zI a0)]) (rest := [.int (zI 0), .ref (ad 12)]) K cs_L_42.1 cs_L_42.2 ⟨Nat.le_of_ble_eq_true rfl, Nat.le_of_ble_eq_true rfl⟩ (by omega) rfl rfl (Nat.le_of_ble_eq_true rfl) ⟨Nat.le_of_ble_eq_true rfl, Nat.le_of_ble_eq_true rfl⟩ dL_pass_4) (fun E u h => ?_) (fun v u h => ?_)
  · obtain ⟨h1, rfl, rfl⟩ := h
    rcases hex with rfl | rfl | rfl
    · exact absurd rfl h1
    · refine g_catch C hE [] ⟨0, 9, 12, 15⟩ [⟨0, 9, 15, 17⟩] rfl (fun z hz => nomatch hz) (by decide) (by decide) cl_L_15 (by decide) (fun q => ?_)
      refine g_astore_3 (pc := 12) C dL_pass_12 ?_
      refine g_iconst (pc := 13) C dL_pass_13 ?_
      refine g_iret (pc := 14) C (Nat.le_of_ble_eq_true rfl) (Nat.le_of_ble_eq_true rfl) dL_pass_14 ?_
      exact Or.inr ⟨h1, rfl, rfl⟩
    · refine g_catch C hE [⟨0, 9, 12, 15⟩] ⟨0, 9, 15, 17⟩ [] rfl (fun z hz => by rw [List.mem_singleton.mp hz]; exact ⟨by decide, _, cl_L_15, by decide⟩) (by decide) (by decide) cl_L_17 (by decide) (fun q => ?_)
      refine g_astore_3 (pc := 15) C dL_pass_15 ?_
      refine g_iconst (pc := 16) C dL_pass_16 ?_
      refine g_iret (pc := 17) C (Nat.le_of_ble_eq_true rfl) (Nat.le_of_ble_eq_true rfl) dL_pass_17 ?_
      exact Or.inr ⟨h1, rfl, rfl⟩
  · obtain ⟨rfl, q1, q2, q3⟩ := hw v u h
    obtain ⟨np', ad', U⟩ := u
    dsimp only at q1 q2
    refine g_eq (st2 := [.int (zI w), .int (zI 0), .ref (ad' 12)]) rfl rfl (by rw [q2]; rfl) ?_
    refine g_i2l (pc := 7) C dL_pass_7 (by omega) ?_
    refine g_last (pc := 8) C (by omega) dL_pass_8 ?_
    refine g_goto (pc := 9) (tgt := 18) C dL_pass_9 (by decide) ?_
    refine g_iconst (pc := 18) C dL_pass_18 ?_
    refine g_iret (pc := 19) C (Nat.le_of_ble_eq_true rfl) (Nat.le_of_ble_eq_true rfl) dL_pass_19 ?_
    exact Or.inl ⟨rfl, (np', ad', U), h, rfl⟩

theorem k_L_base {l : Launch} {cs : CSt} {np : Nat} {ad : Nat → Nat} {T : MT} (h13 : 13 ≤ np) {ex : Nat} {PR' : Option Value → St3 → Prop} {w : Int} {a0 : Int} (K : KC l cs yX1_base (Cond.code yX1_base cX1_base 2 (some .int) :: GW) 7 8 48 [.ref (ad 0), .int (zI a0)] np ad T PR' (dEx ex (np, ad, T))) (hw : hWt ad PR' w) (hex : ex = 0 ∨ ex = 1) : KC l cs yL_base (Cond.codeWith yL_base cL_base 4 (some .int) [(0, 9, 12, 13)] :: GW) 8 8 48 [.ref (ad 0), .int (zI a0), .ref (ad 12)] np ad T (hRt ex PR' w np ad T (if ex = 1 then 1 else 0)) (fun _ _ => False) := by
  refine KX_of (cc := cL_base) (nL := 4) (rt := (some .int)) (by decide) (by simp [cat_int, cat_ref]) (by simp) ?_
  intro p e s m args below meth c A C hE hin
  refine g_eq (lv2 := [some (.ref (ad 0)), some (.int (zI a0)), some (.ref (ad 12)), none]) rfl rfl rfl ?_
  refine g_aload_2 (pc := 0) C dL_base_0 ?_
  refine g_iconst (pc := 1) C dL_base_1 ?_
  refine g_aload_0 (pc := 2) C dL_base_2 ?_
  refine g_iload_1 (pc := 3) C dL_base_3 ?_
  refine g_call0 C (g_runV (pc := 4) C (ci := 1) (q := 0) (Cn := RX1) (TT := TX1) (N := 8) (As := [.int (zI a0)]) (rest := [.int (zI 0), .ref (ad 12)]) K cs_L_45.1 cs_L_45.2 ⟨Nat.le_of_ble_eq_true rfl, Nat.le_of_ble_eq_true rfl⟩ (by omega) rfl rfl (Nat.le_of_ble_eq_true rfl) ⟨Nat.le_of_ble_eq_true rfl, Nat.le_of_ble_eq_true rfl⟩ dL_base_4) (fun E u h => ?_) (fun v u h => ?_)
  · obtain ⟨h1, rfl, rfl⟩ := h
    rcases hex with rfl | rfl
    · exact absurd rfl h1
    · refine g_catch C hE [] ⟨0, 9, 12, 13⟩ [] rfl (fun z hz => nomatch hz) (by decide) (by decide) cl_L_13 (by decide) (fun q => ?_)
      refine g_astore_3 (pc := 12) C dL_base_12 ?_
      refine g_iconst (pc := 13) C dL_base_13 ?_
      refine g_iret (pc := 14) C (Nat.le_of_ble_eq_true rfl) (Nat.le_of_ble_eq_true rfl) dL_base_14 ?_
      exact Or.inr ⟨h1, rfl, rfl⟩
  · obtain ⟨rfl, q1, q2, q3⟩ := hw v u h
    obtain ⟨np', ad', U⟩ := u
    dsimp only at q1 q2
    refine g_eq (st2 := [.int (zI w), .int (zI 0), .ref (ad' 12)]) rfl rfl (by rw [q2]; rfl) ?_
    refine g_i2l (pc := 7) C dL_base_7 (by omega) ?_
    refine g_last (pc := 8) C (by omega) dL_base_8 ?_
    refine g_goto (pc := 9) (tgt := 15) C dL_base_9 (by decide) ?_
    refine g_iconst (pc := 15) C dL_base_15 ?_
    refine g_iret (pc := 16) C (Nat.le_of_ble_eq_true rfl) (Nat.le_of_ble_eq_true rfl) dL_base_16 ?_
    exact Or.inl ⟨rfl, (np', ad', U), h, rfl⟩

theorem k_L_size {l : Launch} {cs : CSt} {np : Nat} {ad : Nat → Nat} {T : MT} (h13 : 13 ≤ np) {ex : Nat} {PR' : Option Value → St3 → Prop} {w : Int} {a0 : Int} (K : KC l cs yX1_size (Cond.code yX1_size cX1_size 2 (some .int) :: GW) 7 8 48 [.ref (ad 0), .int (zI a0)] np ad T PR' (dEx ex (np, ad, T))) (hw : hWt ad PR' w) (hex : ex = 0 ∨ ex = 1) : KC l cs yL_size (Cond.codeWith yL_size cL_size 4 (some .int) [(0, 9, 12, 13)] :: GW) 8 8 48 [.ref (ad 0), .int (zI a0), .ref (ad 12)] np ad T (hRt ex PR' w np ad T (if ex = 1 then 1 else 0)) (fun _ _ => False) := by
  refine KX_of (cc := cL_size) (nL := 4) (rt := (some .int)) (by decide) (by simp [cat_int, cat_ref]) (by simp) ?_
  intro p e s m args below meth c A C hE hin
  refine g_eq (lv2 := [some (.ref (ad 0)), some (.int (zI a0)), some (.ref (ad 12)), none]) rfl rfl rfl ?_
  refine g_aload_2 (pc := 0) C dL_size_0 ?_
  refine g_iconst (pc := 1) C dL_size_1 ?_
  refine g_aload_0 (pc := 2) C dL_size_2 ?_
  refine g_iload_1 (pc := 3) C dL_size_3 ?_
  refine g_call0 C (g_runV (pc := 4) C (ci := 1) (q := 0) (Cn := RX1) (TT := TX1) (N := 8) (As := [.int (zI a0)]) (rest := [.int (zI 0), .ref (ad 12)]) K cs_L_48.1 cs_L_48.2 ⟨Nat.le_of_ble_eq_true rfl, Nat.le_of_ble_eq_true rfl⟩ (by omega) rfl rfl (Nat.le_of_ble_eq_true rfl) ⟨Nat.le_of_ble_eq_true rfl, Nat.le_of_ble_eq_true rfl⟩ dL_size_4) (fun E u h => ?_) (fun v u h => ?_)
  · obtain ⟨h1, rfl, rfl⟩ := h
    rcases hex with rfl | rfl
    · exact absurd rfl h1
    · refine g_catch C hE [] ⟨0, 9, 12, 13⟩ [] rfl (fun z hz => nomatch hz) (by decide) (by decide) cl_L_13 (by decide) (fun q => ?_)
      refine g_astore_3 (pc := 12) C dL_size_12 ?_
      refine g_iconst (pc := 13) C dL_size_13 ?_
      refine g_iret (pc := 14) C (Nat.le_of_ble_eq_true rfl) (Nat.le_of_ble_eq_true rfl) dL_size_14 ?_
      exact Or.inr ⟨h1, rfl, rfl⟩
  · obtain ⟨rfl, q1, q2, q3⟩ := hw v u h
    obtain ⟨np', ad', U⟩ := u
    dsimp only at q1 q2
    refine g_eq (st2 := [.int (zI w), .int (zI 0), .ref (ad' 12)]) rfl rfl (by rw [q2]; rfl) ?_
    refine g_i2l (pc := 7) C dL_size_7 (by omega) ?_
    refine g_last (pc := 8) C (by omega) dL_size_8 ?_
    refine g_goto (pc := 9) (tgt := 15) C dL_size_9 (by decide) ?_
    refine g_iconst (pc := 15) C dL_size_15 ?_
    refine g_iret (pc := 16) C (Nat.le_of_ble_eq_true rfl) (Nat.le_of_ble_eq_true rfl) dL_size_16 ?_
    exact Or.inl ⟨rfl, (np', ad', U), h, rfl⟩

theorem k_L_parent {l : Launch} {cs : CSt} {np : Nat} {ad : Nat → Nat} {T : MT} (h13 : 13 ≤ np) {ex : Nat} {PR' : Option Value → St3 → Prop} {w : Int} {a0 : Int} (K : KC l cs yX1_parent (Cond.code yX1_parent cX1_parent 3 (some .int) :: GW) 7 8 48 [.ref (ad 0), .int (zI a0)] np ad T PR' (dEx ex (np, ad, T))) (hw : hWt ad PR' w) (hex : ex = 0 ∨ ex = 1) : KC l cs yL_parent (Cond.codeWith yL_parent cL_parent 4 (some .int) [(0, 9, 12, 13)] :: GW) 8 8 48 [.ref (ad 0), .int (zI a0), .ref (ad 12)] np ad T (hRt ex PR' w np ad T (if ex = 1 then 1 else 0)) (fun _ _ => False) := by
  refine KX_of (cc := cL_parent) (nL := 4) (rt := (some .int)) (by decide) (by simp [cat_int, cat_ref]) (by simp) ?_
  intro p e s m args below meth c A C hE hin
  refine g_eq (lv2 := [some (.ref (ad 0)), some (.int (zI a0)), some (.ref (ad 12)), none]) rfl rfl rfl ?_
  refine g_aload_2 (pc := 0) C dL_parent_0 ?_
  refine g_iconst (pc := 1) C dL_parent_1 ?_
  refine g_aload_0 (pc := 2) C dL_parent_2 ?_
  refine g_iload_1 (pc := 3) C dL_parent_3 ?_
  refine g_call0 C (g_runV (pc := 4) C (ci := 1) (q := 0) (Cn := RX1) (TT := TX1) (N := 8) (As := [.int (zI a0)]) (rest := [.int (zI 0), .ref (ad 12)]) K cs_L_51.1 cs_L_51.2 ⟨Nat.le_of_ble_eq_true rfl, Nat.le_of_ble_eq_true rfl⟩ (by omega) rfl rfl (Nat.le_of_ble_eq_true rfl) ⟨Nat.le_of_ble_eq_true rfl, Nat.le_of_ble_eq_true rfl⟩ dL_parent_4) (fun E u h => ?_) (fun v u h => ?_)
  · obtain ⟨h1, rfl, rfl⟩ := h
    rcases hex with rfl | rfl
    · exact absurd rfl h1
    · refine g_catch C hE [] ⟨0, 9, 12, 13⟩ [] rfl (fun z hz => nomatch hz) (by decide) (by decide) cl_L_13 (by decide) (fun q => ?_)
      refine g_astore_3 (pc := 12) C dL_parent_12 ?_
      refine g_iconst (pc := 13) C dL_parent_13 ?_
      refine g_iret (pc := 14) C (Nat.le_of_ble_eq_true rfl) (Nat.le_of_ble_eq_true rfl) dL_parent_14 ?_
      exact Or.inr ⟨h1, rfl, rfl⟩
  · obtain ⟨rfl, q1, q2, q3⟩ := hw v u h
    obtain ⟨np', ad', U⟩ := u
    dsimp only at q1 q2
    refine g_eq (st2 := [.int (zI w), .int (zI 0), .ref (ad' 12)]) rfl rfl (by rw [q2]; rfl) ?_
    refine g_i2l (pc := 7) C dL_parent_7 (by omega) ?_
    refine g_last (pc := 8) C (by omega) dL_parent_8 ?_
    refine g_goto (pc := 9) (tgt := 15) C dL_parent_9 (by decide) ?_
    refine g_iconst (pc := 15) C dL_parent_15 ?_
    refine g_iret (pc := 16) C (Nat.le_of_ble_eq_true rfl) (Nat.le_of_ble_eq_true rfl) dL_parent_16 ?_
    exact Or.inl ⟨rfl, (np', ad', U), h, rfl⟩

theorem k_L_free {l : Launch} {cs : CSt} {np : Nat} {ad : Nat → Nat} {T : MT} (h13 : 13 ≤ np) {ex : Nat} {PR' : Option Value → St3 → Prop} {w : Int} {a0 : Int} (K : KC l cs yX1_free (Cond.code yX1_free cX1_free 3 (some .int) :: GW) 7 8 48 [.ref (ad 0), .int (zI a0)] np ad T PR' (dEx ex (np, ad, T))) (hw : hWt ad PR' w) (hex : ex = 0 ∨ ex = 1) : KC l cs yL_free (Cond.codeWith yL_free cL_free 4 (some .int) [(0, 9, 12, 13)] :: GW) 8 8 48 [.ref (ad 0), .int (zI a0), .ref (ad 12)] np ad T (hRt ex PR' w np ad T (if ex = 1 then 1 else 0)) (fun _ _ => False) := by
  refine KX_of (cc := cL_free) (nL := 4) (rt := (some .int)) (by decide) (by simp [cat_int, cat_ref]) (by simp) ?_
  intro p e s m args below meth c A C hE hin
  refine g_eq (lv2 := [some (.ref (ad 0)), some (.int (zI a0)), some (.ref (ad 12)), none]) rfl rfl rfl ?_
  refine g_aload_2 (pc := 0) C dL_free_0 ?_
  refine g_iconst (pc := 1) C dL_free_1 ?_
  refine g_aload_0 (pc := 2) C dL_free_2 ?_
  refine g_iload_1 (pc := 3) C dL_free_3 ?_
  refine g_call0 C (g_runV (pc := 4) C (ci := 1) (q := 0) (Cn := RX1) (TT := TX1) (N := 8) (As := [.int (zI a0)]) (rest := [.int (zI 0), .ref (ad 12)]) K cs_L_54.1 cs_L_54.2 ⟨Nat.le_of_ble_eq_true rfl, Nat.le_of_ble_eq_true rfl⟩ (by omega) rfl rfl (Nat.le_of_ble_eq_true rfl) ⟨Nat.le_of_ble_eq_true rfl, Nat.le_of_ble_eq_true rfl⟩ dL_free_4) (fun E u h => ?_) (fun v u h => ?_)
  · obtain ⟨h1, rfl, rfl⟩ := h
    rcases hex with rfl | rfl
    · exact absurd rfl h1
    · refine g_catch C hE [] ⟨0, 9, 12, 13⟩ [] rfl (fun z hz => nomatch hz) (by decide) (by decide) cl_L_13 (by decide) (fun q => ?_)
      refine g_astore_3 (pc := 12) C dL_free_12 ?_
      refine g_iconst (pc := 13) C dL_free_13 ?_
      refine g_iret (pc := 14) C (Nat.le_of_ble_eq_true rfl) (Nat.le_of_ble_eq_true rfl) dL_free_14 ?_
      exact Or.inr ⟨h1, rfl, rfl⟩
  · obtain ⟨rfl, q1, q2, q3⟩ := hw v u h
    obtain ⟨np', ad', U⟩ := u
    dsimp only at q1 q2
    refine g_eq (st2 := [.int (zI w), .int (zI 0), .ref (ad' 12)]) rfl rfl (by rw [q2]; rfl) ?_
    refine g_i2l (pc := 7) C dL_free_7 (by omega) ?_
    refine g_last (pc := 8) C (by omega) dL_free_8 ?_
    refine g_goto (pc := 9) (tgt := 15) C dL_free_9 (by decide) ?_
    refine g_iconst (pc := 15) C dL_free_15 ?_
    refine g_iret (pc := 16) C (Nat.le_of_ble_eq_true rfl) (Nat.le_of_ble_eq_true rfl) dL_free_16 ?_
    exact Or.inl ⟨rfl, (np', ad', U), h, rfl⟩

theorem k_L_greatestFree {l : Launch} {cs : CSt} {np : Nat} {ad : Nat → Nat} {T : MT} (h13 : 13 ≤ np) {ex : Nat} {PR' : Option Value → St3 → Prop} {w : Int} {a0 : Int} (K : KC l cs yX1_greatestFree (Cond.code yX1_greatestFree cX1_greatestFree 5 (some .int) :: GW) 7 8 48 [.ref (ad 0), .int (zI a0)] np ad T PR' (dEx ex (np, ad, T))) (hw : hWt ad PR' w) (hex : ex = 0 ∨ ex = 1) : KC l cs yL_greatestFree (Cond.codeWith yL_greatestFree cL_greatestFree 4 (some .int) [(0, 9, 12, 13)] :: GW) 8 8 48 [.ref (ad 0), .int (zI a0), .ref (ad 12)] np ad T (hRt ex PR' w np ad T (if ex = 1 then 1 else 0)) (fun _ _ => False) := by
  refine KX_of (cc := cL_greatestFree) (nL := 4) (rt := (some .int)) (by decide) (by simp [cat_int, cat_ref]) (by simp) ?_
  intro p e s m args below meth c A C hE hin
  refine g_eq (lv2 := [some (.ref (ad 0)), some (.int (zI a0)), some (.ref (ad 12)), none]) rfl rfl rfl ?_
  refine g_aload_2 (pc := 0) C dL_greatestFree_0 ?_
  refine g_iconst (pc := 1) C dL_greatestFree_1 ?_
  refine g_aload_0 (pc := 2) C dL_greatestFree_2 ?_
  refine g_iload_1 (pc := 3) C dL_greatestFree_3 ?_
  refine g_call0 C (g_runV (pc := 4) C (ci := 1) (q := 0) (Cn := RX1) (TT := TX1) (N := 8) (As := [.int (zI a0)]) (rest := [.int (zI 0), .ref (ad 12)]) K cs_L_57.1 cs_L_57.2 ⟨Nat.le_of_ble_eq_true rfl, Nat.le_of_ble_eq_true rfl⟩ (by omega) rfl rfl (Nat.le_of_ble_eq_true rfl) ⟨Nat.le_of_ble_eq_true rfl, Nat.le_of_ble_eq_true rfl⟩ dL_greatestFree_4) (fun E u h => ?_) (fun v u h => ?_)
  · obtain ⟨h1, rfl, rfl⟩ := h
    rcases hex with rfl | rfl
    · exact absurd rfl h1
    · refine g_catch C hE [] ⟨0, 9, 12, 13⟩ [] rfl (fun z hz => nomatch hz) (by decide) (by decide) cl_L_13 (by decide) (fun q => ?_)
      refine g_astore_3 (pc := 12) C dL_greatestFree_12 ?_
      refine g_iconst (pc := 13) C dL_greatestFree_13 ?_
      refine g_iret (pc := 14) C (Nat.le_of_ble_eq_true rfl) (Nat.le_of_ble_eq_true rfl) dL_greatestFree_14 ?_
      exact Or.inr ⟨h1, rfl, rfl⟩
  · obtain ⟨rfl, q1, q2, q3⟩ := hw v u h
    obtain ⟨np', ad', U⟩ := u
    dsimp only at q1 q2
    refine g_eq (st2 := [.int (zI w), .int (zI 0), .ref (ad' 12)]) rfl rfl (by rw [q2]; rfl) ?_
    refine g_i2l (pc := 7) C dL_greatestFree_7 (by omega) ?_
    refine g_last (pc := 8) C (by omega) dL_greatestFree_8 ?_
    refine g_goto (pc := 9) (tgt := 15) C dL_greatestFree_9 (by decide) ?_
    refine g_iconst (pc := 15) C dL_greatestFree_15 ?_
    refine g_iret (pc := 16) C (Nat.le_of_ble_eq_true rfl) (Nat.le_of_ble_eq_true rfl) dL_greatestFree_16 ?_
    exact Or.inl ⟨rfl, (np', ad', U), h, rfl⟩

theorem k_L_inTheWay {l : Launch} {cs : CSt} {np : Nat} {ad : Nat → Nat} {T : MT} (h13 : 13 ≤ np) {ex : Nat} {PR' : Option Value → St3 → Prop} {w : Int} {a0 a1 : Int} (K : KC l cs yX1_inTheWay (Cond.code yX1_inTheWay cX1_inTheWay 8 (some .int) :: GW) 7 8 48 [.ref (ad 0), .int (zI a0), .int (zI a1)] np ad T PR' (dEx ex (np, ad, T))) (hw : hWt ad PR' w) (hex : ex = 0 ∨ ex = 1 ∨ ex = 2) : KC l cs yL_inTheWay (Cond.codeWith yL_inTheWay cL_inTheWay 5 (some .int) [(0, 10, 13, 13), (0, 10, 17, 15)] :: GW) 8 8 48 [.ref (ad 0), .int (zI a0), .int (zI a1), .ref (ad 12)] np ad T (hRt ex PR' w np ad T (if ex = 1 then 1 else if ex = 2 then 2 else 0)) (fun _ _ => False) := by
  refine KX_of (cc := cL_inTheWay) (nL := 5) (rt := (some .int)) (by decide) (by simp [cat_int, cat_ref]) (by simp) ?_
  intro p e s m args below meth c A C hE hin
  refine g_eq (lv2 := [some (.ref (ad 0)), some (.int (zI a0)), some (.int (zI a1)), some (.ref (ad 12)), none]) rfl rfl rfl ?_
  refine g_aload_3 (pc := 0) C dL_inTheWay_0 ?_
  refine g_iconst (pc := 1) C dL_inTheWay_1 ?_
  refine g_aload_0 (pc := 2) C dL_inTheWay_2 ?_
  refine g_iload_1 (pc := 3) C dL_inTheWay_3 ?_
  refine g_iload_2 (pc := 4) C dL_inTheWay_4 ?_
  refine g_call0 C (g_runV (pc := 5) C (ci := 1) (q := 0) (Cn := RX1) (TT := TX1) (N := 8) (As := [.int (zI a0), .int (zI a1)]) (rest := [.int (zI 0), .ref (ad 12)]) K cs_L_60.1 cs_L_60.2 ⟨Nat.le_of_ble_eq_true rfl, Nat.le_of_ble_eq_true rfl⟩ (by omega) rfl rfl (Nat.le_of_ble_eq_true rfl) ⟨Nat.le_of_ble_eq_true rfl, Nat.le_of_ble_eq_true rfl⟩ dL_inTheWay_5) (fun E u h => ?_) (fun v u h => ?_)
  · obtain ⟨h1, rfl, rfl⟩ := h
    rcases hex with rfl | rfl | rfl
    · exact absurd rfl h1
    · refine g_catch C hE [] ⟨0, 10, 13, 13⟩ [⟨0, 10, 17, 15⟩] rfl (fun z hz => nomatch hz) (by decide) (by decide) cl_L_13 (by decide) (fun q => ?_)
      refine g_astore_4 (pc := 13) C dL_inTheWay_13 ?_
      refine g_iconst (pc := 15) C dL_inTheWay_15 ?_
      refine g_iret (pc := 16) C (Nat.le_of_ble_eq_true rfl) (Nat.le_of_ble_eq_true rfl) dL_inTheWay_16 ?_
      exact Or.inr ⟨h1, rfl, rfl⟩
    · refine g_catch C hE [⟨0, 10, 13, 13⟩] ⟨0, 10, 17, 15⟩ [] rfl (fun z hz => by rw [List.mem_singleton.mp hz]; exact ⟨by decide, _, cl_L_13, by decide⟩) (by decide) (by decide) cl_L_15 (by decide) (fun q => ?_)
      refine g_astore_4 (pc := 17) C dL_inTheWay_17 ?_
      refine g_iconst (pc := 19) C dL_inTheWay_19 ?_
      refine g_iret (pc := 20) C (Nat.le_of_ble_eq_true rfl) (Nat.le_of_ble_eq_true rfl) dL_inTheWay_20 ?_
      exact Or.inr ⟨h1, rfl, rfl⟩
  · obtain ⟨rfl, q1, q2, q3⟩ := hw v u h
    obtain ⟨np', ad', U⟩ := u
    dsimp only at q1 q2
    refine g_eq (st2 := [.int (zI w), .int (zI 0), .ref (ad' 12)]) rfl rfl (by rw [q2]; rfl) ?_
    refine g_i2l (pc := 8) C dL_inTheWay_8 (by omega) ?_
    refine g_last (pc := 9) C (by omega) dL_inTheWay_9 ?_
    refine g_goto (pc := 10) (tgt := 21) C dL_inTheWay_10 (by decide) ?_
    refine g_iconst (pc := 21) C dL_inTheWay_21 ?_
    refine g_iret (pc := 22) C (Nat.le_of_ble_eq_true rfl) (Nat.le_of_ble_eq_true rfl) dL_inTheWay_22 ?_
    exact Or.inl ⟨rfl, (np', ad', U), h, rfl⟩

theorem k_L_isLent {l : Launch} {cs : CSt} {np : Nat} {ad : Nat → Nat} {T : MT} (h13 : 13 ≤ np) {ex : Nat} {PR' : Option Value → St3 → Prop} {w : Int} {a0 : Int} (K : KC l cs yX1_isLent (Cond.code yX1_isLent cX1_isLent 2 (some .boolean) :: GW) 7 8 48 [.ref (ad 0), .int (zI a0)] np ad T PR' (dEx ex (np, ad, T))) (hw : hWt ad PR' w) (hb : ∀ v u, PR' v u → w = 0 ∨ w = 1) (hex : ex = 0 ∨ ex = 1) : KC l cs yL_isLent (Cond.codeWith yL_isLent cL_isLent 4 (some .int) [(0, 16, 19, 13)] :: GW) 8 8 48 [.ref (ad 0), .int (zI a0), .ref (ad 12)] np ad T (hRt ex PR' w np ad T (if ex = 1 then 1 else 0)) (fun _ _ => False) := by
  refine KX_of (cc := cL_isLent) (nL := 4) (rt := (some .int)) (by decide) (by simp [cat_int, cat_ref]) (by simp) ?_
  intro p e s m args below meth c A C hE hin
  refine g_eq (lv2 := [some (.ref (ad 0)), some (.int (zI a0)), some (.ref (ad 12)), none]) rfl rfl rfl ?_
  refine g_aload_2 (pc := 0) C dL_isLent_0 ?_
  refine g_iconst (pc := 1) C dL_isLent_1 ?_
  refine g_aload_0 (pc := 2) C dL_isLent_2 ?_
  refine g_iload_1 (pc := 3) C dL_isLent_3 ?_
  refine g_call0 C (g_runV (pc := 4) C (ci := 1) (q := 0) (Cn := RX1) (TT := TX1) (N := 8) (As := [.int (zI a0)]) (rest := [.int (zI 0), .ref (ad 12)]) K cs_L_63.1 cs_L_63.2 ⟨Nat.le_of_ble_eq_true rfl, Nat.le_of_ble_eq_true rfl⟩ (by omega) rfl rfl (Nat.le_of_ble_eq_true rfl) ⟨Nat.le_of_ble_eq_true rfl, Nat.le_of_ble_eq_true rfl⟩ dL_isLent_4) (fun E u h => ?_) (fun v u h => ?_)
  · obtain ⟨h1, rfl, rfl⟩ := h
    rcases hex with rfl | rfl
    · exact absurd rfl h1
    · refine g_catch C hE [] ⟨0, 16, 19, 13⟩ [] rfl (fun z hz => nomatch hz) (by decide) (by decide) cl_L_13 (by decide) (fun q => ?_)
      refine g_astore_3 (pc := 19) C dL_isLent_19 ?_
      refine g_iconst (pc := 20) C dL_isLent_20 ?_
      refine g_iret (pc := 21) C (Nat.le_of_ble_eq_true rfl) (Nat.le_of_ble_eq_true rfl) dL_isLent_21 ?_
      exact Or.inr ⟨h1, rfl, rfl⟩
  · obtain ⟨rfl, q1, q2, q3⟩ := hw v u h
    obtain ⟨np', ad', U⟩ := u
    dsimp only at q1 q2
    refine g_eq (st2 := [.int (zI w), .int (zI 0), .ref (ad' 12)]) rfl rfl (by rw [q2]; rfl) ?_
    refine g_if_eq (pc := 7) (tgt := 14) C dL_isLent_7 (by decide) (by omega) (fun h7 => ?_) (fun h7 => ?_)
    · obtain rfl : w = 0 := by omega
      refine g_lconst (pc := 14) C dL_isLent_14 (z := Int64.ofInt 0) (by decide) ?_
      refine g_last (pc := 15) C (by omega) dL_isLent_15 ?_
      refine g_goto (pc := 16) (tgt := 22) C dL_isLent_16 (by decide) ?_
      refine g_iconst (pc := 22) C dL_isLent_22 ?_
      refine g_iret (pc := 23) C (Nat.le_of_ble_eq_true rfl) (Nat.le_of_ble_eq_true rfl) dL_isLent_23 ?_
      exact Or.inl ⟨rfl, (np', ad', U), h, rfl⟩
    · obtain rfl : w = 1 := by have := hb _ _ h; omega
      refine g_lconst (pc := 10) C dL_isLent_10 (z := Int64.ofInt 1) (by decide) ?_
      refine g_goto (pc := 11) (tgt := 15) C dL_isLent_11 (by decide) ?_
      refine g_last (pc := 15) C (by omega) dL_isLent_15 ?_
      refine g_goto (pc := 16) (tgt := 22) C dL_isLent_16 (by decide) ?_
      refine g_iconst (pc := 22) C dL_isLent_22 ?_
      refine g_iret (pc := 23) C (Nat.le_of_ble_eq_true rfl) (Nat.le_of_ble_eq_true rfl) dL_isLent_23 ?_
      exact Or.inl ⟨rfl, (np', ad', U), h, rfl⟩

theorem k_L_nearest {l : Launch} {cs : CSt} {np : Nat} {ad : Nat → Nat} {T : MT} (h13 : 13 ≤ np) {ex : Nat} {PR' : Option Value → St3 → Prop} {w : Int} {a0 : Int} (K : KC l cs yX1_nearest (Cond.code yX1_nearest cX1_nearest 5 (some .int) :: GW) 7 8 48 [.ref (ad 0), .int (zI a0)] np ad T PR' (dEx ex (np, ad, T))) (hw : hWt ad PR' w) (hex : ex = 0 ∨ ex = 1) : KC l cs yL_nearest (Cond.codeWith yL_nearest cL_nearest 4 (some .int) [(0, 9, 12, 13)] :: GW) 8 8 48 [.ref (ad 0), .int (zI a0), .ref (ad 12)] np ad T (hRt ex PR' w np ad T (if ex = 1 then 1 else 0)) (fun _ _ => False) := by
  refine KX_of (cc := cL_nearest) (nL := 4) (rt := (some .int)) (by decide) (by simp [cat_int, cat_ref]) (by simp) ?_
  intro p e s m args below meth c A C hE hin
  refine g_eq (lv2 := [some (.ref (ad 0)), some (.int (zI a0)), some (.ref (ad 12)), none]) rfl rfl rfl ?_
  refine g_aload_2 (pc := 0) C dL_nearest_0 ?_
  refine g_iconst (pc := 1) C dL_nearest_1 ?_
  refine g_aload_0 (pc := 2) C dL_nearest_2 ?_
  refine g_iload_1 (pc := 3) C dL_nearest_3 ?_
  refine g_call0 C (g_runV (pc := 4) C (ci := 1) (q := 0) (Cn := RX1) (TT := TX1) (N := 8) (As := [.int (zI a0)]) (rest := [.int (zI 0), .ref (ad 12)]) K cs_L_67.1 cs_L_67.2 ⟨Nat.le_of_ble_eq_true rfl, Nat.le_of_ble_eq_true rfl⟩ (by omega) rfl rfl (Nat.le_of_ble_eq_true rfl) ⟨Nat.le_of_ble_eq_true rfl, Nat.le_of_ble_eq_true rfl⟩ dL_nearest_4) (fun E u h => ?_) (fun v u h => ?_)
  · obtain ⟨h1, rfl, rfl⟩ := h
    rcases hex with rfl | rfl
    · exact absurd rfl h1
    · refine g_catch C hE [] ⟨0, 9, 12, 13⟩ [] rfl (fun z hz => nomatch hz) (by decide) (by decide) cl_L_13 (by decide) (fun q => ?_)
      refine g_astore_3 (pc := 12) C dL_nearest_12 ?_
      refine g_iconst (pc := 13) C dL_nearest_13 ?_
      refine g_iret (pc := 14) C (Nat.le_of_ble_eq_true rfl) (Nat.le_of_ble_eq_true rfl) dL_nearest_14 ?_
      exact Or.inr ⟨h1, rfl, rfl⟩
  · obtain ⟨rfl, q1, q2, q3⟩ := hw v u h
    obtain ⟨np', ad', U⟩ := u
    dsimp only at q1 q2
    refine g_eq (st2 := [.int (zI w), .int (zI 0), .ref (ad' 12)]) rfl rfl (by rw [q2]; rfl) ?_
    refine g_i2l (pc := 7) C dL_nearest_7 (by omega) ?_
    refine g_last (pc := 8) C (by omega) dL_nearest_8 ?_
    refine g_goto (pc := 9) (tgt := 15) C dL_nearest_9 (by decide) ?_
    refine g_iconst (pc := 15) C dL_nearest_15 ?_
    refine g_iret (pc := 16) C (Nat.le_of_ble_eq_true rfl) (Nat.le_of_ble_eq_true rfl) dL_nearest_16 ?_
    exact Or.inl ⟨rfl, (np', ad', U), h, rfl⟩

theorem k_L_nearestByRow {l : Launch} {cs : CSt} {np : Nat} {ad : Nat → Nat} {T : MT} (h13 : 13 ≤ np) {ex : Nat} {PR' : Option Value → St3 → Prop} {w : Int} {a0 : Int} (K : KC l cs yX1_nearestByRow (Cond.code yX1_nearestByRow cX1_nearestByRow 2 (some .int) :: GW) 7 8 48 [.ref (ad 0), .int (zI a0)] np ad T PR' (dEx ex (np, ad, T))) (hw : hWt ad PR' w) (hex : ex = 0 ∨ ex = 1) : KC l cs yL_nearestByRow (Cond.codeWith yL_nearestByRow cL_nearestByRow 4 (some .int) [(0, 9, 12, 13)] :: GW) 8 8 48 [.ref (ad 0), .int (zI a0), .ref (ad 12)] np ad T (hRt ex PR' w np ad T (if ex = 1 then 1 else 0)) (fun _ _ => False) := by
  refine KX_of (cc := cL_nearestByRow) (nL := 4) (rt := (some .int)) (by decide) (by simp [cat_int, cat_ref]) (by simp) ?_
  intro p e s m args below meth c A C hE hin
  refine g_eq (lv2 := [some (.ref (ad 0)), some (.int (zI a0)), some (.ref (ad 12)), none]) rfl rfl rfl ?_
  refine g_aload_2 (pc := 0) C dL_nearestByRow_0 ?_
  refine g_iconst (pc := 1) C dL_nearestByRow_1 ?_
  refine g_aload_0 (pc := 2) C dL_nearestByRow_2 ?_
  refine g_iload_1 (pc := 3) C dL_nearestByRow_3 ?_
  refine g_call0 C (g_runV (pc := 4) C (ci := 1) (q := 0) (Cn := RX1) (TT := TX1) (N := 8) (As := [.int (zI a0)]) (rest := [.int (zI 0), .ref (ad 12)]) K cs_L_70.1 cs_L_70.2 ⟨Nat.le_of_ble_eq_true rfl, Nat.le_of_ble_eq_true rfl⟩ (by omega) rfl rfl (Nat.le_of_ble_eq_true rfl) ⟨Nat.le_of_ble_eq_true rfl, Nat.le_of_ble_eq_true rfl⟩ dL_nearestByRow_4) (fun E u h => ?_) (fun v u h => ?_)
  · obtain ⟨h1, rfl, rfl⟩ := h
    rcases hex with rfl | rfl
    · exact absurd rfl h1
    · refine g_catch C hE [] ⟨0, 9, 12, 13⟩ [] rfl (fun z hz => nomatch hz) (by decide) (by decide) cl_L_13 (by decide) (fun q => ?_)
      refine g_astore_3 (pc := 12) C dL_nearestByRow_12 ?_
      refine g_iconst (pc := 13) C dL_nearestByRow_13 ?_
      refine g_iret (pc := 14) C (Nat.le_of_ble_eq_true rfl) (Nat.le_of_ble_eq_true rfl) dL_nearestByRow_14 ?_
      exact Or.inr ⟨h1, rfl, rfl⟩
  · obtain ⟨rfl, q1, q2, q3⟩ := hw v u h
    obtain ⟨np', ad', U⟩ := u
    dsimp only at q1 q2
    refine g_eq (st2 := [.int (zI w), .int (zI 0), .ref (ad' 12)]) rfl rfl (by rw [q2]; rfl) ?_
    refine g_i2l (pc := 7) C dL_nearestByRow_7 (by omega) ?_
    refine g_last (pc := 8) C (by omega) dL_nearestByRow_8 ?_
    refine g_goto (pc := 9) (tgt := 15) C dL_nearestByRow_9 (by decide) ?_
    refine g_iconst (pc := 15) C dL_nearestByRow_15 ?_
    refine g_iret (pc := 16) C (Nat.le_of_ble_eq_true rfl) (Nat.le_of_ble_eq_true rfl) dL_nearestByRow_16 ?_
    exact Or.inl ⟨rfl, (np', ad', U), h, rfl⟩

theorem k_L_owned {l : Launch} {cs : CSt} {np : Nat} {ad : Nat → Nat} {T : MT} (h13 : 13 ≤ np) {ex : Nat} {PR' : Option Value → St3 → Prop} {w : Int} {a0 : Int} (K : KC l cs yX1_owned (Cond.code yX1_owned cX1_owned 7 (some .int) :: GW) 7 8 48 [.ref (ad 0), .int (zI a0)] np ad T PR' (dEx ex (np, ad, T))) (hw : hWt ad PR' w) (hex : ex = 0 ∨ ex = 2) : KC l cs yL_owned (Cond.codeWith yL_owned cL_owned 4 (some .int) [(0, 9, 12, 15)] :: GW) 8 8 48 [.ref (ad 0), .int (zI a0), .ref (ad 12)] np ad T (hRt ex PR' w np ad T (if ex = 2 then 1 else 0)) (fun _ _ => False) := by
  refine KX_of (cc := cL_owned) (nL := 4) (rt := (some .int)) (by decide) (by simp [cat_int, cat_ref]) (by simp) ?_
  intro p e s m args below meth c A C hE hin
  refine g_eq (lv2 := [some (.ref (ad 0)), some (.int (zI a0)), some (.ref (ad 12)), none]) rfl rfl rfl ?_
  refine g_aload_2 (pc := 0) C dL_owned_0 ?_
  refine g_iconst (pc := 1) C dL_owned_1 ?_
  refine g_aload_0 (pc := 2) C dL_owned_2 ?_
  refine g_iload_1 (pc := 3) C dL_owned_3 ?_
  refine g_call0 C (g_runV (pc := 4) C (ci := 1) (q := 0) (Cn := RX1) (TT := TX1) (N := 8) (As := [.int (zI a0)]) (rest := [.int (zI 0), .ref (ad 12)]) K cs_L_73.1 cs_L_73.2 ⟨Nat.le_of_ble_eq_true rfl, Nat.le_of_ble_eq_true rfl⟩ (by omega) rfl rfl (Nat.le_of_ble_eq_true rfl) ⟨Nat.le_of_ble_eq_true rfl, Nat.le_of_ble_eq_true rfl⟩ dL_owned_4) (fun E u h => ?_) (fun v u h => ?_)
  · obtain ⟨h1, rfl, rfl⟩ := h
    rcases hex with rfl | rfl
    · exact absurd rfl h1
    · refine g_catch C hE [] ⟨0, 9, 12, 15⟩ [] rfl (fun z hz => nomatch hz) (by decide) (by decide) cl_L_15 (by decide) (fun q => ?_)
      refine g_astore_3 (pc := 12) C dL_owned_12 ?_
      refine g_iconst (pc := 13) C dL_owned_13 ?_
      refine g_iret (pc := 14) C (Nat.le_of_ble_eq_true rfl) (Nat.le_of_ble_eq_true rfl) dL_owned_14 ?_
      exact Or.inr ⟨h1, rfl, rfl⟩
  · obtain ⟨rfl, q1, q2, q3⟩ := hw v u h
    obtain ⟨np', ad', U⟩ := u
    dsimp only at q1 q2
    refine g_eq (st2 := [.int (zI w), .int (zI 0), .ref (ad' 12)]) rfl rfl (by rw [q2]; rfl) ?_
    refine g_i2l (pc := 7) C dL_owned_7 (by omega) ?_
    refine g_last (pc := 8) C (by omega) dL_owned_8 ?_
    refine g_goto (pc := 9) (tgt := 15) C dL_owned_9 (by decide) ?_
    refine g_iconst (pc := 15) C dL_owned_15 ?_
    refine g_iret (pc := 16) C (Nat.le_of_ble_eq_true rfl) (Nat.le_of_ble_eq_true rfl) dL_owned_16 ?_
    exact Or.inl ⟨rfl, (np', ad', U), h, rfl⟩

theorem k_L_blocks {l : Launch} {cs : CSt} {np : Nat} {ad : Nat → Nat} {T : MT} (h13 : 13 ≤ np) {ex : Nat} {PR' : Option Value → St3 → Prop} {w : Int} {a0 : Int} (K : KC l cs yX1_blocks (Cond.code yX1_blocks cX1_blocks 6 (some .int) :: GW) 7 8 48 [.ref (ad 0), .int (zI a0)] np ad T PR' (dEx ex (np, ad, T))) (hw : hWt ad PR' w) (hex : ex = 0 ∨ ex = 2) : KC l cs yL_blocks (Cond.codeWith yL_blocks cL_blocks 4 (some .int) [(0, 9, 12, 15)] :: GW) 8 8 48 [.ref (ad 0), .int (zI a0), .ref (ad 12)] np ad T (hRt ex PR' w np ad T (if ex = 2 then 1 else 0)) (fun _ _ => False) := by
  refine KX_of (cc := cL_blocks) (nL := 4) (rt := (some .int)) (by decide) (by simp [cat_int, cat_ref]) (by simp) ?_
  intro p e s m args below meth c A C hE hin
  refine g_eq (lv2 := [some (.ref (ad 0)), some (.int (zI a0)), some (.ref (ad 12)), none]) rfl rfl rfl ?_
  refine g_aload_2 (pc := 0) C dL_blocks_0 ?_
  refine g_iconst (pc := 1) C dL_blocks_1 ?_
  refine g_aload_0 (pc := 2) C dL_blocks_2 ?_
  refine g_iload_1 (pc := 3) C dL_blocks_3 ?_
  refine g_call0 C (g_runV (pc := 4) C (ci := 1) (q := 0) (Cn := RX1) (TT := TX1) (N := 8) (As := [.int (zI a0)]) (rest := [.int (zI 0), .ref (ad 12)]) K cs_L_76.1 cs_L_76.2 ⟨Nat.le_of_ble_eq_true rfl, Nat.le_of_ble_eq_true rfl⟩ (by omega) rfl rfl (Nat.le_of_ble_eq_true rfl) ⟨Nat.le_of_ble_eq_true rfl, Nat.le_of_ble_eq_true rfl⟩ dL_blocks_4) (fun E u h => ?_) (fun v u h => ?_)
  · obtain ⟨h1, rfl, rfl⟩ := h
    rcases hex with rfl | rfl
    · exact absurd rfl h1
    · refine g_catch C hE [] ⟨0, 9, 12, 15⟩ [] rfl (fun z hz => nomatch hz) (by decide) (by decide) cl_L_15 (by decide) (fun q => ?_)
      refine g_astore_3 (pc := 12) C dL_blocks_12 ?_
      refine g_iconst (pc := 13) C dL_blocks_13 ?_
      refine g_iret (pc := 14) C (Nat.le_of_ble_eq_true rfl) (Nat.le_of_ble_eq_true rfl) dL_blocks_14 ?_
      exact Or.inr ⟨h1, rfl, rfl⟩
  · obtain ⟨rfl, q1, q2, q3⟩ := hw v u h
    obtain ⟨np', ad', U⟩ := u
    dsimp only at q1 q2
    refine g_eq (st2 := [.int (zI w), .int (zI 0), .ref (ad' 12)]) rfl rfl (by rw [q2]; rfl) ?_
    refine g_i2l (pc := 7) C dL_blocks_7 (by omega) ?_
    refine g_last (pc := 8) C (by omega) dL_blocks_8 ?_
    refine g_goto (pc := 9) (tgt := 15) C dL_blocks_9 (by decide) ?_
    refine g_iconst (pc := 15) C dL_blocks_15 ?_
    refine g_iret (pc := 16) C (Nat.le_of_ble_eq_true rfl) (Nat.le_of_ble_eq_true rfl) dL_blocks_16 ?_
    exact Or.inl ⟨rfl, (np', ad', U), h, rfl⟩
