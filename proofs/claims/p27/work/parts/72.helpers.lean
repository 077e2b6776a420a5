/-! the law's helpers: what they answer, by what the class's method does -/
def hRt (ex : Nat) (PR' : Option Value → St3 → Prop) (np : Nat) (ad : Nat → Nat) (T : MT) : Option Value → St3 → Prop := fun v u => PR' v u ∨ (ex ≠ 0 ∧ v = some (.int (zI (-99999))) ∧ u = (np, ad, T))
theorem zI_th : (Value.int (-99999)) = .int (zI (-99999)) := by decide
theorem k_L_carve {l : Launch} {cs : CSt} {np : Nat} {ad : Nat → Nat} {T : MT} (h13 : 13 ≤ np) {ex : Nat} {PR' : Option Value → St3 → Prop} {a0 a1 a2 a3 : Int} (K : KC l cs yX1_carve (Cond.code yX1_carve cX1_carve 9 (some .int) :: GW) 7 8 48 [.ref (ad 0), .int (zI a0), .int (zI a1), .int (zI a2), .int (zI a3)] np ad T PR' (dEx ex (np, ad, T))) (hw : ∀ v u, PR' v u → ∃ w : Int, v = some (.int (zI w))) (hex : ex = 0 ∨ ex = 1 ∨ ex = 2 ∨ ex = 3) : KC l cs yL_carve (Cond.codeWith yL_carve cL_carve 6 (some .int) [(0, 9, 10, 14), (0, 9, 15, 17), (0, 9, 20, 19)] :: GW) 8 8 48 [.ref (ad 0), .int (zI a0), .int (zI a1), .int (zI a2), .int (zI a3)] np ad T (hRt ex PR' np ad T) (fun _ _ => False) := by
  refine KX_of (cc := cL_carve) (nL := 6) (rt := (some .int)) (by decide) (by simp [cat_int, cat_ref]) (by simp) ?_
  intro p e s m args below meth c A C hE hin
  refine g_eq (lv2 := [some (.ref (ad 0)), some (.int (zI a0)), some (.int (zI a1)), some (.int (zI a2)), some (.int (zI a3)), none]) rfl rfl rfl ?_
  refine g_aload_0 (pc := 0) C dL_carve_0 ?_
  refine g_iload_1 (pc := 1) C dL_carve_1 ?_
  refine g_iload_2 (pc := 2) C dL_carve_2 ?_
  refine g_iload_3 (pc := 3) C dL_carve_3 ?_
  refine g_iload_4 (pc := 4) C dL_carve_4 ?_
  refine g_call0 C (g_runV (pc := 6) C (ci := 1) (q := 0) (Cn := RX1) (TT := TX1) (N := 8) (As := [.int (zI a0), .int (zI a1), .int (zI a2), .int (zI a3)]) (rest := []) K cs_L_8.1 cs_L_8.2 ⟨Nat.le_of_ble_eq_true rfl, Nat.le_of_ble_eq_true rfl⟩ (by omega) rfl rfl (Nat.le_of_ble_eq_true rfl) ⟨Nat.le_of_ble_eq_true rfl, Nat.le_of_ble_eq_true rfl⟩ dL_carve_6) (fun E u h => ?_) (fun v u h => ?_)
  · obtain ⟨h1, rfl, rfl⟩ := h
    rcases hex with rfl | rfl | rfl | rfl
    · exact absurd rfl h1
    · refine g_catch C hE [] ⟨0, 9, 10, 14⟩ [⟨0, 9, 15, 17⟩, ⟨0, 9, 20, 19⟩] rfl (fun z hz => nomatch hz) (by decide) (by decide) cl_L_14 (by decide) (fun q => ?_)
      refine g_astore_5 (pc := 10) C dL_carve_10 ?_
      refine g_ldci (pc := 12) C dL_carve_12 ct_L_16 ?_
      refine g_iret (pc := 14) C (Nat.le_of_ble_eq_true rfl) (Nat.le_of_ble_eq_true rfl) dL_carve_14 ?_
      exact Or.inr ⟨h1, congrArg some zI_th, rfl⟩
    · refine g_catch C hE [⟨0, 9, 10, 14⟩] ⟨0, 9, 15, 17⟩ [⟨0, 9, 20, 19⟩] rfl (fun z hz => by rw [List.mem_singleton.mp hz]; exact ⟨by decide, _, cl_L_14, by decide⟩) (by decide) (by decide) cl_L_17 (by decide) (fun q => ?_)
      refine g_astore_5 (pc := 15) C dL_carve_15 ?_
      refine g_ldci (pc := 17) C dL_carve_17 ct_L_16 ?_
      refine g_iret (pc := 19) C (Nat.le_of_ble_eq_true rfl) (Nat.le_of_ble_eq_true rfl) dL_carve_19 ?_
      exact Or.inr ⟨h1, congrArg some zI_th, rfl⟩
    · refine g_catch C hE [⟨0, 9, 10, 14⟩, ⟨0, 9, 15, 17⟩] ⟨0, 9, 20, 19⟩ [] rfl (fun z hz => by rcases List.mem_cons.mp hz with h | h; (rw [h]; exact ⟨by decide, _, cl_L_14, by decide⟩); (rw [List.mem_singleton.mp h]; exact ⟨by decide, _, cl_L_17, by decide⟩)) (by decide) (by decide) cl_L_19 (by decide) (fun q => ?_)
      refine g_astore_5 (pc := 20) C dL_carve_20 ?_
      refine g_ldci (pc := 22) C dL_carve_22 ct_L_16 ?_
      refine g_iret (pc := 24) C (Nat.le_of_ble_eq_true rfl) (Nat.le_of_ble_eq_true rfl) dL_carve_24 ?_
      exact Or.inr ⟨h1, congrArg some zI_th, rfl⟩
  · obtain ⟨w, rfl⟩ := hw v u h
    obtain ⟨np', ad', U⟩ := u
    refine g_eq (st2 := [.int (zI w)]) rfl rfl rfl ?_
    refine g_iret (pc := 9) C (Nat.le_of_ble_eq_true rfl) (Nat.le_of_ble_eq_true rfl) dL_carve_9 ?_
    exact Or.inl h

theorem k_L_carveAt {l : Launch} {cs : CSt} {np : Nat} {ad : Nat → Nat} {T : MT} (h13 : 13 ≤ np) {ex : Nat} {PR' : Option Value → St3 → Prop} {a0 a1 a2 a3 : Int} (K : KC l cs yX1_carveAt (Cond.code yX1_carveAt cX1_carveAt 6 (some .int) :: GW) 7 8 48 [.ref (ad 0), .int (zI a0), .int (zI a1), .int (zI a2), .int (zI a3)] np ad T PR' (dEx ex (np, ad, T))) (hw : ∀ v u, PR' v u → ∃ w : Int, v = some (.int (zI w))) (hex : ex = 0 ∨ ex = 1 ∨ ex = 2 ∨ ex = 3) : KC l cs yL_carveAt (Cond.codeWith yL_carveAt cL_carveAt 6 (some .int) [(0, 9, 10, 14), (0, 9, 15, 17), (0, 9, 20, 19)] :: GW) 8 8 48 [.ref (ad 0), .int (zI a0), .int (zI a1), .int (zI a2), .int (zI a3)] np ad T (hRt ex PR' np ad T) (fun _ _ => False) := by
  refine KX_of (cc := cL_carveAt) (nL := 6) (rt := (some .int)) (by decide) (by simp [cat_int, cat_ref]) (by simp) ?_
  intro p e s m args below meth c A C hE hin
  refine g_eq (lv2 := [some (.ref (ad 0)), some (.int (zI a0)), some (.int (zI a1)), some (.int (zI a2)), some (.int (zI a3)), none]) rfl rfl rfl ?_
  refine g_aload_0 (pc := 0) C dL_carveAt_0 ?_
  refine g_iload_1 (pc := 1) C dL_carveAt_1 ?_
  refine g_iload_2 (pc := 2) C dL_carveAt_2 ?_
  refine g_iload_3 (pc := 3) C dL_carveAt_3 ?_
  refine g_iload_4 (pc := 4) C dL_carveAt_4 ?_
  refine g_call0 C (g_runV (pc := 6) C (ci := 1) (q := 0) (Cn := RX1) (TT := TX1) (N := 8) (As := [.int (zI a0), .int (zI a1), .int (zI a2), .int (zI a3)]) (rest := []) K cs_L_21.1 cs_L_21.2 ⟨Nat.le_of_ble_eq_true rfl, Nat.le_of_ble_eq_true rfl⟩ (by omega) rfl rfl (Nat.le_of_ble_eq_true rfl) ⟨Nat.le_of_ble_eq_true rfl, Nat.le_of_ble_eq_true rfl⟩ dL_carveAt_6) (fun E u h => ?_) (fun v u h => ?_)
  · obtain ⟨h1, rfl, rfl⟩ := h
    rcases hex with rfl | rfl | rfl | rfl
    · exact absurd rfl h1
    · refine g_catch C hE [] ⟨0, 9, 10, 14⟩ [⟨0, 9, 15, 17⟩, ⟨0, 9, 20, 19⟩] rfl (fun z hz => nomatch hz) (by decide) (by decide) cl_L_14 (by decide) (fun q => ?_)
      refine g_astore_5 (pc := 10) C dL_carveAt_10 ?_
      refine g_ldci (pc := 12) C dL_carveAt_12 ct_L_16 ?_
      refine g_iret (pc := 14) C (Nat.le_of_ble_eq_true rfl) (Nat.le_of_ble_eq_true rfl) dL_carveAt_14 ?_
      exact Or.inr ⟨h1, congrArg some zI_th, rfl⟩
    · refine g_catch C hE [⟨0, 9, 10, 14⟩] ⟨0, 9, 15, 17⟩ [⟨0, 9, 20, 19⟩] rfl (fun z hz => by rw [List.mem_singleton.mp hz]; exact ⟨by decide, _, cl_L_14, by decide⟩) (by decide) (by decide) cl_L_17 (by decide) (fun q => ?_)
      refine g_astore_5 (pc := 15) C dL_carveAt_15 ?_
      refine g_ldci (pc := 17) C dL_carveAt_17 ct_L_16 ?_
      refine g_iret (pc := 19) C (Nat.le_of_ble_eq_true rfl) (Nat.le_of_ble_eq_true rfl) dL_carveAt_19 ?_
      exact Or.inr ⟨h1, congrArg some zI_th, rfl⟩
    · refine g_catch C hE [⟨0, 9, 10, 14⟩, ⟨0, 9, 15, 17⟩] ⟨0, 9, 20, 19⟩ [] rfl (fun z hz => by rcases List.mem_cons.mp hz with h | h; (rw [h]; exact ⟨by decide, _, cl_L_14, by decide⟩); (rw [List.mem_singleton.mp h]; exact ⟨by decide, _, cl_L_17, by decide⟩)) (by decide) (by decide) cl_L_19 (by decide) (fun q => ?_)
      refine g_astore_5 (pc := 20) C dL_carveAt_20 ?_
      refine g_ldci (pc := 22) C dL_carveAt_22 ct_L_16 ?_
      refine g_iret (pc := 24) C (Nat.le_of_ble_eq_true rfl) (Nat.le_of_ble_eq_true rfl) dL_carveAt_24 ?_
      exact Or.inr ⟨h1, congrArg some zI_th, rfl⟩
  · obtain ⟨w, rfl⟩ := hw v u h
    obtain ⟨np', ad', U⟩ := u
    refine g_eq (st2 := [.int (zI w)]) rfl rfl rfl ?_
    refine g_iret (pc := 9) C (Nat.le_of_ble_eq_true rfl) (Nat.le_of_ble_eq_true rfl) dL_carveAt_9 ?_
    exact Or.inl h

theorem k_L_remove {l : Launch} {cs : CSt} {np : Nat} {ad : Nat → Nat} {T : MT} (h13 : 13 ≤ np) {ex : Nat} {PR' : Option Value → St3 → Prop} {a0 : Int} (K : KC l cs yX1_remove (Cond.code yX1_remove cX1_remove 3 (some .int) :: GW) 7 8 48 [.ref (ad 0), .int (zI a0)] np ad T PR' (dEx ex (np, ad, T))) (hw : ∀ v u, PR' v u → ∃ w : Int, v = some (.int (zI w))) (hex : ex = 0 ∨ ex = 1 ∨ ex = 3) : KC l cs yL_remove (Cond.codeWith yL_remove cL_remove 3 (some .int) [(0, 5, 6, 14), (0, 5, 10, 19)] :: GW) 8 8 48 [.ref (ad 0), .int (zI a0)] np ad T (hRt ex PR' np ad T) (fun _ _ => False) := by
  refine KX_of (cc := cL_remove) (nL := 3) (rt := (some .int)) (by decide) (by simp [cat_int, cat_ref]) (by simp) ?_
  intro p e s m args below meth c A C hE hin
  refine g_eq (lv2 := [some (.ref (ad 0)), some (.int (zI a0)), none]) rfl rfl rfl ?_
  refine g_aload_0 (pc := 0) C dL_remove_0 ?_
  refine g_iload_1 (pc := 1) C dL_remove_1 ?_
  refine g_call0 C (g_runV (pc := 2) C (ci := 1) (q := 0) (Cn := RX1) (TT := TX1) (N := 8) (As := [.int (zI a0)]) (rest := []) K cs_L_24.1 cs_L_24.2 ⟨Nat.le_of_ble_eq_true rfl, Nat.le_of_ble_eq_true rfl⟩ (by omega) rfl rfl (Nat.le_of_ble_eq_true rfl) ⟨Nat.le_of_ble_eq_true rfl, Nat.le_of_ble_eq_true rfl⟩ dL_remove_2) (fun E u h => ?_) (fun v u h => ?_)
  · obtain ⟨h1, rfl, rfl⟩ := h
    rcases hex with rfl | rfl | rfl
    · exact absurd rfl h1
    · refine g_catch C hE [] ⟨0, 5, 6, 14⟩ [⟨0, 5, 10, 19⟩] rfl (fun z hz => nomatch hz) (by decide) (by decide) cl_L_14 (by decide) (fun q => ?_)
      refine g_astore_2 (pc := 6) C dL_remove_6 ?_
      refine g_ldci (pc := 7) C dL_remove_7 ct_L_16 ?_
      refine g_iret (pc := 9) C (Nat.le_of_ble_eq_true rfl) (Nat.le_of_ble_eq_true rfl) dL_remove_9 ?_
      exact Or.inr ⟨h1, congrArg some zI_th, rfl⟩
    · refine g_catch C hE [⟨0, 5, 6, 14⟩] ⟨0, 5, 10, 19⟩ [] rfl (fun z hz => by rw [List.mem_singleton.mp hz]; exact ⟨by decide, _, cl_L_14, by decide⟩) (by decide) (by decide) cl_L_19 (by decide) (fun q => ?_)
      refine g_astore_2 (pc := 10) C dL_remove_10 ?_
      refine g_ldci (pc := 11) C dL_remove_11 ct_L_16 ?_
      refine g_iret (pc := 13) C (Nat.le_of_ble_eq_true rfl) (Nat.le_of_ble_eq_true rfl) dL_remove_13 ?_
      exact Or.inr ⟨h1, congrArg some zI_th, rfl⟩
  · obtain ⟨w, rfl⟩ := hw v u h
    obtain ⟨np', ad', U⟩ := u
    refine g_eq (st2 := [.int (zI w)]) rfl rfl rfl ?_
    refine g_iret (pc := 5) C (Nat.le_of_ble_eq_true rfl) (Nat.le_of_ble_eq_true rfl) dL_remove_5 ?_
    exact Or.inl h

theorem k_L_grow {l : Launch} {cs : CSt} {np : Nat} {ad : Nat → Nat} {T : MT} (h13 : 13 ≤ np) {ex : Nat} {PR' : Option Value → St3 → Prop} {a0 : Int} (K : KC l cs yX1_grow (Cond.code yX1_grow cX1_grow 6 (some .int) :: GW) 7 8 48 [.ref (ad 0), .int (zI a0)] np ad T PR' (dEx ex (np, ad, T))) (hw : ∀ v u, PR' v u → ∃ w : Int, v = some (.int (zI w))) (hex : ex = 0 ∨ ex = 1 ∨ ex = 3) : KC l cs yL_grow (Cond.codeWith yL_grow cL_grow 3 (some .int) [(0, 5, 6, 14), (0, 5, 10, 19)] :: GW) 8 8 48 [.ref (ad 0), .int (zI a0)] np ad T (hRt ex PR' np ad T) (fun _ _ => False) := by
  refine KX_of (cc := cL_grow) (nL := 3) (rt := (some .int)) (by decide) (by simp [cat_int, cat_ref]) (by simp) ?_
  intro p e s m args below meth c A C hE hin
  refine g_eq (lv2 := [some (.ref (ad 0)), some (.int (zI a0)), none]) rfl rfl rfl ?_
  refine g_aload_0 (pc := 0) C dL_grow_0 ?_
  refine g_iload_1 (pc := 1) C dL_grow_1 ?_
  refine g_call0 C (g_runV (pc := 2) C (ci := 1) (q := 0) (Cn := RX1) (TT := TX1) (N := 8) (As := [.int (zI a0)]) (rest := []) K cs_L_28.1 cs_L_28.2 ⟨Nat.le_of_ble_eq_true rfl, Nat.le_of_ble_eq_true rfl⟩ (by omega) rfl rfl (Nat.le_of_ble_eq_true rfl) ⟨Nat.le_of_ble_eq_true rfl, Nat.le_of_ble_eq_true rfl⟩ dL_grow_2) (fun E u h => ?_) (fun v u h => ?_)
  · obtain ⟨h1, rfl, rfl⟩ := h
    rcases hex with rfl | rfl | rfl
    · exact absurd rfl h1
    · refine g_catch C hE [] ⟨0, 5, 6, 14⟩ [⟨0, 5, 10, 19⟩] rfl (fun z hz => nomatch hz) (by decide) (by decide) cl_L_14 (by decide) (fun q => ?_)
      refine g_astore_2 (pc := 6) C dL_grow_6 ?_
      refine g_ldci (pc := 7) C dL_grow_7 ct_L_16 ?_
      refine g_iret (pc := 9) C (Nat.le_of_ble_eq_true rfl) (Nat.le_of_ble_eq_true rfl) dL_grow_9 ?_
      exact Or.inr ⟨h1, congrArg some zI_th, rfl⟩
    · refine g_catch C hE [⟨0, 5, 6, 14⟩] ⟨0, 5, 10, 19⟩ [] rfl (fun z hz => by rw [List.mem_singleton.mp hz]; exact ⟨by decide, _, cl_L_14, by decide⟩) (by decide) (by decide) cl_L_19 (by decide) (fun q => ?_)
      refine g_astore_2 (pc := 10) C dL_grow_10 ?_
      refine g_ldci (pc := 11) C dL_grow_11 ct_L_16 ?_
      refine g_iret (pc := 13) C (Nat.le_of_ble_eq_true rfl) (Nat.le_of_ble_eq_true rfl) dL_grow_13 ?_
      exact Or.inr ⟨h1, congrArg some zI_th, rfl⟩
  · obtain ⟨w, rfl⟩ := hw v u h
    obtain ⟨np', ad', U⟩ := u
    refine g_eq (st2 := [.int (zI w)]) rfl rfl rfl ?_
    refine g_iret (pc := 5) C (Nat.le_of_ble_eq_true rfl) (Nat.le_of_ble_eq_true rfl) dL_grow_5 ?_
    exact Or.inl h

theorem k_L_halve {l : Launch} {cs : CSt} {np : Nat} {ad : Nat → Nat} {T : MT} (h13 : 13 ≤ np) {ex : Nat} {PR' : Option Value → St3 → Prop} {a0 : Int} (K : KC l cs yX1_halve (Cond.code yX1_halve cX1_halve 5 (some .int) :: GW) 7 8 48 [.ref (ad 0), .int (zI a0)] np ad T PR' (dEx ex (np, ad, T))) (hw : ∀ v u, PR' v u → ∃ w : Int, v = some (.int (zI w))) (hex : ex = 0 ∨ ex = 1 ∨ ex = 3) : KC l cs yL_halve (Cond.codeWith yL_halve cL_halve 3 (some .int) [(0, 5, 6, 14), (0, 5, 10, 19)] :: GW) 8 8 48 [.ref (ad 0), .int (zI a0)] np ad T (hRt ex PR' np ad T) (fun _ _ => False) := by
  refine KX_of (cc := cL_halve) (nL := 3) (rt := (some .int)) (by decide) (by simp [cat_int, cat_ref]) (by simp) ?_
  intro p e s m args below meth c A C hE hin
  refine g_eq (lv2 := [some (.ref (ad 0)), some (.int (zI a0)), none]) rfl rfl rfl ?_
  refine g_aload_0 (pc := 0) C dL_halve_0 ?_
  refine g_iload_1 (pc := 1) C dL_halve_1 ?_
  refine g_call0 C (g_runV (pc := 2) C (ci := 1) (q := 0) (Cn := RX1) (TT := TX1) (N := 8) (As := [.int (zI a0)]) (rest := []) K cs_L_31.1 cs_L_31.2 ⟨Nat.le_of_ble_eq_true rfl, Nat.le_of_ble_eq_true rfl⟩ (by omega) rfl rfl (Nat.le_of_ble_eq_true rfl) ⟨Nat.le_of_ble_eq_true rfl, Nat.le_of_ble_eq_true rfl⟩ dL_halve_2) (fun E u h => ?_) (fun v u h => ?_)
  · obtain ⟨h1, rfl, rfl⟩ := h
    rcases hex with rfl | rfl | rfl
    · exact absurd rfl h1
    · refine g_catch C hE [] ⟨0, 5, 6, 14⟩ [⟨0, 5, 10, 19⟩] rfl (fun z hz => nomatch hz) (by decide) (by decide) cl_L_14 (by decide) (fun q => ?_)
      refine g_astore_2 (pc := 6) C dL_halve_6 ?_
      refine g_ldci (pc := 7) C dL_halve_7 ct_L_16 ?_
      refine g_iret (pc := 9) C (Nat.le_of_ble_eq_true rfl) (Nat.le_of_ble_eq_true rfl) dL_halve_9 ?_
      exact Or.inr ⟨h1, congrArg some zI_th, rfl⟩
    · refine g_catch C hE [⟨0, 5, 6, 14⟩] ⟨0, 5, 10, 19⟩ [] rfl (fun z hz => by rw [List.mem_singleton.mp hz]; exact ⟨by decide, _, cl_L_14, by decide⟩) (by decide) (by decide) cl_L_19 (by decide) (fun q => ?_)
      refine g_astore_2 (pc := 10) C dL_halve_10 ?_
      refine g_ldci (pc := 11) C dL_halve_11 ct_L_16 ?_
      refine g_iret (pc := 13) C (Nat.le_of_ble_eq_true rfl) (Nat.le_of_ble_eq_true rfl) dL_halve_13 ?_
      exact Or.inr ⟨h1, congrArg some zI_th, rfl⟩
  · obtain ⟨w, rfl⟩ := hw v u h
    obtain ⟨np', ad', U⟩ := u
    refine g_eq (st2 := [.int (zI w)]) rfl rfl rfl ?_
    refine g_iret (pc := 5) C (Nat.le_of_ble_eq_true rfl) (Nat.le_of_ble_eq_true rfl) dL_halve_5 ?_
    exact Or.inl h

theorem k_L_setOwner {l : Launch} {cs : CSt} {np : Nat} {ad : Nat → Nat} {T : MT} (h13 : 13 ≤ np) {ex : Nat} {PR' : Option Value → St3 → Prop} {a0 a1 : Int} (K : KC l cs yX1_setOwner (Cond.code yX1_setOwner cX1_setOwner 5 (some .int) :: GW) 7 8 48 [.ref (ad 0), .int (zI a0), .int (zI a1)] np ad T PR' (dEx ex (np, ad, T))) (hw : ∀ v u, PR' v u → ∃ w : Int, v = some (.int (zI w))) (hex : ex = 0 ∨ ex = 1 ∨ ex = 2) : KC l cs yL_setOwner (Cond.codeWith yL_setOwner cL_setOwner 4 (some .int) [(0, 6, 7, 14), (0, 6, 11, 17)] :: GW) 8 8 48 [.ref (ad 0), .int (zI a0), .int (zI a1)] np ad T (hRt ex PR' np ad T) (fun _ _ => False) := by
  refine KX_of (cc := cL_setOwner) (nL := 4) (rt := (some .int)) (by decide) (by simp [cat_int, cat_ref]) (by simp) ?_
  intro p e s m args below meth c A C hE hin
  refine g_eq (lv2 := [some (.ref (ad 0)), some (.int (zI a0)), some (.int (zI a1)), none]) rfl rfl rfl ?_
  refine g_aload_0 (pc := 0) C dL_setOwner_0 ?_
  refine g_iload_1 (pc := 1) C dL_setOwner_1 ?_
  refine g_iload_2 (pc := 2) C dL_setOwner_2 ?_
  refine g_call0 C (g_runV (pc := 3) C (ci := 1) (q := 0) (Cn := RX1) (TT := TX1) (N := 8) (As := [.int (zI a0), .int (zI a1)]) (rest := []) K cs_L_34.1 cs_L_34.2 ⟨Nat.le_of_ble_eq_true rfl, Nat.le_of_ble_eq_true rfl⟩ (by omega) rfl rfl (Nat.le_of_ble_eq_true rfl) ⟨Nat.le_of_ble_eq_true rfl, Nat.le_of_ble_eq_true rfl⟩ dL_setOwner_3) (fun E u h => ?_) (fun v u h => ?_)
  · obtain ⟨h1, rfl, rfl⟩ := h
    rcases hex with rfl | rfl | rfl
    · exact absurd rfl h1
    · refine g_catch C hE [] ⟨0, 6, 7, 14⟩ [⟨0, 6, 11, 17⟩] rfl (fun z hz => nomatch hz) (by decide) (by decide) cl_L_14 (by decide) (fun q => ?_)
      refine g_astore_3 (pc := 7) C dL_setOwner_7 ?_
      refine g_ldci (pc := 8) C dL_setOwner_8 ct_L_16 ?_
      refine g_iret (pc := 10) C (Nat.le_of_ble_eq_true rfl) (Nat.le_of_ble_eq_true rfl) dL_setOwner_10 ?_
      exact Or.inr ⟨h1, congrArg some zI_th, rfl⟩
    · refine g_catch C hE [⟨0, 6, 7, 14⟩] ⟨0, 6, 11, 17⟩ [] rfl (fun z hz => by rw [List.mem_singleton.mp hz]; exact ⟨by decide, _, cl_L_14, by decide⟩) (by decide) (by decide) cl_L_17 (by decide) (fun q => ?_)
      refine g_astore_3 (pc := 11) C dL_setOwner_11 ?_
      refine g_ldci (pc := 12) C dL_setOwner_12 ct_L_16 ?_
      refine g_iret (pc := 14) C (Nat.le_of_ble_eq_true rfl) (Nat.le_of_ble_eq_true rfl) dL_setOwner_14 ?_
      exact Or.inr ⟨h1, congrArg some zI_th, rfl⟩
  · obtain ⟨w, rfl⟩ := hw v u h
    obtain ⟨np', ad', U⟩ := u
    refine g_eq (st2 := [.int (zI w)]) rfl rfl rfl ?_
    refine g_iret (pc := 6) C (Nat.le_of_ble_eq_true rfl) (Nat.le_of_ble_eq_true rfl) dL_setOwner_6 ?_
    exact Or.inl h

theorem k_L_lend {l : Launch} {cs : CSt} {np : Nat} {ad : Nat → Nat} {T : MT} (h13 : 13 ≤ np) {ex : Nat} {PR' : Option Value → St3 → Prop} {a0 a1 : Int} (K : KC l cs yX1_lend (Cond.code yX1_lend cX1_lend 5 (some .int) :: GW) 7 8 48 [.ref (ad 0), .int (zI a0), .int (zI a1)] np ad T PR' (dEx ex (np, ad, T))) (hw : ∀ v u, PR' v u → ∃ w : Int, v = some (.int (zI w))) (hex : ex = 0 ∨ ex = 1 ∨ ex = 2 ∨ ex = 3) : KC l cs yL_lend (Cond.codeWith yL_lend cL_lend 4 (some .int) [(0, 6, 7, 14), (0, 6, 11, 17), (0, 6, 15, 19)] :: GW) 8 8 48 [.ref (ad 0), .int (zI a0), .int (zI a1)] np ad T (hRt ex PR' np ad T) (fun _ _ => False) := by
  refine KX_of (cc := cL_lend) (nL := 4) (rt := (some .int)) (by decide) (by simp [cat_int, cat_ref]) (by simp) ?_
  intro p e s m args below meth c A C hE hin
  refine g_eq (lv2 := [some (.ref (ad 0)), some (.int (zI a0)), some (.int (zI a1)), none]) rfl rfl rfl ?_
  refine g_aload_0 (pc := 0) C dL_lend_0 ?_
  refine g_iload_1 (pc := 1) C dL_lend_1 ?_
  refine g_iload_2 (pc := 2) C dL_lend_2 ?_
  refine g_call0 C (g_runV (pc := 3) C (ci := 1) (q := 0) (Cn := RX1) (TT := TX1) (N := 8) (As := [.int (zI a0), .int (zI a1)]) (rest := []) K cs_L_38.1 cs_L_38.2 ⟨Nat.le_of_ble_eq_true rfl, Nat.le_of_ble_eq_true rfl⟩ (by omega) rfl rfl (Nat.le_of_ble_eq_true rfl) ⟨Nat.le_of_ble_eq_true rfl, Nat.le_of_ble_eq_true rfl⟩ dL_lend_3) (fun E u h => ?_) (fun v u h => ?_)
  · obtain ⟨h1, rfl, rfl⟩ := h
    rcases hex with rfl | rfl | rfl | rfl
    · exact absurd rfl h1
    · refine g_catch C hE [] ⟨0, 6, 7, 14⟩ [⟨0, 6, 11, 17⟩, ⟨0, 6, 15, 19⟩] rfl (fun z hz => nomatch hz) (by decide) (by decide) cl_L_14 (by decide) (fun q => ?_)
      refine g_astore_3 (pc := 7) C dL_lend_7 ?_
      refine g_ldci (pc := 8) C dL_lend_8 ct_L_16 ?_
      refine g_iret (pc := 10) C (Nat.le_of_ble_eq_true rfl) (Nat.le_of_ble_eq_true rfl) dL_lend_10 ?_
      exact Or.inr ⟨h1, congrArg some zI_th, rfl⟩
    · refine g_catch C hE [⟨0, 6, 7, 14⟩] ⟨0, 6, 11, 17⟩ [⟨0, 6, 15, 19⟩] rfl (fun z hz => by rw [List.mem_singleton.mp hz]; exact ⟨by decide, _, cl_L_14, by decide⟩) (by decide) (by decide) cl_L_17 (by decide) (fun q => ?_)
      refine g_astore_3 (pc := 11) C dL_lend_11 ?_
      refine g_ldci (pc := 12) C dL_lend_12 ct_L_16 ?_
      refine g_iret (pc := 14) C (Nat.le_of_ble_eq_true rfl) (Nat.le_of_ble_eq_true rfl) dL_lend_14 ?_
      exact Or.inr ⟨h1, congrArg some zI_th, rfl⟩
    · refine g_catch C hE [⟨0, 6, 7, 14⟩, ⟨0, 6, 11, 17⟩] ⟨0, 6, 15, 19⟩ [] rfl (fun z hz => by rcases List.mem_cons.mp hz with h | h; (rw [h]; exact ⟨by decide, _, cl_L_14, by decide⟩); (rw [List.mem_singleton.mp h]; exact ⟨by decide, _, cl_L_17, by decide⟩)) (by decide) (by decide) cl_L_19 (by decide) (fun q => ?_)
      refine g_astore_3 (pc := 15) C dL_lend_15 ?_
      refine g_ldci (pc := 16) C dL_lend_16 ct_L_16 ?_
      refine g_iret (pc := 18) C (Nat.le_of_ble_eq_true rfl) (Nat.le_of_ble_eq_true rfl) dL_lend_18 ?_
      exact Or.inr ⟨h1, congrArg some zI_th, rfl⟩
  · obtain ⟨w, rfl⟩ := hw v u h
    obtain ⟨np', ad', U⟩ := u
    refine g_eq (st2 := [.int (zI w)]) rfl rfl rfl ?_
    refine g_iret (pc := 6) C (Nat.le_of_ble_eq_true rfl) (Nat.le_of_ble_eq_true rfl) dL_lend_6 ?_
    exact Or.inl h

theorem k_L_takeBack {l : Launch} {cs : CSt} {np : Nat} {ad : Nat → Nat} {T : MT} (h13 : 13 ≤ np) {ex : Nat} {PR' : Option Value → St3 → Prop} {a0 : Int} (K : KC l cs yX1_takeBack (Cond.code yX1_takeBack cX1_takeBack 3 (some .int) :: GW) 7 8 48 [.ref (ad 0), .int (zI a0)] np ad T PR' (dEx ex (np, ad, T))) (hw : ∀ v u, PR' v u → ∃ w : Int, v = some (.int (zI w))) (hex : ex = 0 ∨ ex = 1 ∨ ex = 3) : KC l cs yL_takeBack (Cond.codeWith yL_takeBack cL_takeBack 3 (some .int) [(0, 5, 6, 14), (0, 5, 10, 19)] :: GW) 8 8 48 [.ref (ad 0), .int (zI a0)] np ad T (hRt ex PR' np ad T) (fun _ _ => False) := by
  refine KX_of (cc := cL_takeBack) (nL := 3) (rt := (some .int)) (by decide) (by simp [cat_int, cat_ref]) (by simp) ?_
  intro p e s m args below meth c A C hE hin
  refine g_eq (lv2 := [some (.ref (ad 0)), some (.int (zI a0)), none]) rfl rfl rfl ?_
  refine g_aload_0 (pc := 0) C dL_takeBack_0 ?_
  refine g_iload_1 (pc := 1) C dL_takeBack_1 ?_
  refine g_call0 C (g_runV (pc := 2) C (ci := 1) (q := 0) (Cn := RX1) (TT := TX1) (N := 8) (As := [.int (zI a0)]) (rest := []) K cs_L_41.1 cs_L_41.2 ⟨Nat.le_of_ble_eq_true rfl, Nat.le_of_ble_eq_true rfl⟩ (by omega) rfl rfl (Nat.le_of_ble_eq_true rfl) ⟨Nat.le_of_ble_eq_true rfl, Nat.le_of_ble_eq_true rfl⟩ dL_takeBack_2) (fun E u h => ?_) (fun v u h => ?_)
  · obtain ⟨h1, rfl, rfl⟩ := h
    rcases hex with rfl | rfl | rfl
    · exact absurd rfl h1
    · refine g_catch C hE [] ⟨0, 5, 6, 14⟩ [⟨0, 5, 10, 19⟩] rfl (fun z hz => nomatch hz) (by decide) (by decide) cl_L_14 (by decide) (fun q => ?_)
      refine g_astore_2 (pc := 6) C dL_takeBack_6 ?_
      refine g_ldci (pc := 7) C dL_takeBack_7 ct_L_16 ?_
      refine g_iret (pc := 9) C (Nat.le_of_ble_eq_true rfl) (Nat.le_of_ble_eq_true rfl) dL_takeBack_9 ?_
      exact Or.inr ⟨h1, congrArg some zI_th, rfl⟩
    · refine g_catch C hE [⟨0, 5, 6, 14⟩] ⟨0, 5, 10, 19⟩ [] rfl (fun z hz => by rw [List.mem_singleton.mp hz]; exact ⟨by decide, _, cl_L_14, by decide⟩) (by decide) (by decide) cl_L_19 (by decide) (fun q => ?_)
      refine g_astore_2 (pc := 10) C dL_takeBack_10 ?_
      refine g_ldci (pc := 11) C dL_takeBack_11 ct_L_16 ?_
      refine g_iret (pc := 13) C (Nat.le_of_ble_eq_true rfl) (Nat.le_of_ble_eq_true rfl) dL_takeBack_13 ?_
      exact Or.inr ⟨h1, congrArg some zI_th, rfl⟩
  · obtain ⟨w, rfl⟩ := hw v u h
    obtain ⟨np', ad', U⟩ := u
    refine g_eq (st2 := [.int (zI w)]) rfl rfl rfl ?_
    refine g_iret (pc := 5) C (Nat.le_of_ble_eq_true rfl) (Nat.le_of_ble_eq_true rfl) dL_takeBack_5 ?_
    exact Or.inl h

theorem k_L_pass {l : Launch} {cs : CSt} {np : Nat} {ad : Nat → Nat} {T : MT} (h13 : 13 ≤ np) {ex : Nat} {PR' : Option Value → St3 → Prop} {a0 : Int} (K : KC l cs yX1_pass (Cond.code yX1_pass cX1_pass 5 (some .int) :: GW) 7 8 48 [.ref (ad 0), .int (zI a0)] np ad T PR' (dEx ex (np, ad, T))) (hw : ∀ v u, PR' v u → ∃ w : Int, v = some (.int (zI w))) (hex : ex = 0 ∨ ex = 2 ∨ ex = 3) : KC l cs yL_pass (Cond.codeWith yL_pass cL_pass 3 (some .int) [(0, 5, 6, 17), (0, 5, 10, 19)] :: GW) 8 8 48 [.ref (ad 0), .int (zI a0)] np ad T (hRt ex PR' np ad T) (fun _ _ => False) := by
  refine KX_of (cc := cL_pass) (nL := 3) (rt := (some .int)) (by decide) (by simp [cat_int, cat_ref]) (by simp) ?_
  intro p e s m args below meth c A C hE hin
  refine g_eq (lv2 := [some (.ref (ad 0)), some (.int (zI a0)), none]) rfl rfl rfl ?_
  refine g_aload_0 (pc := 0) C dL_pass_0 ?_
  refine g_iload_1 (pc := 1) C dL_pass_1 ?_
  refine g_call0 C (g_runV (pc := 2) C (ci := 1) (q := 0) (Cn := RX1) (TT := TX1) (N := 8) (As := [.int (zI a0)]) (rest := []) K cs_L_44.1 cs_L_44.2 ⟨Nat.le_of_ble_eq_true rfl, Nat.le_of_ble_eq_true rfl⟩ (by omega) rfl rfl (Nat.le_of_ble_eq_true rfl) ⟨Nat.le_of_ble_eq_true rfl, Nat.le_of_ble_eq_true rfl⟩ dL_pass_2) (fun E u h => ?_) (fun v u h => ?_)
  · obtain ⟨h1, rfl, rfl⟩ := h
    rcases hex with rfl | rfl | rfl
    · exact absurd rfl h1
    · refine g_catch C hE [] ⟨0, 5, 6, 17⟩ [⟨0, 5, 10, 19⟩] rfl (fun z hz => nomatch hz) (by decide) (by decide) cl_L_17 (by decide) (fun q => ?_)
      refine g_astore_2 (pc := 6) C dL_pass_6 ?_
      refine g_ldci (pc := 7) C dL_pass_7 ct_L_16 ?_
      refine g_iret (pc := 9) C (Nat.le_of_ble_eq_true rfl) (Nat.le_of_ble_eq_true rfl) dL_pass_9 ?_
      exact Or.inr ⟨h1, congrArg some zI_th, rfl⟩
    · refine g_catch C hE [⟨0, 5, 6, 17⟩] ⟨0, 5, 10, 19⟩ [] rfl (fun z hz => by rw [List.mem_singleton.mp hz]; exact ⟨by decide, _, cl_L_17, by decide⟩) (by decide) (by decide) cl_L_19 (by decide) (fun q => ?_)
      refine g_astore_2 (pc := 10) C dL_pass_10 ?_
      refine g_ldci (pc := 11) C dL_pass_11 ct_L_16 ?_
      refine g_iret (pc := 13) C (Nat.le_of_ble_eq_true rfl) (Nat.le_of_ble_eq_true rfl) dL_pass_13 ?_
      exact Or.inr ⟨h1, congrArg some zI_th, rfl⟩
  · obtain ⟨w, rfl⟩ := hw v u h
    obtain ⟨np', ad', U⟩ := u
    refine g_eq (st2 := [.int (zI w)]) rfl rfl rfl ?_
    refine g_iret (pc := 5) C (Nat.le_of_ble_eq_true rfl) (Nat.le_of_ble_eq_true rfl) dL_pass_5 ?_
    exact Or.inl h
