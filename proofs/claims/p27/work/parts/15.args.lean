/-! the class: what the calls ask of their arguments; children -/
theorem k_X1_findSpan {l : Launch} {cs : CSt} {np : Nat} {ad : Nat → Nat} {T : MT} (a : Int) (h13 : 13 ≤ np) (ha : -2147483648 ≤ a ∧ a < 2147483648) : KD l cs yX1_findSpan (Cond.code yX1_findSpan cX1_findSpan 2 (some (.object "PrefixYard$Span")) :: GW) 0 0 0 [.ref (ad 0), .int (zI a)] np ad T 0 (some (grf ad (fsp T a))) (np, ad, T) := by
  refine KC_of (cc := cX1_findSpan) (nL := 2) (rt := (some (.object "PrefixYard$Span"))) (by decide) (by simp [grf_cat, cat_int, cat_ref]) (by simp) ?_
  intro p e s m args below meth c A C hE hin
  refine g_eq (lv2 := [some (.ref (ad 0)), some (.int (zI a))]) rfl rfl rfl ?_
  refine g_iload_1 (pc := 0) C dX1_findSpan_0 ?_
  refine g_if_lt (pc := 1) (tgt := 13) C dX1_findSpan_1 (by decide) (by omega) (fun h1 => ?_) (fun h1 => ?_)
  · refine g_snull (pc := 13) C dX1_findSpan_13 ?_
    refine g_goto (pc := 14) (tgt := 23) C dX1_findSpan_14 (by decide) ?_
    refine g_aret (pc := 23) C grf_or (Nat.le_of_ble_eq_true rfl) (Nat.le_of_ble_eq_true rfl) dX1_findSpan_23 ?_
    exact ⟨rfl, by rw [fsp, if_neg (by omega)], rfl⟩
  · refine g_iload_1 (pc := 4) C dX1_findSpan_4 ?_
    refine g_aload_0 (pc := 5) C dX1_findSpan_5 ?_
    refine g_get_X1_18 (pc := 6) C (by omega) dX1_findSpan_6 ?_
    refine g_alen1 (pc := 9) C (by omega) dX1_findSpan_9 ?_
    refine g_icmp_lt (pc := 10) (tgt := 17) C dX1_findSpan_10 (by decide) (by omega) (by omega) (fun h10 => ?_) (fun h10 => ?_)
    · refine g_aload_0 (pc := 17) C dX1_findSpan_17 ?_
      refine g_get_X1_18 (pc := 18) C (by omega) dX1_findSpan_18 ?_
      refine g_iload_1 (pc := 21) C dX1_findSpan_21 ?_
      first | refine g_aaldn (pc := 22) C (by omega) (by omega) dX1_findSpan_22 ?_ | refine g_aald (pc := 22) C (by omega) (by omega) dX1_findSpan_22 ?_
      refine g_aret (pc := 23) C grf_or (Nat.le_of_ble_eq_true rfl) (Nat.le_of_ble_eq_true rfl) dX1_findSpan_23 ?_
      exact ⟨rfl, by rw [fsp, if_pos (by omega)], rfl⟩
    · refine g_snull (pc := 13) C dX1_findSpan_13 ?_
      refine g_goto (pc := 14) (tgt := 23) C dX1_findSpan_14 (by decide) ?_
      refine g_aret (pc := 23) C grf_or (Nat.le_of_ble_eq_true rfl) (Nat.le_of_ble_eq_true rfl) dX1_findSpan_23 ?_
      exact ⟨rfl, by rw [fsp, if_neg (by omega)], rfl⟩
theorem k_X1_spanOf {l : Launch} {cs : CSt} {np : Nat} {ad : Nat → Nat} {T : MT} (a : Int) (h13 : 13 ≤ np) (ha : -2147483648 ≤ a ∧ a < 2147483648) : KD l cs yX1_spanOf (Cond.code yX1_spanOf cX1_spanOf 3 (some (.object "PrefixYard$Span")) :: GW) 6 1 6 [.ref (ad 0), .int (zI a)] np ad T (exq (0 ≤ fsp T a) 1) (some (grf ad (fsp T a))) (np, ad, T) := by
  refine KC_of (cc := cX1_spanOf) (nL := 3) (rt := (some (.object "PrefixYard$Span"))) (by decide) (by simp [grf_cat, cat_int, cat_ref]) (by simp) ?_
  intro p e s m args below meth c A C hE hin
  refine g_eq (lv2 := [some (.ref (ad 0)), some (.int (zI a)), none]) rfl rfl rfl ?_
  refine g_aload_0 (pc := 0) C dX1_spanOf_0 ?_
  refine g_iload_1 (pc := 1) C dX1_spanOf_1 ?_
  refine g_cY1Pv (pc := 2) C cs_X1_151 (k_X1_findSpan a h13 ha) ⟨Nat.le_of_ble_eq_true rfl, Nat.le_of_ble_eq_true rfl⟩ (by omega) (Nat.le_of_ble_eq_true rfl) ⟨Nat.le_of_ble_eq_true rfl, Nat.le_of_ble_eq_true rfl⟩ dX1_spanOf_2 ?_
  refine g_sstore_2 (pc := 5) C dX1_spanOf_5 ?_
  refine g_sload_2 (pc := 6) C dX1_spanOf_6 ?_
  refine g_ifnonnull (pc := 7) (tgt := 20) C dX1_spanOf_7 (by decide) (fun h7 => ?_) (fun h7 => ?_)
  · refine g_sload_2 (pc := 20) C dX1_spanOf_20 ?_
    refine g_aret (pc := 21) C grf_or (Nat.le_of_ble_eq_true rfl) (Nat.le_of_ble_eq_true rfl) dX1_spanOf_21 ?_
    exact ⟨exq_t (by omega), rfl, rfl⟩
  · refine g_throw_1 (pc := 10) C hE (text := "no such span") (by decide) dX1_spanOf_10 dX1_spanOf_13 dX1_spanOf_14 dX1_spanOf_16 dX1_spanOf_19 ⟨Nat.le_of_ble_eq_true rfl, Nat.le_of_ble_eq_true rfl, Nat.le_of_ble_eq_true rfl, Nat.le_of_ble_eq_true rfl⟩ ⟨Nat.le_of_ble_eq_true rfl, Nat.le_of_ble_eq_true rfl⟩ ?_
    exact ⟨by rw [exq_f (by omega)]; decide, by rw [exq_f (by omega)], rfl⟩
theorem k_X1_isAddress {l : Launch} {cs : CSt} {np : Nat} {ad : Nat → Nat} {T : MT} (a : Int) (ha : -2147483648 ≤ a ∧ a < 2147483648) : KD l cs yX1_isAddress (Cond.code yX1_isAddress cX1_isAddress 1 (some .boolean) :: GW) 0 0 0 [.int (zI a)] np ad T 0 (some (.int (zI (if 0 ≤ a ∧ a < 4096 then 1 else 0)))) (np, ad, T) := by
  refine KC_of (cc := cX1_isAddress) (nL := 1) (rt := (some .boolean)) (by decide) (by simp [grf_cat, cat_int, cat_ref]) (by simp) ?_
  intro p e s m args below meth c A C hE hin
  refine g_eq (lv2 := [some (.int (zI a))]) rfl rfl rfl ?_
  refine g_iload_0 (pc := 0) C dX1_isAddress_0 ?_
  refine g_if_lt (pc := 1) (tgt := 15) C dX1_isAddress_1 (by decide) (by omega) (fun h1 => ?_) (fun h1 => ?_)
  · refine g_iconst (pc := 15) C dX1_isAddress_15 ?_
    refine g_zret (pc := 16) C (by omega) (Nat.le_of_ble_eq_true rfl) (Nat.le_of_ble_eq_true rfl) dX1_isAddress_16 ?_
    exact ⟨rfl, by rw [if_neg (by omega)], rfl⟩
  · refine g_iload_0 (pc := 4) C dX1_isAddress_4 ?_
    refine g_sipush (pc := 5) C dX1_isAddress_5 (by decide) ?_
    refine g_icmp_ge (pc := 8) (tgt := 15) C dX1_isAddress_8 (by decide) (by omega) (by omega) (fun h8 => ?_) (fun h8 => ?_)
    · refine g_iconst (pc := 15) C dX1_isAddress_15 ?_
      refine g_zret (pc := 16) C (by omega) (Nat.le_of_ble_eq_true rfl) (Nat.le_of_ble_eq_true rfl) dX1_isAddress_16 ?_
      exact ⟨rfl, by rw [if_neg (by omega)], rfl⟩
    · refine g_iconst (pc := 11) C dX1_isAddress_11 ?_
      refine g_goto (pc := 12) (tgt := 16) C dX1_isAddress_12 (by decide) ?_
      refine g_zret (pc := 16) C (by omega) (Nat.le_of_ble_eq_true rfl) (Nat.le_of_ble_eq_true rfl) dX1_isAddress_16 ?_
      exact ⟨rfl, by rw [if_pos (by omega)], rfl⟩
theorem k_X1_checkAddress {l : Launch} {cs : CSt} {np : Nat} {ad : Nat → Nat} {T : MT} (a : Int) (ha : -2147483648 ≤ a ∧ a < 2147483648) : KD l cs yX1_checkAddress (Cond.code yX1_checkAddress cX1_checkAddress 1 none :: GW) 6 1 6 [.int (zI a)] np ad T (exq (0 ≤ a ∧ a < 4096) 1) none (np, ad, T) := by
  refine KC_of (cc := cX1_checkAddress) (nL := 1) (rt := none) (by decide) (by simp [grf_cat, cat_int, cat_ref]) (by simp) ?_
  intro p e s m args below meth c A C hE hin
  refine g_eq (lv2 := [some (.int (zI a))]) rfl rfl rfl ?_
  refine g_iload_0 (pc := 0) C dX1_checkAddress_0 ?_
  refine g_cT1Pv (pc := 1) C cs_X1_136 (k_X1_isAddress a ha) ⟨Nat.le_of_ble_eq_true rfl, Nat.le_of_ble_eq_true rfl⟩ (Nat.le_of_ble_eq_true rfl) ⟨Nat.le_of_ble_eq_true rfl, Nat.le_of_ble_eq_true rfl⟩ dX1_checkAddress_1 ?_
  refine g_if_ne (pc := 4) (tgt := 17) C dX1_checkAddress_4 (by decide) (by split <;> omega) (fun h4 => ?_) (fun h4 => ?_)
  · refine g_vret (pc := 17) C (Nat.le_of_ble_eq_true rfl) (Nat.le_of_ble_eq_true rfl) dX1_checkAddress_17 ?_
    exact ⟨exq_t (by split at h4 <;> first | assumption | omega), rfl, rfl⟩
  · refine g_throw_1 (pc := 7) C hE (text := "no such address") (by decide) dX1_checkAddress_7 dX1_checkAddress_10 dX1_checkAddress_11 dX1_checkAddress_13 dX1_checkAddress_16 ⟨Nat.le_of_ble_eq_true rfl, Nat.le_of_ble_eq_true rfl, Nat.le_of_ble_eq_true rfl, Nat.le_of_ble_eq_true rfl⟩ ⟨Nat.le_of_ble_eq_true rfl, Nat.le_of_ble_eq_true rfl⟩ ?_
    have h5 : ¬ (0 ≤ a ∧ a < 4096) := by split at h4 <;> first | assumption | omega
    exact ⟨by rw [exq_f h5]; decide, by rw [exq_f h5], rfl⟩
theorem k_X1_checkSize {l : Launch} {cs : CSt} {np : Nat} {ad : Nat → Nat} {T : MT} (a : Int) (ha : -2147483648 ≤ a ∧ a < 2147483648) : KD l cs yX1_checkSize (Cond.code yX1_checkSize cX1_checkSize 1 none :: GW) 6 1 6 [.int (zI a)] np ad T (exq (szp a) 2) none (np, ad, T) := by
  refine KC_of (cc := cX1_checkSize) (nL := 1) (rt := none) (by decide) (by simp [grf_cat, cat_int, cat_ref]) (by simp) ?_
  intro p e s m args below meth c A C hE hin
  refine g_eq (lv2 := [some (.int (zI a))]) rfl rfl rfl ?_
  refine g_iload_0 (pc := 0) C dX1_checkSize_0 ?_
  refine g_iconst (pc := 1) C dX1_checkSize_1 ?_
  refine g_icmp_lt (pc := 2) (tgt := 20) C dX1_checkSize_2 (by decide) (by omega) (by omega) (fun h2 => ?_) (fun h2 => ?_)
  · refine g_throw_2 (pc := 20) C hE (text := "the size is not 1 to 2048, or no power of 2") (by decide) dX1_checkSize_20 dX1_checkSize_23 dX1_checkSize_24 dX1_checkSize_26 dX1_checkSize_29 ⟨Nat.le_of_ble_eq_true rfl, Nat.le_of_ble_eq_true rfl, Nat.le_of_ble_eq_true rfl, Nat.le_of_ble_eq_true rfl⟩ ⟨Nat.le_of_ble_eq_true rfl, Nat.le_of_ble_eq_true rfl⟩ ?_
    have h5 : ¬ szp a := by unfold szp; omega
    exact ⟨by rw [exq_f h5]; decide, by rw [exq_f h5], rfl⟩
  · refine g_iload_0 (pc := 5) C dX1_checkSize_5 ?_
    refine g_sipush (pc := 6) C dX1_checkSize_6 (by decide) ?_
    refine g_icmp_gt (pc := 9) (tgt := 20) C dX1_checkSize_9 (by decide) (by omega) (by omega) (fun h9 => ?_) (fun h9 => ?_)
    · refine g_throw_2 (pc := 20) C hE (text := "the size is not 1 to 2048, or no power of 2") (by decide) dX1_checkSize_20 dX1_checkSize_23 dX1_checkSize_24 dX1_checkSize_26 dX1_checkSize_29 ⟨Nat.le_of_ble_eq_true rfl, Nat.le_of_ble_eq_true rfl, Nat.le_of_ble_eq_true rfl, Nat.le_of_ble_eq_true rfl⟩ ⟨Nat.le_of_ble_eq_true rfl, Nat.le_of_ble_eq_true rfl⟩ ?_
      have h5 : ¬ szp a := by unfold szp; omega
      exact ⟨by rw [exq_f h5]; decide, by rw [exq_f h5], rfl⟩
    · have h6 := szp_and (a := a) (by omega)
      have h7 := rg32 (zI a &&& zI (a - 1))
      refine g_iload_0 (pc := 12) C dX1_checkSize_12 ?_
      refine g_iload_0 (pc := 13) C dX1_checkSize_13 ?_
      refine g_iconst (pc := 14) C dX1_checkSize_14 ?_
      refine g_isub (pc := 15) C dX1_checkSize_15 ?_
      refine g_iandz (pc := 16) C dX1_checkSize_16 (zI_self _).symm ?_
      refine g_if_eq (pc := 17) (tgt := 30) C dX1_checkSize_17 (by decide) (by omega) (fun h17 => ?_) (fun h17 => ?_)
      · refine g_vret (pc := 30) C (Nat.le_of_ble_eq_true rfl) (Nat.le_of_ble_eq_true rfl) dX1_checkSize_30 ?_
        exact ⟨exq_t (h6.mp h17), rfl, rfl⟩
      · refine g_throw_2 (pc := 20) C hE (text := "the size is not 1 to 2048, or no power of 2") (by decide) dX1_checkSize_20 dX1_checkSize_23 dX1_checkSize_24 dX1_checkSize_26 dX1_checkSize_29 ⟨Nat.le_of_ble_eq_true rfl, Nat.le_of_ble_eq_true rfl, Nat.le_of_ble_eq_true rfl, Nat.le_of_ble_eq_true rfl⟩ ⟨Nat.le_of_ble_eq_true rfl, Nat.le_of_ble_eq_true rfl⟩ ?_
        have h5 : ¬ szp a := fun h => h17 (h6.mpr h)
        exact ⟨by rw [exq_f h5]; decide, by rw [exq_f h5], rfl⟩
theorem k_X1_checkOwner {l : Launch} {cs : CSt} {np : Nat} {ad : Nat → Nat} {T : MT} (a : Int) (ha : -2147483648 ≤ a ∧ a < 2147483648) : KD l cs yX1_checkOwner (Cond.code yX1_checkOwner cX1_checkOwner 1 none :: GW) 6 1 6 [.int (zI a)] np ad T (exq (0 ≤ a ∧ a < 8) 2) none (np, ad, T) := by
  refine KC_of (cc := cX1_checkOwner) (nL := 1) (rt := none) (by decide) (by simp [grf_cat, cat_int, cat_ref]) (by simp) ?_
  intro p e s m args below meth c A C hE hin
  refine g_eq (lv2 := [some (.int (zI a))]) rfl rfl rfl ?_
  refine g_iload_0 (pc := 0) C dX1_checkOwner_0 ?_
  refine g_if_lt (pc := 1) (tgt := 10) C dX1_checkOwner_1 (by decide) (by omega) (fun h1 => ?_) (fun h1 => ?_)
  · refine g_throw_2 (pc := 10) C hE (text := "the owner is not 0 to 7") (by decide) dX1_checkOwner_10 dX1_checkOwner_13 dX1_checkOwner_14 dX1_checkOwner_16 dX1_checkOwner_19 ⟨Nat.le_of_ble_eq_true rfl, Nat.le_of_ble_eq_true rfl, Nat.le_of_ble_eq_true rfl, Nat.le_of_ble_eq_true rfl⟩ ⟨Nat.le_of_ble_eq_true rfl, Nat.le_of_ble_eq_true rfl⟩ ?_
    have h5 : ¬ (0 ≤ a ∧ a < 8) := by omega
    exact ⟨by rw [exq_f h5]; decide, by rw [exq_f h5], rfl⟩
  · refine g_iload_0 (pc := 4) C dX1_checkOwner_4 ?_
    refine g_bipush (pc := 5) C dX1_checkOwner_5 (by decide) ?_
    refine g_icmp_lt (pc := 7) (tgt := 20) C dX1_checkOwner_7 (by decide) (by omega) (by omega) (fun h7 => ?_) (fun h7 => ?_)
    · refine g_vret (pc := 20) C (Nat.le_of_ble_eq_true rfl) (Nat.le_of_ble_eq_true rfl) dX1_checkOwner_20 ?_
      exact ⟨exq_t (by omega), rfl, rfl⟩
    · refine g_throw_2 (pc := 10) C hE (text := "the owner is not 0 to 7") (by decide) dX1_checkOwner_10 dX1_checkOwner_13 dX1_checkOwner_14 dX1_checkOwner_16 dX1_checkOwner_19 ⟨Nat.le_of_ble_eq_true rfl, Nat.le_of_ble_eq_true rfl, Nat.le_of_ble_eq_true rfl, Nat.le_of_ble_eq_true rfl⟩ ⟨Nat.le_of_ble_eq_true rfl, Nat.le_of_ble_eq_true rfl⟩ ?_
      have h5 : ¬ (0 ≤ a ∧ a < 8) := by omega
      exact ⟨by rw [exq_f h5]; decide, by rw [exq_f h5], rfl⟩
theorem k_X1_countChildren {l : Launch} {cs : CSt} {np : Nat} {ad : Nat → Nat} {T : MT} (hV : VC np T) (x B S : Int) (hx : 0 ≤ x ∧ x + 13 < np) (hB : -4096 ≤ B ∧ B ≤ 8192 ∧ 0 ≤ S ∧ S ≤ 8192) : KD l cs yX1_countChildren (Cond.code yX1_countChildren cX1_countChildren 9 (some .int) :: GW) 2 0 0 [.ref (ad 0), grf ad x, .int (zI B), .int (zI S)] np ad T 0 (some (.int (zI (cntC T x B S 60)))) (np, ad, T) := by
  have hV0 := hV.1
  refine KC_of (cc := cX1_countChildren) (nL := 9) (rt := (some .int)) (by decide) (by simp [grf_cat, cat_int, cat_ref]) (by simp) ?_
  intro p e s m args below meth c A C hE hin
  refine g_eq (lv2 := [some (.ref (ad 0)), some (grf ad x), some (.int (zI B)), some (.int (zI S)), none, none, none, none, none]) rfl rfl rfl ?_
  refine g_iconst (pc := 0) C dX1_countChildren_0 ?_
  refine g_istore_4 (pc := 1) C dX1_countChildren_1 ?_
  refine g_aload_0 (pc := 3) C dX1_countChildren_3 ?_
  refine g_get_X1_18 (pc := 4) C (by omega) dX1_countChildren_4 ?_
  refine g_astore_5 (pc := 7) C dX1_countChildren_7 ?_
  refine g_aload_5 (pc := 9) C dX1_countChildren_9 ?_
  refine g_alen1 (pc := 11) C (by omega) dX1_countChildren_11 ?_
  refine g_istore_6 (pc := 12) C dX1_countChildren_12 ?_
  refine g_iconst (pc := 14) C dX1_countChildren_14 ?_
  refine g_istore_7 (pc := 15) C dX1_countChildren_15 ?_
  refine g_loop (σ := Option Value) (Tf := fun _ _ => T) (lvf := fun j a8 => [some (.ref (ad 0)), some (grf ad x), some (.int (zI B)), some (.int (zI S)), some (.int (zI (cnt (T 1) (T 14) (T 15) (T 16) x B S j))), some (.ref (ad 1)), some (.int (zI 60)), some (.int (zI (j : Int))), a8]) (inv := fun _ _ => True) (N := 60) 0 none trivial (by omega) (fun j a8 _ hN ih => ?_)
  refine g_iload_7 (pc := 17) C dX1_countChildren_17 ?_
  refine g_iload_6 (pc := 19) C dX1_countChildren_19 ?_
  refine g_icmp_ge (pc := 21) (tgt := 64) C dX1_countChildren_21 (by decide) (by omega) (by omega) (fun h21 => ?_) (fun h21 => ?_)
  · refine g_iload_4 (pc := 64) C dX1_countChildren_64 ?_
    refine g_iret (pc := 66) C (Nat.le_of_ble_eq_true rfl) (Nat.le_of_ble_eq_true rfl) dX1_countChildren_66 ?_
    obtain rfl : j = 60 := by omega
    exact ⟨rfl, by rw [cntC_eq], rfl⟩
  · have hj := hV.2 j (by omega)
    have e9 : cnt (T 1) (T 14) (T 15) (T 16) x B S (j + 1) = cnt (T 1) (T 14) (T 15) (T 16) x B S j + (if T 1 j ≠ 0 ∧ T 14 j = x ∧ T 15 j < B + S ∧ B < T 15 j + T 16 j then 1 else 0) := rfl
    refine g_aload_5 (pc := 24) C dX1_countChildren_24 ?_
    refine g_iload_7 (pc := 26) C dX1_countChildren_26 ?_
    first | refine g_aaldn (pc := 28) C (by omega) (by omega) dX1_countChildren_28 ?_ | refine g_aald (pc := 28) C (by omega) (by omega) dX1_countChildren_28 ?_
    rcases mkd_or T j with ⟨m1, m2⟩ | ⟨m1, m2⟩
    · rw [m2]
      refine g_sstore_8 (pc := 29) C dX1_countChildren_29 ?_
      refine g_sload_8 (pc := 31) C dX1_countChildren_31 ?_
      refine g_ifnull (pc := 33) (tgt := 58) C dX1_countChildren_33 (by decide) (fun h33 => ?_) (fun h33 => ?_)
      · refine g_iinc_7 (pc := 58) C dX1_countChildren_58 ?_
        refine g_goto (pc := 61) (tgt := 17) C dX1_countChildren_61 (by decide) ?_
        rw [if_neg (by omega)] at e9
        exact g_eq rfl (by rw [e9, Int.add_zero]; rfl) rfl (ih _ (by omega) trivial)
      · omega
    · rw [m2]
      refine g_sstore_8 (pc := 29) C dX1_countChildren_29 ?_
      refine g_sload_8 (pc := 31) C dX1_countChildren_31 ?_
      refine g_ifnull (pc := 33) (tgt := 58) C dX1_countChildren_33 (by decide) (fun h33 => ?_) (fun h33 => ?_)
      · omega
      · refine g_sload_8 (pc := 36) C dX1_countChildren_36 ?_
        first | refine g_getn_X1_94 (pc := 38) C (by omega) dX1_countChildren_38 ?_ | refine g_get_X1_94 (pc := 38) C (by omega) dX1_countChildren_38 ?_
        refine g_sload_1 (pc := 41) C dX1_countChildren_41 ?_
        refine g_acmp_ne (pc := 42) (tgt := 58) C dX1_countChildren_42 (by decide) (by omega) (by omega) (fun h42 => ?_) (fun h42 => ?_)
        · refine g_iinc_7 (pc := 58) C dX1_countChildren_58 ?_
          refine g_goto (pc := 61) (tgt := 17) C dX1_countChildren_61 (by decide) ?_
          rw [if_neg (by omega)] at e9
          exact g_eq rfl (by rw [e9, Int.add_zero]; rfl) rfl (ih _ (by omega) trivial)
        · refine g_sload_8 (pc := 45) C dX1_countChildren_45 ?_
          refine g_iload_2 (pc := 47) C dX1_countChildren_47 ?_
          refine g_iload_3 (pc := 48) C dX1_countChildren_48 ?_
          refine g_cS2Pv (pc := 49) C cs_X1_193 (kn_X0_meets j B S (by omega) (by omega) (by omega)) ⟨Nat.le_of_ble_eq_true rfl, Nat.le_of_ble_eq_true rfl⟩ (by omega) (Nat.le_of_ble_eq_true rfl) ⟨Nat.le_of_ble_eq_true rfl, Nat.le_of_ble_eq_true rfl⟩ dX1_countChildren_49 ?_
          refine g_if_eq (pc := 52) (tgt := 58) C dX1_countChildren_52 (by decide) (by split <;> omega) (fun h52 => ?_) (fun h52 => ?_)
          · refine g_iinc_7 (pc := 58) C dX1_countChildren_58 ?_
            refine g_goto (pc := 61) (tgt := 17) C dX1_countChildren_61 (by decide) ?_
            rw [if_neg (by split at h52 <;> omega)] at e9
            exact g_eq rfl (by rw [e9, Int.add_zero]; rfl) rfl (ih _ (by omega) trivial)
          · refine g_iinc_4 (pc := 55) C dX1_countChildren_55 ?_
            refine g_iinc_7 (pc := 58) C dX1_countChildren_58 ?_
            refine g_goto (pc := 61) (tgt := 17) C dX1_countChildren_61 (by decide) ?_
            rw [if_pos (by split at h52 <;> omega)] at e9
            exact g_eq rfl (by rw [e9]; rfl) rfl (ih _ (by omega) trivial)
theorem k_X1_hasChildren {l : Launch} {cs : CSt} {np : Nat} {ad : Nat → Nat} {T : MT} (hV : VC np T) (x : Int) (hx : isS T x) : KD l cs yX1_hasChildren (Cond.code yX1_hasChildren cX1_hasChildren 2 (some .boolean) :: GW) 3 0 0 [.ref (ad 0), grf ad x] np ad T 0 (some (.int (zI (if cntC T x (T 15 x.toNat) (T 16 x.toNat) 60 > 0 then 1 else 0)))) (np, ad, T) := by
  have hV0 := hV.s hx
  have hb := cntC_bd T x (T 15 x.toNat) (T 16 x.toNat) 60
  refine KC_of (cc := cX1_hasChildren) (nL := 2) (rt := (some .boolean)) (by decide) (by simp [grf_cat, cat_int, cat_ref]) (by simp) ?_
  intro p e s m args below meth c A C hE hin
  refine g_eq (lv2 := [some (.ref (ad 0)), some (grf ad x)]) rfl rfl rfl ?_
  refine g_aload_0 (pc := 0) C dX1_hasChildren_0 ?_
  refine g_sload_1 (pc := 1) C dX1_hasChildren_1 ?_
  refine g_sload_1 (pc := 2) C dX1_hasChildren_2 ?_
  first | refine g_getn_X1_101 (pc := 3) C (by omega) dX1_hasChildren_3 ?_ | refine g_get_X1_101 (pc := 3) C (by omega) dX1_hasChildren_3 ?_
  refine g_sload_1 (pc := 6) C dX1_hasChildren_6 ?_
  first | refine g_getn_X1_114 (pc := 7) C (by omega) dX1_hasChildren_7 ?_ | refine g_get_X1_114 (pc := 7) C (by omega) dX1_hasChildren_7 ?_
  refine g_cY3Pv (pc := 10) C cs_X1_88 (k_X1_countChildren hV x _ _ (by omega) (by omega)) ⟨Nat.le_of_ble_eq_true rfl, Nat.le_of_ble_eq_true rfl⟩ (by omega) (Nat.le_of_ble_eq_true rfl) ⟨Nat.le_of_ble_eq_true rfl, Nat.le_of_ble_eq_true rfl⟩ dX1_hasChildren_10 ?_
  refine g_if_le (pc := 13) (tgt := 20) C dX1_hasChildren_13 (by decide) (by omega) (fun h13 => ?_) (fun h13 => ?_)
  · refine g_iconst (pc := 20) C dX1_hasChildren_20 ?_
    refine g_zret (pc := 21) C (by omega) (Nat.le_of_ble_eq_true rfl) (Nat.le_of_ble_eq_true rfl) dX1_hasChildren_21 ?_
    exact ⟨rfl, by rw [if_neg (by omega)], rfl⟩
  · refine g_iconst (pc := 16) C dX1_hasChildren_16 ?_
    refine g_goto (pc := 17) (tgt := 21) C dX1_hasChildren_17 (by decide) ?_
    refine g_zret (pc := 21) C (by omega) (Nat.le_of_ble_eq_true rfl) (Nat.le_of_ble_eq_true rfl) dX1_hasChildren_21 ?_
    exact ⟨rfl, by rw [if_pos (by omega)], rfl⟩
