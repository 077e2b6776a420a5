/-! the model: its small methods -/
theorem k_X2_thrown {l : Launch} {cs : CSt} {np : Nat} {ad : Nat → Nat} {T : MT} (h13 : 13 ≤ np) : KD l cs yX2_thrown (Cond.code yX2_thrown cX2_thrown 1 (some .int) :: GW) 0 0 0 [.ref (ad 4)] np ad T 0 (some (.int (zI (T 4 0)))) (np, ad, T) := by
  refine KC_of (cc := cX2_thrown) (nL := 1) (rt := (some .int)) (by decide) (by simp [grf_cat, cat_int, cat_ref]) (by simp) ?_
  intro p e s m args below meth c A C hE hin
  refine g_eq (lv2 := [some (.ref (ad 4))]) rfl rfl rfl ?_
  refine g_aload_0 (pc := 0) C dX2_thrown_0 ?_
  refine g_get_X2_36 (pc := 1) C (by omega) dX2_thrown_1 ?_
  refine g_iret (pc := 4) C (Nat.le_of_ble_eq_true rfl) (Nat.le_of_ble_eq_true rfl) dX2_thrown_4 ?_
  exact ⟨rfl, rfl, rfl⟩
theorem k_X2_goesWell {l : Launch} {cs : CSt} {np : Nat} {ad : Nat → Nat} {T : MT} (h13 : 13 ≤ np) (z : Int) (hz : 0 ≤ z ∧ z ≤ 3) : KD l cs yX2_goesWell (Cond.code yX2_goesWell cX2_goesWell 2 (some .boolean) :: GW) 0 0 0 [.ref (ad 4), .int (zI z)] np ad T 0 (some (.int (zI (bz (z = 0))))) (np, ad, mst T 4 0 z) := by
  refine KC_of (cc := cX2_goesWell) (nL := 2) (rt := (some .boolean)) (by decide) (by simp [grf_cat, cat_int, cat_ref]) (by simp) ?_
  intro p e s m args below meth c A C hE hin
  refine g_eq (lv2 := [some (.ref (ad 4)), some (.int (zI z))]) rfl rfl rfl ?_
  refine g_aload_0 (pc := 0) C dX2_goesWell_0 ?_
  refine g_iload_1 (pc := 1) C dX2_goesWell_1 ?_
  refine g_put_X2_36 (pc := 2) C (by omega) dX2_goesWell_2 ?_
  refine g_iload_1 (pc := 5) C dX2_goesWell_5 ?_
  refine g_if_ne (pc := 6) (tgt := 13) C dX2_goesWell_6 (by decide) (by omega) (fun h6 => ?_) (fun h6 => ?_)
  · refine g_iconst (pc := 13) C dX2_goesWell_13 ?_
    refine g_zret (pc := 14) C (by omega) (Nat.le_of_ble_eq_true rfl) (Nat.le_of_ble_eq_true rfl) dX2_goesWell_14 ?_
    exact ⟨rfl, by rw [bz_f h6], rfl⟩
  · refine g_iconst (pc := 9) C dX2_goesWell_9 ?_
    refine g_goto (pc := 10) (tgt := 14) C dX2_goesWell_10 (by decide) ?_
    refine g_zret (pc := 14) C (by omega) (Nat.le_of_ble_eq_true rfl) (Nat.le_of_ble_eq_true rfl) dX2_goesWell_14 ?_
    exact ⟨rfl, by rw [bz_t (by omega)], rfl⟩
theorem k_X2_in {l : Launch} {cs : CSt} {np : Nat} {ad : Nat → Nat} {T : MT} (v a b : Int) (hv : -2147483648 ≤ v ∧ v < 2147483648) (ha : -2147483648 ≤ a ∧ a < 2147483648) (hb : -2147483648 ≤ b ∧ b < 2147483648) : KD l cs yX2_in (Cond.code yX2_in cX2_in 3 (some .boolean) :: GW) 0 0 0 [.int (zI v), .int (zI a), .int (zI b)] np ad T 0 (some (.int (zI (bz (a ≤ v ∧ v ≤ b))))) (np, ad, T) := by
  refine KC_of (cc := cX2_in) (nL := 3) (rt := (some .boolean)) (by decide) (by simp [grf_cat, cat_int, cat_ref]) (by simp) ?_
  intro p e s m args below meth c A C hE hin
  refine g_eq (lv2 := [some (.int (zI v)), some (.int (zI a)), some (.int (zI b))]) rfl rfl rfl ?_
  refine g_iload_0 (pc := 0) C dX2_in_0 ?_
  refine g_iload_1 (pc := 1) C dX2_in_1 ?_
  refine g_icmp_lt (pc := 2) (tgt := 14) C dX2_in_2 (by decide) (by omega) (by omega) (fun h2 => ?_) (fun h2 => ?_)
  · refine g_iconst (pc := 14) C dX2_in_14 ?_
    refine g_zret (pc := 15) C (by omega) (Nat.le_of_ble_eq_true rfl) (Nat.le_of_ble_eq_true rfl) dX2_in_15 ?_
    exact ⟨rfl, by rw [bz_f (by omega)], rfl⟩
  · refine g_iload_0 (pc := 5) C dX2_in_5 ?_
    refine g_iload_2 (pc := 6) C dX2_in_6 ?_
    refine g_icmp_gt (pc := 7) (tgt := 14) C dX2_in_7 (by decide) (by omega) (by omega) (fun h7 => ?_) (fun h7 => ?_)
    · refine g_iconst (pc := 14) C dX2_in_14 ?_
      refine g_zret (pc := 15) C (by omega) (Nat.le_of_ble_eq_true rfl) (Nat.le_of_ble_eq_true rfl) dX2_in_15 ?_
      exact ⟨rfl, by rw [bz_f (by omega)], rfl⟩
    · refine g_iconst (pc := 10) C dX2_in_10 ?_
      refine g_goto (pc := 11) (tgt := 15) C dX2_in_11 (by decide) ?_
      refine g_zret (pc := 15) C (by omega) (Nat.le_of_ble_eq_true rfl) (Nat.le_of_ble_eq_true rfl) dX2_in_15 ?_
      exact ⟨rfl, by rw [bz_t (by omega)], rfl⟩
theorem k_X2_isSpan {l : Launch} {cs : CSt} {np : Nat} {ad : Nat → Nat} {T : MT} (h13 : 13 ≤ np) (hV : VM T) (x : Int) (hx : -2147483648 ≤ x ∧ x < 2147483648) : KD l cs yX2_isSpan (Cond.code yX2_isSpan cX2_isSpan 2 (some .boolean) :: GW) 1 0 0 [.ref (ad 4), .int (zI x)] np ad T 0 (some (.int (zI (bz (isM T x))))) (np, ad, T) := by
  have hV0 := hV.1
  refine KC_of (cc := cX2_isSpan) (nL := 2) (rt := (some .boolean)) (by decide) (by simp [grf_cat, cat_int, cat_ref]) (by simp) ?_
  intro p e s m args below meth c A C hE hin
  refine g_eq (lv2 := [some (.ref (ad 4)), some (.int (zI x))]) rfl rfl rfl ?_
  refine g_iload_1 (pc := 0) C dX2_isSpan_0 ?_
  refine g_iconst (pc := 1) C dX2_isSpan_1 ?_
  refine g_aload_0 (pc := 2) C dX2_isSpan_2 ?_
  refine g_get_X2_26 (pc := 3) C (by omega) dX2_isSpan_3 ?_
  refine g_iconst (pc := 6) C dX2_isSpan_6 ?_
  refine g_isub (pc := 7) C dX2_isSpan_7 ?_
  refine g_cT3Pv (pc := 8) C cs_X2_39 (k_X2_in x 0 (T 4 6 - 1) hx (by omega) (by omega)) ⟨Nat.le_of_ble_eq_true rfl, Nat.le_of_ble_eq_true rfl⟩ (Nat.le_of_ble_eq_true rfl) ⟨Nat.le_of_ble_eq_true rfl, Nat.le_of_ble_eq_true rfl⟩ dX2_isSpan_8 ?_
  refine g_if_eq (pc := 11) (tgt := 27) C dX2_isSpan_11 (by decide) (bz_rg _) (fun h11 => ?_) (fun h11 => ?_)
  · refine g_iconst (pc := 27) C dX2_isSpan_27 ?_
    refine g_zret (pc := 28) C (by omega) (Nat.le_of_ble_eq_true rfl) (Nat.le_of_ble_eq_true rfl) dX2_isSpan_28 ?_
    have h12 := bz_0 h11
    exact ⟨rfl, by rw [bz_f (by omega)], rfl⟩
  · have h12 := bz_1 h11
    have hs := hV.s (x := x) (by omega)
    refine g_aload_0 (pc := 14) C dX2_isSpan_14 ?_
    refine g_get_X2_22 (pc := 15) C (by omega) dX2_isSpan_15 ?_
    refine g_iload_1 (pc := 18) C dX2_isSpan_18 ?_
    first | refine g_aldn_9 (pc := 19) C (by omega) (by omega) dX2_isSpan_19 ?_ | refine g_ald_9 (pc := 19) C (by omega) (by omega) dX2_isSpan_19 ?_
    refine g_if_eq (pc := 20) (tgt := 27) C dX2_isSpan_20 (by decide) (by omega) (fun h20 => ?_) (fun h20 => ?_)
    · refine g_iconst (pc := 27) C dX2_isSpan_27 ?_
      refine g_zret (pc := 28) C (by omega) (Nat.le_of_ble_eq_true rfl) (Nat.le_of_ble_eq_true rfl) dX2_isSpan_28 ?_
      exact ⟨rfl, by rw [bz_f (by omega)], rfl⟩
    · refine g_iconst (pc := 23) C dX2_isSpan_23 ?_
      refine g_goto (pc := 24) (tgt := 28) C dX2_isSpan_24 (by decide) ?_
      refine g_zret (pc := 28) C (by omega) (Nat.le_of_ble_eq_true rfl) (Nat.le_of_ble_eq_true rfl) dX2_isSpan_28 ?_
      exact ⟨rfl, by rw [bz_t (by omega)], rfl⟩
theorem k_X2_isSize {l : Launch} {cs : CSt} {np : Nat} {ad : Nat → Nat} {T : MT} (S : Int) (hx : -2147483648 ≤ S ∧ S < 2147483648) : KD l cs yX2_isSize (Cond.code yX2_isSize cX2_isSize 1 (some .boolean) :: GW) 1 0 0 [.int (zI S)] np ad T 0 (some (.int (zI (bz (szp S))))) (np, ad, T) := by
  refine KC_of (cc := cX2_isSize) (nL := 1) (rt := (some .boolean)) (by decide) (by simp [grf_cat, cat_int, cat_ref]) (by simp) ?_
  intro p e s m args below meth c A C hE hin
  refine g_eq (lv2 := [some (.int (zI S))]) rfl rfl rfl ?_
  refine g_iload_0 (pc := 0) C dX2_isSize_0 ?_
  refine g_iconst (pc := 1) C dX2_isSize_1 ?_
  refine g_sipush (pc := 2) C dX2_isSize_2 (by decide) ?_
  refine g_cT3Pv (pc := 5) C cs_X2_39 (k_X2_in S 1 2048 hx (by omega) (by omega)) ⟨Nat.le_of_ble_eq_true rfl, Nat.le_of_ble_eq_true rfl⟩ (Nat.le_of_ble_eq_true rfl) ⟨Nat.le_of_ble_eq_true rfl, Nat.le_of_ble_eq_true rfl⟩ dX2_isSize_5 ?_
  refine g_if_eq (pc := 8) (tgt := 23) C dX2_isSize_8 (by decide) (bz_rg _) (fun h8 => ?_) (fun h8 => ?_)
  · refine g_iconst (pc := 23) C dX2_isSize_23 ?_
    refine g_zret (pc := 24) C (by omega) (Nat.le_of_ble_eq_true rfl) (Nat.le_of_ble_eq_true rfl) dX2_isSize_24 ?_
    have h12 := bz_0 h8
    exact ⟨rfl, by rw [bz_f (by unfold szp; omega)], rfl⟩
  · have h12 := bz_1 h8
    have h6 := szp_and (a := S) (by omega)
    have h7 := rg32 (zI S &&& zI (S - 1))
    refine g_iload_0 (pc := 11) C dX2_isSize_11 ?_
    refine g_iload_0 (pc := 12) C dX2_isSize_12 ?_
    refine g_iconst (pc := 13) C dX2_isSize_13 ?_
    refine g_isub (pc := 14) C dX2_isSize_14 ?_
    refine g_iandz (pc := 15) C dX2_isSize_15 (zI_self _).symm ?_
    refine g_if_ne (pc := 16) (tgt := 23) C dX2_isSize_16 (by decide) (by omega) (fun h16 => ?_) (fun h16 => ?_)
    · refine g_iconst (pc := 23) C dX2_isSize_23 ?_
      refine g_zret (pc := 24) C (by omega) (Nat.le_of_ble_eq_true rfl) (Nat.le_of_ble_eq_true rfl) dX2_isSize_24 ?_
      exact ⟨rfl, by rw [bz_f (fun h => h16 (h6.mpr h))], rfl⟩
    · refine g_iconst (pc := 19) C dX2_isSize_19 ?_
      refine g_goto (pc := 20) (tgt := 24) C dX2_isSize_20 (by decide) ?_
      refine g_zret (pc := 24) C (by omega) (Nat.le_of_ble_eq_true rfl) (Nat.le_of_ble_eq_true rfl) dX2_isSize_24 ?_
      exact ⟨rfl, by rw [bz_t (h6.mp (by omega))], rfl⟩
theorem k_X2_isOwner {l : Launch} {cs : CSt} {np : Nat} {ad : Nat → Nat} {T : MT} (o : Int) (hx : -2147483648 ≤ o ∧ o < 2147483648) : KD l cs yX2_isOwner (Cond.code yX2_isOwner cX2_isOwner 1 (some .boolean) :: GW) 1 0 0 [.int (zI o)] np ad T 0 (some (.int (zI (bz (0 ≤ o ∧ o < 8))))) (np, ad, T) := by
  refine KC_of (cc := cX2_isOwner) (nL := 1) (rt := (some .boolean)) (by decide) (by simp [grf_cat, cat_int, cat_ref]) (by simp) ?_
  intro p e s m args below meth c A C hE hin
  refine g_eq (lv2 := [some (.int (zI o))]) rfl rfl rfl ?_
  refine g_iload_0 (pc := 0) C dX2_isOwner_0 ?_
  refine g_iconst (pc := 1) C dX2_isOwner_1 ?_
  refine g_bipush (pc := 2) C dX2_isOwner_2 (by decide) ?_
  refine g_cT3Pv (pc := 4) C cs_X2_39 (k_X2_in o 0 7 hx (by omega) (by omega)) ⟨Nat.le_of_ble_eq_true rfl, Nat.le_of_ble_eq_true rfl⟩ (Nat.le_of_ble_eq_true rfl) ⟨Nat.le_of_ble_eq_true rfl, Nat.le_of_ble_eq_true rfl⟩ dX2_isOwner_4 ?_
  refine g_zret (pc := 7) C (bz_or _) (Nat.le_of_ble_eq_true rfl) (Nat.le_of_ble_eq_true rfl) dX2_isOwner_7 ?_
  exact ⟨rfl, by rw [show bz (0 ≤ o ∧ o ≤ 7) = bz (0 ≤ o ∧ o < 8) by unfold bz; split <;> split <;> omega], rfl⟩
theorem k_X2_isAddress {l : Launch} {cs : CSt} {np : Nat} {ad : Nat → Nat} {T : MT} (a : Int) (hx : -2147483648 ≤ a ∧ a < 2147483648) : KD l cs yX2_isAddress (Cond.code yX2_isAddress cX2_isAddress 1 (some .boolean) :: GW) 1 0 0 [.int (zI a)] np ad T 0 (some (.int (zI (bz (0 ≤ a ∧ a < 4096))))) (np, ad, T) := by
  refine KC_of (cc := cX2_isAddress) (nL := 1) (rt := (some .boolean)) (by decide) (by simp [grf_cat, cat_int, cat_ref]) (by simp) ?_
  intro p e s m args below meth c A C hE hin
  refine g_eq (lv2 := [some (.int (zI a))]) rfl rfl rfl ?_
  refine g_iload_0 (pc := 0) C dX2_isAddress_0 ?_
  refine g_iconst (pc := 1) C dX2_isAddress_1 ?_
  refine g_sipush (pc := 2) C dX2_isAddress_2 (by decide) ?_
  refine g_cT3Pv (pc := 5) C cs_X2_39 (k_X2_in a 0 4095 hx (by omega) (by omega)) ⟨Nat.le_of_ble_eq_true rfl, Nat.le_of_ble_eq_true rfl⟩ (Nat.le_of_ble_eq_true rfl) ⟨Nat.le_of_ble_eq_true rfl, Nat.le_of_ble_eq_true rfl⟩ dX2_isAddress_5 ?_
  refine g_zret (pc := 8) C (bz_or _) (Nat.le_of_ble_eq_true rfl) (Nat.le_of_ble_eq_true rfl) dX2_isAddress_8 ?_
  exact ⟨rfl, by rw [show bz (0 ≤ a ∧ a ≤ 4095) = bz (0 ≤ a ∧ a < 4096) by unfold bz; split <;> split <;> omega], rfl⟩
theorem k_X2_countIn {l : Launch} {cs : CSt} {np : Nat} {ad : Nat → Nat} {T : MT} (h13 : 13 ≤ np) (hV : VM T) (x B S i : Int) (hx : -1 ≤ x ∧ x < 64) (hB : 0 ≤ B ∧ B ≤ 8192 ∧ 0 ≤ S ∧ S ≤ 8192) (hi : -1 ≤ i ∧ i < 64) : KD l cs yX2_countIn (Cond.code yX2_countIn cX2_countIn 8 (some .int) :: GW) 0 0 0 [.ref (ad 4), .int (zI x), .int (zI B), .int (zI S), .int (zI i)] np ad T 0 (some (.int (zI (cntM T x B S i)))) (np, ad, T) := by
  have hV0 := hV.1
  refine KC_of (cc := cX2_countIn) (nL := 8) (rt := (some .int)) (by decide) (by simp [grf_cat, cat_int, cat_ref]) (by simp) ?_
  intro p e s m args below meth c A C hE hin
  refine g_eq (lv2 := [some (.ref (ad 4)), some (.int (zI x)), some (.int (zI B)), some (.int (zI S)), some (.int (zI i)), none, none, none]) rfl rfl rfl ?_
  refine g_iconst (pc := 0) C dX2_countIn_0 ?_
  refine g_istore_5 (pc := 1) C dX2_countIn_1 ?_
  refine g_iconst (pc := 3) C dX2_countIn_3 ?_
  refine g_istore_6 (pc := 4) C dX2_countIn_4 ?_
  refine g_loop (σ := Option Value) (Tf := fun _ _ => T) (lvf := fun j z => [some (.ref (ad 4)), some (.int (zI x)), some (.int (zI B)), some (.int (zI S)), some (.int (zI i)), some (.int (zI (cnb (T 9) (T 7) (T 5) (T 6) x B S i j))), some (.int (zI (j : Int))), z]) (inv := fun _ _ => True) (N := 60) 0 none trivial (by omega) (fun j z _ hN ih => ?_)
  refine g_iload_6 (pc := 6) C dX2_countIn_6 ?_
  refine g_aload_0 (pc := 8) C dX2_countIn_8 ?_
  refine g_get_X2_26 (pc := 9) C (by omega) dX2_countIn_9 ?_
  refine g_icmp_ge (pc := 12) (tgt := 103) C dX2_countIn_12 (by decide) (by omega) (by omega) (fun h12 => ?_) (fun h12 => ?_)
  · refine g_iload_5 (pc := 103) C dX2_countIn_103 ?_
    refine g_iret (pc := 105) C (Nat.le_of_ble_eq_true rfl) (Nat.le_of_ble_eq_true rfl) dX2_countIn_105 ?_
    have e10 := cnb_st (h := T 9) (q := T 7) (b := T 5) (z := T 6) (x := x) (B := B) (S := S) (i := i) (j := j) (k := 60) hN (fun t h1 h2 => (hV.2.1 t (by omega)).2.2.2.2.2.2.2.2.1 (by omega))
    exact ⟨rfl, by rw [cntM_eq, e10], rfl⟩
  · have hj := hV.2.1 j (by omega)
    refine g_aload_0 (pc := 15) C dX2_countIn_15 ?_
    refine g_get_X2_22 (pc := 16) C (by omega) dX2_countIn_16 ?_
    refine g_iload_6 (pc := 19) C dX2_countIn_19 ?_
    first | refine g_aldn_9 (pc := 21) C (by omega) (by omega) dX2_countIn_21 ?_ | refine g_ald_9 (pc := 21) C (by omega) (by omega) dX2_countIn_21 ?_
    refine g_if_eq (pc := 22) (tgt := 47) C dX2_countIn_22 (by decide) (by omega) (fun h22 => ?_) (fun h22 => ?_)
    · refine g_iconst (pc := 47) C dX2_countIn_47 ?_
      refine g_istore_7 (pc := 48) C dX2_countIn_48 ?_
      refine g_iload_5 (pc := 50) C dX2_countIn_50 ?_
      refine g_iload_7 (pc := 52) C dX2_countIn_52 ?_
      refine g_if_eq (pc := 54) (tgt := 93) C dX2_countIn_54 (by decide) (by omega) (fun h54 => ?_) (fun h54 => ?_)
      · refine g_iconst (pc := 93) C dX2_countIn_93 ?_
        refine g_iadd (pc := 94) C dX2_countIn_94 ?_
        refine g_istore_5 (pc := 95) C dX2_countIn_95 ?_
        refine g_iinc_6 (pc := 97) C dX2_countIn_97 ?_
        refine g_goto (pc := 100) (tgt := 6) C dX2_countIn_100 (by decide) ?_
        have e9 : cnb (T 9) (T 7) (T 5) (T 6) x B S i (j + 1) = cnb (T 9) (T 7) (T 5) (T 6) x B S i j := by
          show _ + ite _ _ _ = _
          rw [if_neg (by omega), Int.add_zero]
        exact g_eq rfl (by rw [Int.add_zero, ← e9]; rfl) rfl (ih _ (by omega) trivial)
      · omega
    · refine g_aload_0 (pc := 25) C dX2_countIn_25 ?_
      refine g_get_X2_16 (pc := 26) C (by omega) dX2_countIn_26 ?_
      refine g_iload_6 (pc := 29) C dX2_countIn_29 ?_
      first | refine g_aldn_7 (pc := 31) C (by omega) (by omega) dX2_countIn_31 ?_ | refine g_ald_7 (pc := 31) C (by omega) (by omega) dX2_countIn_31 ?_
      refine g_iload_1 (pc := 32) C dX2_countIn_32 ?_
      refine g_icmp_ne (pc := 33) (tgt := 47) C dX2_countIn_33 (by decide) (by omega) (by omega) (fun h33 => ?_) (fun h33 => ?_)
      · refine g_iconst (pc := 47) C dX2_countIn_47 ?_
        refine g_istore_7 (pc := 48) C dX2_countIn_48 ?_
        refine g_iload_5 (pc := 50) C dX2_countIn_50 ?_
        refine g_iload_7 (pc := 52) C dX2_countIn_52 ?_
        refine g_if_eq (pc := 54) (tgt := 93) C dX2_countIn_54 (by decide) (by omega) (fun h54 => ?_) (fun h54 => ?_)
        · refine g_iconst (pc := 93) C dX2_countIn_93 ?_
          refine g_iadd (pc := 94) C dX2_countIn_94 ?_
          refine g_istore_5 (pc := 95) C dX2_countIn_95 ?_
          refine g_iinc_6 (pc := 97) C dX2_countIn_97 ?_
          refine g_goto (pc := 100) (tgt := 6) C dX2_countIn_100 (by decide) ?_
          have e9 : cnb (T 9) (T 7) (T 5) (T 6) x B S i (j + 1) = cnb (T 9) (T 7) (T 5) (T 6) x B S i j := by
            show _ + ite _ _ _ = _
            rw [if_neg (by omega), Int.add_zero]
          exact g_eq rfl (by rw [Int.add_zero, ← e9]; rfl) rfl (ih _ (by omega) trivial)
        · omega
      · refine g_iload_6 (pc := 36) C dX2_countIn_36 ?_
        refine g_iload_4 (pc := 38) C dX2_countIn_38 ?_
        refine g_icmp_eq (pc := 40) (tgt := 47) C dX2_countIn_40 (by decide) (by omega) (by omega) (fun h40 => ?_) (fun h40 => ?_)
        · refine g_iconst (pc := 47) C dX2_countIn_47 ?_
          refine g_istore_7 (pc := 48) C dX2_countIn_48 ?_
          refine g_iload_5 (pc := 50) C dX2_countIn_50 ?_
          refine g_iload_7 (pc := 52) C dX2_countIn_52 ?_
          refine g_if_eq (pc := 54) (tgt := 93) C dX2_countIn_54 (by decide) (by omega) (fun h54 => ?_) (fun h54 => ?_)
          · refine g_iconst (pc := 93) C dX2_countIn_93 ?_
            refine g_iadd (pc := 94) C dX2_countIn_94 ?_
            refine g_istore_5 (pc := 95) C dX2_countIn_95 ?_
            refine g_iinc_6 (pc := 97) C dX2_countIn_97 ?_
            refine g_goto (pc := 100) (tgt := 6) C dX2_countIn_100 (by decide) ?_
            have e9 : cnb (T 9) (T 7) (T 5) (T 6) x B S i (j + 1) = cnb (T 9) (T 7) (T 5) (T 6) x B S i j := by
              show _ + ite _ _ _ = _
              rw [if_neg (by omega), Int.add_zero]
            exact g_eq rfl (by rw [Int.add_zero, ← e9]; rfl) rfl (ih _ (by omega) trivial)
          · omega
        · refine g_iconst (pc := 43) C dX2_countIn_43 ?_
          refine g_goto (pc := 44) (tgt := 48) C dX2_countIn_44 (by decide) ?_
          refine g_istore_7 (pc := 48) C dX2_countIn_48 ?_
          refine g_iload_5 (pc := 50) C dX2_countIn_50 ?_
          refine g_iload_7 (pc := 52) C dX2_countIn_52 ?_
          refine g_if_eq (pc := 54) (tgt := 93) C dX2_countIn_54 (by decide) (by omega) (fun h54 => ?_) (fun h54 => ?_)
          · omega
          · refine g_aload_0 (pc := 57) C dX2_countIn_57 ?_
            refine g_get_X2_7 (pc := 58) C (by omega) dX2_countIn_58 ?_
            refine g_iload_6 (pc := 61) C dX2_countIn_61 ?_
            first | refine g_aldn_5 (pc := 63) C (by omega) (by omega) dX2_countIn_63 ?_ | refine g_ald_5 (pc := 63) C (by omega) (by omega) dX2_countIn_63 ?_
            refine g_iload_2 (pc := 64) C dX2_countIn_64 ?_
            refine g_iload_3 (pc := 65) C dX2_countIn_65 ?_
            refine g_iadd (pc := 66) C dX2_countIn_66 ?_
            refine g_icmp_ge (pc := 67) (tgt := 93) C dX2_countIn_67 (by decide) (by omega) (by omega) (fun h67 => ?_) (fun h67 => ?_)
            · refine g_iconst (pc := 93) C dX2_countIn_93 ?_
              refine g_iadd (pc := 94) C dX2_countIn_94 ?_
              refine g_istore_5 (pc := 95) C dX2_countIn_95 ?_
              refine g_iinc_6 (pc := 97) C dX2_countIn_97 ?_
              refine g_goto (pc := 100) (tgt := 6) C dX2_countIn_100 (by decide) ?_
              have e9 : cnb (T 9) (T 7) (T 5) (T 6) x B S i (j + 1) = cnb (T 9) (T 7) (T 5) (T 6) x B S i j := by
                show _ + ite _ _ _ = _
                rw [if_neg (by omega), Int.add_zero]
              exact g_eq rfl (by rw [Int.add_zero, ← e9]; rfl) rfl (ih _ (by omega) trivial)
            · refine g_iload_2 (pc := 70) C dX2_countIn_70 ?_
              refine g_aload_0 (pc := 71) C dX2_countIn_71 ?_
              refine g_get_X2_7 (pc := 72) C (by omega) dX2_countIn_72 ?_
              refine g_iload_6 (pc := 75) C dX2_countIn_75 ?_
              first | refine g_aldn_5 (pc := 77) C (by omega) (by omega) dX2_countIn_77 ?_ | refine g_ald_5 (pc := 77) C (by omega) (by omega) dX2_countIn_77 ?_
              refine g_aload_0 (pc := 78) C dX2_countIn_78 ?_
              refine g_get_X2_13 (pc := 79) C (by omega) dX2_countIn_79 ?_
              refine g_iload_6 (pc := 82) C dX2_countIn_82 ?_
              first | refine g_aldn_6 (pc := 84) C (by omega) (by omega) dX2_countIn_84 ?_ | refine g_ald_6 (pc := 84) C (by omega) (by omega) dX2_countIn_84 ?_
              refine g_iadd (pc := 85) C dX2_countIn_85 ?_
              refine g_icmp_ge (pc := 86) (tgt := 93) C dX2_countIn_86 (by decide) (by omega) (by omega) (fun h86 => ?_) (fun h86 => ?_)
              · refine g_iconst (pc := 93) C dX2_countIn_93 ?_
                refine g_iadd (pc := 94) C dX2_countIn_94 ?_
                refine g_istore_5 (pc := 95) C dX2_countIn_95 ?_
                refine g_iinc_6 (pc := 97) C dX2_countIn_97 ?_
                refine g_goto (pc := 100) (tgt := 6) C dX2_countIn_100 (by decide) ?_
                have e9 : cnb (T 9) (T 7) (T 5) (T 6) x B S i (j + 1) = cnb (T 9) (T 7) (T 5) (T 6) x B S i j := by
                  show _ + ite _ _ _ = _
                  rw [if_neg (by omega), Int.add_zero]
                exact g_eq rfl (by rw [Int.add_zero, ← e9]; rfl) rfl (ih _ (by omega) trivial)
              · refine g_iconst (pc := 89) C dX2_countIn_89 ?_
                refine g_goto (pc := 90) (tgt := 94) C dX2_countIn_90 (by decide) ?_
                refine g_iadd (pc := 94) C dX2_countIn_94 ?_
                refine g_istore_5 (pc := 95) C dX2_countIn_95 ?_
                refine g_iinc_6 (pc := 97) C dX2_countIn_97 ?_
                refine g_goto (pc := 100) (tgt := 6) C dX2_countIn_100 (by decide) ?_
                have e9 : cnb (T 9) (T 7) (T 5) (T 6) x B S i (j + 1) = cnb (T 9) (T 7) (T 5) (T 6) x B S i j + 1 := by
                  show _ + ite _ _ _ = _
                  rw [if_pos (by omega)]
                exact g_eq rfl (by rw [← e9]; rfl) rfl (ih _ (by omega) trivial)
theorem k_X2_liesIn {l : Launch} {cs : CSt} {np : Nat} {ad : Nat → Nat} {T : MT} (h13 : 13 ≤ np) (hV : VM T) (x B S : Int) (hx : 0 ≤ x ∧ x < 64) (hB : 0 ≤ B ∧ B ≤ 8192 ∧ 0 ≤ S ∧ S ≤ 8192) : KD l cs yX2_liesIn (Cond.code yX2_liesIn cX2_liesIn 4 (some .boolean) :: GW) 0 0 0 [.ref (ad 4), .int (zI x), .int (zI B), .int (zI S)] np ad T 0 (some (.int (zI (bz (liM T x B S))))) (np, ad, T) := by
  have hs := hV.s hx
  refine KC_of (cc := cX2_liesIn) (nL := 4) (rt := (some .boolean)) (by decide) (by simp [grf_cat, cat_int, cat_ref]) (by simp) ?_
  intro p e s m args below meth c A C hE hin
  refine g_eq (lv2 := [some (.ref (ad 4)), some (.int (zI x)), some (.int (zI B)), some (.int (zI S))]) rfl rfl rfl ?_
  refine g_iload_2 (pc := 0) C dX2_liesIn_0 ?_
  refine g_aload_0 (pc := 1) C dX2_liesIn_1 ?_
  refine g_get_X2_7 (pc := 2) C (by omega) dX2_liesIn_2 ?_
  refine g_iload_1 (pc := 5) C dX2_liesIn_5 ?_
  first | refine g_aldn_5 (pc := 6) C (by omega) (by omega) dX2_liesIn_6 ?_ | refine g_ald_5 (pc := 6) C (by omega) (by omega) dX2_liesIn_6 ?_
  refine g_icmp_lt (pc := 7) (tgt := 33) C dX2_liesIn_7 (by decide) (by omega) (by omega) (fun h7 => ?_) (fun h7 => ?_)
  · refine g_iconst (pc := 33) C dX2_liesIn_33 ?_
    refine g_zret (pc := 34) C (by omega) (Nat.le_of_ble_eq_true rfl) (Nat.le_of_ble_eq_true rfl) dX2_liesIn_34 ?_
    exact ⟨rfl, by rw [bz_f (by omega)], rfl⟩
  · refine g_iload_2 (pc := 10) C dX2_liesIn_10 ?_
    refine g_iload_3 (pc := 11) C dX2_liesIn_11 ?_
    refine g_iadd (pc := 12) C dX2_liesIn_12 ?_
    refine g_aload_0 (pc := 13) C dX2_liesIn_13 ?_
    refine g_get_X2_7 (pc := 14) C (by omega) dX2_liesIn_14 ?_
    refine g_iload_1 (pc := 17) C dX2_liesIn_17 ?_
    first | refine g_aldn_5 (pc := 18) C (by omega) (by omega) dX2_liesIn_18 ?_ | refine g_ald_5 (pc := 18) C (by omega) (by omega) dX2_liesIn_18 ?_
    refine g_aload_0 (pc := 19) C dX2_liesIn_19 ?_
    refine g_get_X2_13 (pc := 20) C (by omega) dX2_liesIn_20 ?_
    refine g_iload_1 (pc := 23) C dX2_liesIn_23 ?_
    first | refine g_aldn_6 (pc := 24) C (by omega) (by omega) dX2_liesIn_24 ?_ | refine g_ald_6 (pc := 24) C (by omega) (by omega) dX2_liesIn_24 ?_
    refine g_iadd (pc := 25) C dX2_liesIn_25 ?_
    refine g_icmp_gt (pc := 26) (tgt := 33) C dX2_liesIn_26 (by decide) (by omega) (by omega) (fun h26 => ?_) (fun h26 => ?_)
    · refine g_iconst (pc := 33) C dX2_liesIn_33 ?_
      refine g_zret (pc := 34) C (by omega) (Nat.le_of_ble_eq_true rfl) (Nat.le_of_ble_eq_true rfl) dX2_liesIn_34 ?_
      exact ⟨rfl, by rw [bz_f (by omega)], rfl⟩
    · refine g_iconst (pc := 29) C dX2_liesIn_29 ?_
      refine g_goto (pc := 30) (tgt := 34) C dX2_liesIn_30 (by decide) ?_
      refine g_zret (pc := 34) C (by omega) (Nat.le_of_ble_eq_true rfl) (Nat.le_of_ble_eq_true rfl) dX2_liesIn_34 ?_
      exact ⟨rfl, by rw [bz_t (by omega)], rfl⟩
theorem k_X2_isFree {l : Launch} {cs : CSt} {np : Nat} {ad : Nat → Nat} {T : MT} (h13 : 13 ≤ np) (hV : VM T) (x B S : Int) (hx : 0 ≤ x ∧ x < 64) (hB : 0 ≤ B ∧ B ≤ 8192 ∧ 0 ≤ S ∧ S ≤ 8192) : KD l cs yX2_isFree (Cond.code yX2_isFree cX2_isFree 4 (some .boolean) :: GW) 1 0 0 [.ref (ad 4), .int (zI x), .int (zI B), .int (zI S)] np ad T 0 (some (.int (zI (bz (frM T x B S))))) (np, ad, T) := by
  have hc := cntM_bd T x B S (-1)
  refine KC_of (cc := cX2_isFree) (nL := 4) (rt := (some .boolean)) (by decide) (by simp [grf_cat, cat_int, cat_ref]) (by simp) ?_
  intro p e s m args below meth c A C hE hin
  refine g_eq (lv2 := [some (.ref (ad 4)), some (.int (zI x)), some (.int (zI B)), some (.int (zI S))]) rfl rfl rfl ?_
  refine g_aload_0 (pc := 0) C dX2_isFree_0 ?_
  refine g_iload_1 (pc := 1) C dX2_isFree_1 ?_
  refine g_iload_2 (pc := 2) C dX2_isFree_2 ?_
  refine g_iload_3 (pc := 3) C dX2_isFree_3 ?_
  refine g_cM3Pv (pc := 4) C cs_X2_43 (k_X2_liesIn h13 hV x B S hx hB) ⟨Nat.le_of_ble_eq_true rfl, Nat.le_of_ble_eq_true rfl⟩ (by omega) (Nat.le_of_ble_eq_true rfl) ⟨Nat.le_of_ble_eq_true rfl, Nat.le_of_ble_eq_true rfl⟩ dX2_isFree_4 ?_
  refine g_if_eq (pc := 7) (tgt := 25) C dX2_isFree_7 (by decide) (bz_rg _) (fun h7 => ?_) (fun h7 => ?_)
  · refine g_iconst (pc := 25) C dX2_isFree_25 ?_
    refine g_zret (pc := 26) C (by omega) (Nat.le_of_ble_eq_true rfl) (Nat.le_of_ble_eq_true rfl) dX2_isFree_26 ?_
    exact ⟨rfl, by rw [bz_f (fun h => bz_0 h7 h.1)], rfl⟩
  · refine g_aload_0 (pc := 10) C dX2_isFree_10 ?_
    refine g_iload_1 (pc := 11) C dX2_isFree_11 ?_
    refine g_iload_2 (pc := 12) C dX2_isFree_12 ?_
    refine g_iload_3 (pc := 13) C dX2_isFree_13 ?_
    refine g_iconst (pc := 14) C dX2_isFree_14 ?_
    refine g_cM4Pv (pc := 15) C cs_X2_46 (k_X2_countIn h13 hV x B S (-1) (by omega) hB (by omega)) ⟨Nat.le_of_ble_eq_true rfl, Nat.le_of_ble_eq_true rfl⟩ (by omega) (Nat.le_of_ble_eq_true rfl) ⟨Nat.le_of_ble_eq_true rfl, Nat.le_of_ble_eq_true rfl⟩ dX2_isFree_15 ?_
    refine g_if_ne (pc := 18) (tgt := 25) C dX2_isFree_18 (by decide) (by omega) (fun h18 => ?_) (fun h18 => ?_)
    · refine g_iconst (pc := 25) C dX2_isFree_25 ?_
      refine g_zret (pc := 26) C (by omega) (Nat.le_of_ble_eq_true rfl) (Nat.le_of_ble_eq_true rfl) dX2_isFree_26 ?_
      exact ⟨rfl, by rw [bz_f (fun h => h18 h.2)], rfl⟩
    · refine g_iconst (pc := 21) C dX2_isFree_21 ?_
      refine g_goto (pc := 22) (tgt := 26) C dX2_isFree_22 (by decide) ?_
      refine g_zret (pc := 26) C (by omega) (Nat.le_of_ble_eq_true rfl) (Nat.le_of_ble_eq_true rfl) dX2_isFree_26 ?_
      exact ⟨rfl, by rw [bz_t ⟨bz_1 h7, by omega⟩], rfl⟩
theorem md_b {B t : Int} (hB : 0 ≤ B) (ht : 0 < t) : 0 ≤ B - B % t ∧ B - B % t ≤ B := by
  have h1 := Int.emod_nonneg B (b := t) (by omega)
  have h8 := Int.ediv_nonneg (a := B) (b := t) hB (by omega)
  have h9 := Int.mul_ediv_add_emod B t
  have h10 : 0 ≤ t * (B / t) := Int.mul_nonneg (by omega) h8
  omega
theorem and_ng2 {B S : Int} (hB : 0 ≤ B ∧ B ≤ 8192) (hS : pw13 S) : zI B &&& zI (-2 * S) = zI (B - B % (2 * S)) := by
  rw [show -2 * S = -(2 * S) by omega]
  exact and_neg (by omega) (by unfold pw13 at hS; omega)
theorem k_X2_isWhole {l : Launch} {cs : CSt} {np : Nat} {ad : Nat → Nat} {T : MT} (h13 : 13 ≤ np) (hV : VM T) (x B S : Int) (hx : 0 ≤ x ∧ x < 64) (hB : 0 ≤ B ∧ B ≤ 8192) (hS : pw13 S) : KD l cs yX2_isWhole (Cond.code yX2_isWhole cX2_isWhole 5 (some .boolean) :: GW) 2 0 0 [.ref (ad 4), .int (zI x), .int (zI B), .int (zI S)] np ad T 0 (some (.int (zI (bz (whM T x B S))))) (np, ad, T) := by
  have hS2 : 1 ≤ S ∧ S ≤ 4096 := by unfold pw13 at hS; omega
  have hm := md_b (B := B) (t := 2 * S) hB.1 (by omega)
  refine KC_of (cc := cX2_isWhole) (nL := 5) (rt := (some .boolean)) (by decide) (by simp [grf_cat, cat_int, cat_ref]) (by simp) ?_
  intro p e s m args below meth c A C hE hin
  refine g_eq (lv2 := [some (.ref (ad 4)), some (.int (zI x)), some (.int (zI B)), some (.int (zI S)), none]) rfl rfl rfl ?_
  refine g_iload_2 (pc := 0) C dX2_isWhole_0 ?_
  refine g_bipush (pc := 1) C dX2_isWhole_1 (by decide) ?_
  refine g_iload_3 (pc := 3) C dX2_isWhole_3 ?_
  refine g_imul (pc := 4) C dX2_isWhole_4 ?_
  refine g_iandz (pc := 5) C dX2_isWhole_5 (and_ng2 hB hS) ?_
  refine g_istore_4 (pc := 6) C dX2_isWhole_6 ?_
  refine g_aload_0 (pc := 8) C dX2_isWhole_8 ?_
  refine g_iload_1 (pc := 9) C dX2_isWhole_9 ?_
  refine g_iload_2 (pc := 10) C dX2_isWhole_10 ?_
  refine g_iload_3 (pc := 11) C dX2_isWhole_11 ?_
  refine g_cM3Pv (pc := 12) C cs_X2_50 (k_X2_isFree h13 hV x B S hx (by omega)) ⟨Nat.le_of_ble_eq_true rfl, Nat.le_of_ble_eq_true rfl⟩ (by omega) (Nat.le_of_ble_eq_true rfl) ⟨Nat.le_of_ble_eq_true rfl, Nat.le_of_ble_eq_true rfl⟩ dX2_isWhole_12 ?_
  refine g_if_eq (pc := 15) (tgt := 35) C dX2_isWhole_15 (by decide) (bz_rg _) (fun h15 => ?_) (fun h15 => ?_)
  · refine g_iconst (pc := 35) C dX2_isWhole_35 ?_
    refine g_zret (pc := 36) C (by omega) (Nat.le_of_ble_eq_true rfl) (Nat.le_of_ble_eq_true rfl) dX2_isWhole_36 ?_
    exact ⟨rfl, by rw [bz_f (fun h => bz_0 h15 h.1)], rfl⟩
  · refine g_aload_0 (pc := 18) C dX2_isWhole_18 ?_
    refine g_iload_1 (pc := 19) C dX2_isWhole_19 ?_
    refine g_iload_4 (pc := 20) C dX2_isWhole_20 ?_
    refine g_iconst (pc := 22) C dX2_isWhole_22 ?_
    refine g_iload_3 (pc := 23) C dX2_isWhole_23 ?_
    refine g_imul (pc := 24) C dX2_isWhole_24 ?_
    refine g_cM3Pv (pc := 25) C cs_X2_50 (k_X2_isFree h13 hV x (B - B % (2 * S)) (2 * S) hx (by omega)) ⟨Nat.le_of_ble_eq_true rfl, Nat.le_of_ble_eq_true rfl⟩ (by omega) (Nat.le_of_ble_eq_true rfl) ⟨Nat.le_of_ble_eq_true rfl, Nat.le_of_ble_eq_true rfl⟩ dX2_isWhole_25 ?_
    refine g_if_ne (pc := 28) (tgt := 35) C dX2_isWhole_28 (by decide) (bz_rg _) (fun h28 => ?_) (fun h28 => ?_)
    · refine g_iconst (pc := 35) C dX2_isWhole_35 ?_
      refine g_zret (pc := 36) C (by omega) (Nat.le_of_ble_eq_true rfl) (Nat.le_of_ble_eq_true rfl) dX2_isWhole_36 ?_
      exact ⟨rfl, by rw [bz_f (fun h => h.2 (bz_1 h28))], rfl⟩
    · refine g_iconst (pc := 31) C dX2_isWhole_31 ?_
      refine g_goto (pc := 32) (tgt := 36) C dX2_isWhole_32 (by decide) ?_
      refine g_zret (pc := 36) C (by omega) (Nat.le_of_ble_eq_true rfl) (Nat.le_of_ble_eq_true rfl) dX2_isWhole_36 ?_
      exact ⟨rfl, by rw [bz_t ⟨bz_1 h15, bz_0 (by omega)⟩], rfl⟩
theorem k_X2_lentIn {l : Launch} {cs : CSt} {np : Nat} {ad : Nat → Nat} {T : MT} (h13 : 13 ≤ np) (hV : VM T) (B S : Int) (hB : 0 ≤ B ∧ 0 ≤ S ∧ B + S ≤ 4096) : KD l cs yX2_lentIn (Cond.code yX2_lentIn cX2_lentIn 5 (some .int) :: GW) 0 0 0 [.ref (ad 4), .int (zI B), .int (zI S)] np ad T 0 (some (.int (zI (lnM T B S)))) (np, ad, T) := by
  refine KC_of (cc := cX2_lentIn) (nL := 5) (rt := (some .int)) (by decide) (by simp [grf_cat, cat_int, cat_ref]) (by simp) ?_
  intro p e s m args below meth c A C hE hin
  refine g_eq (lv2 := [some (.ref (ad 4)), some (.int (zI B)), some (.int (zI S)), none, none]) rfl rfl rfl ?_
  refine g_iconst (pc := 0) C dX2_lentIn_0 ?_
  refine g_istore_3 (pc := 1) C dX2_lentIn_1 ?_
  refine g_iload_1 (pc := 2) C dX2_lentIn_2 ?_
  refine g_istore_4 (pc := 3) C dX2_lentIn_3 ?_
  refine g_eq (lv2 := [some (.ref (ad 4)), some (.int (zI B)), some (.int (zI S)), some (.int (zI (lnt (T 10) B.toNat 0))), some (.int (zI (B + (0 : Nat))))]) rfl (by rw [Int.natCast_zero, Int.add_zero]; rfl) rfl ?_
  refine g_loop (σ := Unit) (Tf := fun _ _ => T) (lvf := fun j _ => [some (.ref (ad 4)), some (.int (zI B)), some (.int (zI S)), some (.int (zI (lnt (T 10) B.toNat j))), some (.int (zI (B + (j : Int))))]) (inv := fun j _ => (j : Int) ≤ S) (N := 4096) 0 () (by omega) (by omega) (fun j _ hj hN ih => ?_)
  refine g_iload_4 (pc := 5) C dX2_lentIn_5 ?_
  refine g_iload_1 (pc := 7) C dX2_lentIn_7 ?_
  refine g_iload_2 (pc := 8) C dX2_lentIn_8 ?_
  refine g_iadd (pc := 9) C dX2_lentIn_9 ?_
  refine g_icmp_ge (pc := 10) (tgt := 37) C dX2_lentIn_10 (by decide) (by omega) (by omega) (fun h10 => ?_) (fun h10 => ?_)
  · refine g_iload_3 (pc := 37) C dX2_lentIn_37 ?_
    refine g_iret (pc := 38) C (Nat.le_of_ble_eq_true rfl) (Nat.le_of_ble_eq_true rfl) dX2_lentIn_38 ?_
    obtain rfl : j = S.toNat := by omega
    exact ⟨rfl, by rw [lnM_eq], rfl⟩
  · have e9 : lnt (T 10) B.toNat (j + 1) = lnt (T 10) B.toNat j + (if T 10 (B.toNat + j) ≠ 0 then 1 else 0) := rfl
    have e8 : (B + (j : Int)).toNat = B.toNat + j := by omega
    have hj2 := hV.2.2 (B.toNat + j) (by omega)
    refine g_iload_3 (pc := 13) C dX2_lentIn_13 ?_
    refine g_aload_0 (pc := 14) C dX2_lentIn_14 ?_
    refine g_get_X2_30 (pc := 15) C (by omega) dX2_lentIn_15 ?_
    refine g_iload_4 (pc := 18) C dX2_lentIn_18 ?_
    first | refine g_aldn_10 (pc := 20) C (by omega) (by omega) dX2_lentIn_20 ?_ | refine g_ald_10 (pc := 20) C (by omega) (by omega) dX2_lentIn_20 ?_
    rw [e8]
    refine g_if_ne (pc := 21) (tgt := 28) C dX2_lentIn_21 (by decide) (by omega) (fun h21 => ?_) (fun h21 => ?_)
    · refine g_iconst (pc := 28) C dX2_lentIn_28 ?_
      refine g_iadd (pc := 29) C dX2_lentIn_29 ?_
      refine g_istore_3 (pc := 30) C dX2_lentIn_30 ?_
      refine g_iinc_4 (pc := 31) C dX2_lentIn_31 ?_
      refine g_goto (pc := 34) (tgt := 5) C dX2_lentIn_34 (by decide) ?_
      rw [if_pos (by omega)] at e9
      exact g_eq rfl (by rw [e9, Int.add_assoc B]; rfl) rfl (ih () (by omega) (by omega))
    · refine g_iconst (pc := 24) C dX2_lentIn_24 ?_
      refine g_goto (pc := 25) (tgt := 29) C dX2_lentIn_25 (by decide) ?_
      refine g_iadd (pc := 29) C dX2_lentIn_29 ?_
      refine g_istore_3 (pc := 30) C dX2_lentIn_30 ?_
      refine g_iinc_4 (pc := 31) C dX2_lentIn_31 ?_
      refine g_goto (pc := 34) (tgt := 5) C dX2_lentIn_34 (by decide) ?_
      rw [if_neg (by omega)] at e9
      exact g_eq rfl (by rw [e9, Int.add_assoc B]; rfl) rfl (ih () (by omega) (by omega))
theorem k_X2_hasSpans {l : Launch} {cs : CSt} {np : Nat} {ad : Nat → Nat} {T : MT} (h13 : 13 ≤ np) (hV : VM T) (x : Int) (hx : 0 ≤ x ∧ x < 64) : KD l cs yX2_hasSpans (Cond.code yX2_hasSpans cX2_hasSpans 2 (some .boolean) :: GW) 1 0 0 [.ref (ad 4), .int (zI x)] np ad T 0 (some (.int (zI (bz (hsM T x))))) (np, ad, T) := by
  have hs := hV.s hx
  have hc := cntM_bd T x (T 5 x.toNat) (T 6 x.toNat) (-1)
  refine KC_of (cc := cX2_hasSpans) (nL := 2) (rt := (some .boolean)) (by decide) (by simp [grf_cat, cat_int, cat_ref]) (by simp) ?_
  intro p e s m args below meth c A C hE hin
  refine g_eq (lv2 := [some (.ref (ad 4)), some (.int (zI x))]) rfl rfl rfl ?_
  refine g_aload_0 (pc := 0) C dX2_hasSpans_0 ?_
  refine g_iload_1 (pc := 1) C dX2_hasSpans_1 ?_
  refine g_aload_0 (pc := 2) C dX2_hasSpans_2 ?_
  refine g_get_X2_7 (pc := 3) C (by omega) dX2_hasSpans_3 ?_
  refine g_iload_1 (pc := 6) C dX2_hasSpans_6 ?_
  first | refine g_aldn_5 (pc := 7) C (by omega) (by omega) dX2_hasSpans_7 ?_ | refine g_ald_5 (pc := 7) C (by omega) (by omega) dX2_hasSpans_7 ?_
  refine g_aload_0 (pc := 8) C dX2_hasSpans_8 ?_
  refine g_get_X2_13 (pc := 9) C (by omega) dX2_hasSpans_9 ?_
  refine g_iload_1 (pc := 12) C dX2_hasSpans_12 ?_
  first | refine g_aldn_6 (pc := 13) C (by omega) (by omega) dX2_hasSpans_13 ?_ | refine g_ald_6 (pc := 13) C (by omega) (by omega) dX2_hasSpans_13 ?_
  refine g_iconst (pc := 14) C dX2_hasSpans_14 ?_
  refine g_cM4Pv (pc := 15) C cs_X2_46 (k_X2_countIn h13 hV x _ _ (-1) (by omega) (by omega) (by omega)) ⟨Nat.le_of_ble_eq_true rfl, Nat.le_of_ble_eq_true rfl⟩ (by omega) (Nat.le_of_ble_eq_true rfl) ⟨Nat.le_of_ble_eq_true rfl, Nat.le_of_ble_eq_true rfl⟩ dX2_hasSpans_15 ?_
  refine g_if_le (pc := 18) (tgt := 25) C dX2_hasSpans_18 (by decide) (by omega) (fun h18 => ?_) (fun h18 => ?_)
  · refine g_iconst (pc := 25) C dX2_hasSpans_25 ?_
    refine g_zret (pc := 26) C (by omega) (Nat.le_of_ble_eq_true rfl) (Nat.le_of_ble_eq_true rfl) dX2_hasSpans_26 ?_
    exact ⟨rfl, by rw [bz_f (by unfold hsM; omega)], rfl⟩
  · refine g_iconst (pc := 21) C dX2_hasSpans_21 ?_
    refine g_goto (pc := 22) (tgt := 26) C dX2_hasSpans_22 (by decide) ?_
    refine g_zret (pc := 26) C (by omega) (Nat.le_of_ble_eq_true rfl) (Nat.le_of_ble_eq_true rfl) dX2_hasSpans_26 ?_
    exact ⟨rfl, by rw [bz_t (by unfold hsM; omega)], rfl⟩
theorem k_X2_isClosed {l : Launch} {cs : CSt} {np : Nat} {ad : Nat → Nat} {T : MT} (h13 : 13 ≤ np) (hV : VM T) (x S : Int) (hx : 0 ≤ x ∧ x < 64) (hS : -2147483648 ≤ S ∧ S < 2147483648) : KD l cs yX2_isClosed (Cond.code yX2_isClosed cX2_isClosed 4 (some .boolean) :: GW) 2 0 0 [.ref (ad 4), .int (zI x), .int (zI S)] np ad T 0 (some (.int (zI (bz (clM T x S))))) (np, ad, T) := by
  have hs := hV.s hx
  have hV0 := hV.1
  have hl := lnM_bd T (T 5 x.toNat) (T 6 x.toNat)
  refine KC_of (cc := cX2_isClosed) (nL := 4) (rt := (some .boolean)) (by decide) (by simp [grf_cat, cat_int, cat_ref]) (by simp) ?_
  intro p e s m args below meth c A C hE hin
  refine g_eq (lv2 := [some (.ref (ad 4)), some (.int (zI x)), some (.int (zI S)), none]) rfl rfl rfl ?_
  refine g_aload_0 (pc := 0) C dX2_isClosed_0 ?_
  refine g_iload_1 (pc := 1) C dX2_isClosed_1 ?_
  refine g_cM1Pv (pc := 2) C cs_X2_56 (k_X2_hasSpans h13 hV x hx) ⟨Nat.le_of_ble_eq_true rfl, Nat.le_of_ble_eq_true rfl⟩ (by omega) (Nat.le_of_ble_eq_true rfl) ⟨Nat.le_of_ble_eq_true rfl, Nat.le_of_ble_eq_true rfl⟩ dX2_isClosed_2 ?_
  refine g_if_ne (pc := 5) (tgt := 31) C dX2_isClosed_5 (by decide) (bz_rg _) (fun h5 => ?_) (fun h5 => ?_)
  · have q1 := bz_1 h5
    refine g_iconst (pc := 31) C dX2_isClosed_31 ?_
    refine g_istore_3 (pc := 32) C dX2_isClosed_32 ?_
    refine g_aload_0 (pc := 33) C dX2_isClosed_33 ?_
    refine g_get_X2_26 (pc := 34) C (by omega) dX2_isClosed_34 ?_
    refine g_bipush (pc := 37) C dX2_isClosed_37 (by decide) ?_
    refine g_icmp_eq (pc := 39) (tgt := 56) C dX2_isClosed_39 (by decide) (by omega) (by omega) (fun h39 => ?_) (fun h39 => ?_)
    · refine g_iconst (pc := 56) C dX2_isClosed_56 ?_
      refine g_goto (pc := 57) (tgt := 61) C dX2_isClosed_57 (by decide) ?_
      refine g_zret (pc := 61) C (by omega) (Nat.le_of_ble_eq_true rfl) (Nat.le_of_ble_eq_true rfl) dX2_isClosed_61 ?_
      exact ⟨rfl, by rw [bz_t (Or.inl (by omega))], rfl⟩
    · refine g_iload_3 (pc := 42) C dX2_isClosed_42 ?_
      refine g_if_ne (pc := 43) (tgt := 56) C dX2_isClosed_43 (by decide) (by omega) (fun h43 => ?_) (fun h43 => ?_)
      · omega
      · refine g_iload_2 (pc := 46) C dX2_isClosed_46 ?_
        refine g_aload_0 (pc := 47) C dX2_isClosed_47 ?_
        refine g_get_X2_13 (pc := 48) C (by omega) dX2_isClosed_48 ?_
        refine g_iload_1 (pc := 51) C dX2_isClosed_51 ?_
        first | refine g_aldn_6 (pc := 52) C (by omega) (by omega) dX2_isClosed_52 ?_ | refine g_ald_6 (pc := 52) C (by omega) (by omega) dX2_isClosed_52 ?_
        refine g_icmp_lt (pc := 53) (tgt := 60) C dX2_isClosed_53 (by decide) (by omega) (by omega) (fun h53 => ?_) (fun h53 => ?_)
        · refine g_iconst (pc := 60) C dX2_isClosed_60 ?_
          refine g_zret (pc := 61) C (by omega) (Nat.le_of_ble_eq_true rfl) (Nat.le_of_ble_eq_true rfl) dX2_isClosed_61 ?_
          exact ⟨rfl, by rw [bz_f (by rintro (h | h | h); omega; exact h.1 q1; omega)], rfl⟩
        · refine g_iconst (pc := 56) C dX2_isClosed_56 ?_
          refine g_goto (pc := 57) (tgt := 61) C dX2_isClosed_57 (by decide) ?_
          refine g_zret (pc := 61) C (by omega) (Nat.le_of_ble_eq_true rfl) (Nat.le_of_ble_eq_true rfl) dX2_isClosed_61 ?_
          exact ⟨rfl, by rw [bz_t (Or.inr (Or.inr (by omega)))], rfl⟩
  · have q1 := bz_0 h5
    refine g_aload_0 (pc := 8) C dX2_isClosed_8 ?_
    refine g_aload_0 (pc := 9) C dX2_isClosed_9 ?_
    refine g_get_X2_7 (pc := 10) C (by omega) dX2_isClosed_10 ?_
    refine g_iload_1 (pc := 13) C dX2_isClosed_13 ?_
    first | refine g_aldn_5 (pc := 14) C (by omega) (by omega) dX2_isClosed_14 ?_ | refine g_ald_5 (pc := 14) C (by omega) (by omega) dX2_isClosed_14 ?_
    refine g_aload_0 (pc := 15) C dX2_isClosed_15 ?_
    refine g_get_X2_13 (pc := 16) C (by omega) dX2_isClosed_16 ?_
    refine g_iload_1 (pc := 19) C dX2_isClosed_19 ?_
    first | refine g_aldn_6 (pc := 20) C (by omega) (by omega) dX2_isClosed_20 ?_ | refine g_ald_6 (pc := 20) C (by omega) (by omega) dX2_isClosed_20 ?_
    refine g_cM2Pv (pc := 21) C cs_X2_60 (k_X2_lentIn h13 hV _ _ (by omega)) ⟨Nat.le_of_ble_eq_true rfl, Nat.le_of_ble_eq_true rfl⟩ (by omega) (Nat.le_of_ble_eq_true rfl) ⟨Nat.le_of_ble_eq_true rfl, Nat.le_of_ble_eq_true rfl⟩ dX2_isClosed_21 ?_
    refine g_if_le (pc := 24) (tgt := 31) C dX2_isClosed_24 (by decide) (by omega) (fun h24 => ?_) (fun h24 => ?_)
    · refine g_iconst (pc := 31) C dX2_isClosed_31 ?_
      refine g_istore_3 (pc := 32) C dX2_isClosed_32 ?_
      refine g_aload_0 (pc := 33) C dX2_isClosed_33 ?_
      refine g_get_X2_26 (pc := 34) C (by omega) dX2_isClosed_34 ?_
      refine g_bipush (pc := 37) C dX2_isClosed_37 (by decide) ?_
      refine g_icmp_eq (pc := 39) (tgt := 56) C dX2_isClosed_39 (by decide) (by omega) (by omega) (fun h39 => ?_) (fun h39 => ?_)
      · refine g_iconst (pc := 56) C dX2_isClosed_56 ?_
        refine g_goto (pc := 57) (tgt := 61) C dX2_isClosed_57 (by decide) ?_
        refine g_zret (pc := 61) C (by omega) (Nat.le_of_ble_eq_true rfl) (Nat.le_of_ble_eq_true rfl) dX2_isClosed_61 ?_
        exact ⟨rfl, by rw [bz_t (Or.inl (by omega))], rfl⟩
      · refine g_iload_3 (pc := 42) C dX2_isClosed_42 ?_
        refine g_if_ne (pc := 43) (tgt := 56) C dX2_isClosed_43 (by decide) (by omega) (fun h43 => ?_) (fun h43 => ?_)
        · omega
        · refine g_iload_2 (pc := 46) C dX2_isClosed_46 ?_
          refine g_aload_0 (pc := 47) C dX2_isClosed_47 ?_
          refine g_get_X2_13 (pc := 48) C (by omega) dX2_isClosed_48 ?_
          refine g_iload_1 (pc := 51) C dX2_isClosed_51 ?_
          first | refine g_aldn_6 (pc := 52) C (by omega) (by omega) dX2_isClosed_52 ?_ | refine g_ald_6 (pc := 52) C (by omega) (by omega) dX2_isClosed_52 ?_
          refine g_icmp_lt (pc := 53) (tgt := 60) C dX2_isClosed_53 (by decide) (by omega) (by omega) (fun h53 => ?_) (fun h53 => ?_)
          · refine g_iconst (pc := 60) C dX2_isClosed_60 ?_
            refine g_zret (pc := 61) C (by omega) (Nat.le_of_ble_eq_true rfl) (Nat.le_of_ble_eq_true rfl) dX2_isClosed_61 ?_
            exact ⟨rfl, by rw [bz_f (by rintro (h | h | h) <;> omega)], rfl⟩
          · refine g_iconst (pc := 56) C dX2_isClosed_56 ?_
            refine g_goto (pc := 57) (tgt := 61) C dX2_isClosed_57 (by decide) ?_
            refine g_zret (pc := 61) C (by omega) (Nat.le_of_ble_eq_true rfl) (Nat.le_of_ble_eq_true rfl) dX2_isClosed_61 ?_
            exact ⟨rfl, by rw [bz_t (Or.inr (Or.inr (by omega)))], rfl⟩
    · refine g_iconst (pc := 27) C dX2_isClosed_27 ?_
      refine g_goto (pc := 28) (tgt := 32) C dX2_isClosed_28 (by decide) ?_
      refine g_istore_3 (pc := 32) C dX2_isClosed_32 ?_
      refine g_aload_0 (pc := 33) C dX2_isClosed_33 ?_
      refine g_get_X2_26 (pc := 34) C (by omega) dX2_isClosed_34 ?_
      refine g_bipush (pc := 37) C dX2_isClosed_37 (by decide) ?_
      refine g_icmp_eq (pc := 39) (tgt := 56) C dX2_isClosed_39 (by decide) (by omega) (by omega) (fun h39 => ?_) (fun h39 => ?_)
      · refine g_iconst (pc := 56) C dX2_isClosed_56 ?_
        refine g_goto (pc := 57) (tgt := 61) C dX2_isClosed_57 (by decide) ?_
        refine g_zret (pc := 61) C (by omega) (Nat.le_of_ble_eq_true rfl) (Nat.le_of_ble_eq_true rfl) dX2_isClosed_61 ?_
        exact ⟨rfl, by rw [bz_t (Or.inl (by omega))], rfl⟩
      · refine g_iload_3 (pc := 42) C dX2_isClosed_42 ?_
        refine g_if_ne (pc := 43) (tgt := 56) C dX2_isClosed_43 (by decide) (by omega) (fun h43 => ?_) (fun h43 => ?_)
        · refine g_iconst (pc := 56) C dX2_isClosed_56 ?_
          refine g_goto (pc := 57) (tgt := 61) C dX2_isClosed_57 (by decide) ?_
          refine g_zret (pc := 61) C (by omega) (Nat.le_of_ble_eq_true rfl) (Nat.le_of_ble_eq_true rfl) dX2_isClosed_61 ?_
          exact ⟨rfl, by rw [bz_t (Or.inr (Or.inl ⟨q1, by omega⟩))], rfl⟩
        · omega
theorem k_X2_make {l : Launch} {cs : CSt} {np : Nat} {ad : Nat → Nat} {T : MT} (h13 : 13 ≤ np) (hV : VM T) (p_ B S o : Int) (hm : T 4 6 < 60) : KD l cs yX2_make (Cond.code yX2_make cX2_make 5 (some .int) :: GW) 0 0 0 [.ref (ad 4), .int (zI p_), .int (zI B), .int (zI S), .int (zI o)] np ad T 0 (some (.int (zI (T 4 6)))) (np, ad, mkM T (T 4 6).toNat p_ B S o) := by
  have hV0 := hV.1
  have e0 : ∀ r v, r ≠ 4 → mst T r (T 4 6).toNat v 4 6 = T 4 6 := fun r v h => mst_r (by omega)
  refine KC_of (cc := cX2_make) (nL := 5) (rt := (some .int)) (by decide) (by simp [grf_cat, cat_int, cat_ref]) (by simp) ?_
  intro p e s m args below meth c A C hE hin
  refine g_eq (lv2 := [some (.ref (ad 4)), some (.int (zI p_)), some (.int (zI B)), some (.int (zI S)), some (.int (zI o))]) rfl rfl rfl ?_
  refine g_aload_0 (pc := 0) C dX2_make_0 ?_
  refine g_get_X2_7 (pc := 1) C (by omega) dX2_make_1 ?_
  refine g_aload_0 (pc := 4) C dX2_make_4 ?_
  refine g_get_X2_26 (pc := 5) C (by omega) dX2_make_5 ?_
  refine g_iload_2 (pc := 8) C dX2_make_8 ?_
  first | refine g_astn_5 (pc := 9) C (by omega) (by omega) dX2_make_9 ?_ | refine g_ast_5 (pc := 9) C (by omega) (by omega) dX2_make_9 ?_
  refine g_aload_0 (pc := 10) C dX2_make_10 ?_
  refine g_get_X2_13 (pc := 11) C (by omega) dX2_make_11 ?_
  refine g_aload_0 (pc := 14) C dX2_make_14 ?_
  refine g_get_X2_26 (pc := 15) C (by omega) dX2_make_15 ?_
  rw [mst_r (by decide)]
  refine g_iload_3 (pc := 18) C dX2_make_18 ?_
  first | refine g_astn_6 (pc := 19) C (by omega) (by omega) dX2_make_19 ?_ | refine g_ast_6 (pc := 19) C (by omega) (by omega) dX2_make_19 ?_
  refine g_aload_0 (pc := 20) C dX2_make_20 ?_
  refine g_get_X2_16 (pc := 21) C (by omega) dX2_make_21 ?_
  refine g_aload_0 (pc := 24) C dX2_make_24 ?_
  refine g_get_X2_26 (pc := 25) C (by omega) dX2_make_25 ?_
  rw [mst_r (by decide), mst_r (by decide)]
  refine g_iload_1 (pc := 28) C dX2_make_28 ?_
  first | refine g_astn_7 (pc := 29) C (by omega) (by omega) dX2_make_29 ?_ | refine g_ast_7 (pc := 29) C (by omega) (by omega) dX2_make_29 ?_
  refine g_aload_0 (pc := 30) C dX2_make_30 ?_
  refine g_get_X2_19 (pc := 31) C (by omega) dX2_make_31 ?_
  refine g_aload_0 (pc := 34) C dX2_make_34 ?_
  refine g_get_X2_26 (pc := 35) C (by omega) dX2_make_35 ?_
  rw [mst_r (by decide), mst_r (by decide), mst_r (by decide)]
  refine g_iload_4 (pc := 38) C dX2_make_38 ?_
  first | refine g_astn_8 (pc := 40) C (by omega) (by omega) dX2_make_40 ?_ | refine g_ast_8 (pc := 40) C (by omega) (by omega) dX2_make_40 ?_
  refine g_aload_0 (pc := 41) C dX2_make_41 ?_
  refine g_get_X2_22 (pc := 42) C (by omega) dX2_make_42 ?_
  refine g_aload_0 (pc := 45) C dX2_make_45 ?_
  refine g_get_X2_26 (pc := 46) C (by omega) dX2_make_46 ?_
  rw [mst_r (by decide), mst_r (by decide), mst_r (by decide), mst_r (by decide)]
  refine g_iconst (pc := 49) C dX2_make_49 ?_
  first | refine g_astn_9 (pc := 50) C (by omega) (by omega) (by omega) dX2_make_50 ?_ | refine g_ast_9 (pc := 50) C (by omega) (by omega) (by omega) dX2_make_50 ?_
  refine g_aload_0 (pc := 51) C dX2_make_51 ?_
  refine g_dup (pc := 52) C dX2_make_52 rfl ?_
  refine g_get_X2_26 (pc := 53) C (by omega) dX2_make_53 ?_
  rw [mst_r (by decide), mst_r (by decide), mst_r (by decide), mst_r (by decide), mst_r (by decide)]
  refine g_iconst (pc := 56) C dX2_make_56 ?_
  refine g_iadd (pc := 57) C dX2_make_57 ?_
  refine g_put_X2_26 (pc := 58) C (by omega) dX2_make_58 ?_
  refine g_aload_0 (pc := 61) C dX2_make_61 ?_
  refine g_get_X2_26 (pc := 62) C (by omega) dX2_make_62 ?_
  rw [mst_eq]
  refine g_iconst (pc := 65) C dX2_make_65 ?_
  refine g_isub (pc := 66) C dX2_make_66 ?_
  refine g_iret (pc := 67) C (Nat.le_of_ble_eq_true rfl) (Nat.le_of_ble_eq_true rfl) dX2_make_67 ?_
  exact ⟨rfl, by rw [Int.add_sub_cancel], by unfold mkM; rw [Int.toNat_of_nonneg (by omega)]⟩
