/-! the model: lend, takeBack, pass, and what is asked -/
noncomputable def lwM (T : MT) (x : Int) : Int := hid (lwf (T 10) (T 5 x.toNat).toNat (T 6 x.toNat).toNat)
theorem lwM_eq (T : MT) (x : Int) : lwM T x = lwf (T 10) (T 5 x.toNat).toNat (T 6 x.toNat).toNat := hid_eq _
theorem lwM_bd {T : MT} (hV : VM T) {x : Int} (hx : 0 ≤ x ∧ x < 64) : -1 ≤ lwM T x ∧ lwM T x < 4096 := by
  have hs := hV.s hx
  have := lwf_bd (T 10) (T 5 x.toNat).toNat (T 6 x.toNat).toNat
  rw [lwM_eq]
  omega
theorem k_X2_lowestFree {l : Launch} {cs : CSt} {np : Nat} {ad : Nat → Nat} {T : MT} (h13 : 13 ≤ np) (hV : VM T) (x : Int) (hx : 0 ≤ x ∧ x < 64) : KD l cs yX2_lowestFree (Cond.code yX2_lowestFree cX2_lowestFree 3 (some .int) :: GW) 0 0 0 [.ref (ad 4), .int (zI x)] np ad T 0 (some (.int (zI (lwM T x)))) (np, ad, T) := by
  have hs := hV.s hx
  refine KC_of (cc := cX2_lowestFree) (nL := 3) (rt := (some .int)) (by decide) (by simp [grf_cat, cat_int, cat_ref]) (by simp) ?_
  intro p e s m args below meth c A C hE hin
  refine g_eq (lv2 := [some (.ref (ad 4)), some (.int (zI x)), none]) rfl rfl rfl ?_
  refine g_aload_0 (pc := 0) C dX2_lowestFree_0 ?_
  refine g_get_X2_7 (pc := 1) C (by omega) dX2_lowestFree_1 ?_
  refine g_iload_1 (pc := 4) C dX2_lowestFree_4 ?_
  first | refine g_aldn_5 (pc := 5) C (by omega) (by omega) dX2_lowestFree_5 ?_ | refine g_ald_5 (pc := 5) C (by omega) (by omega) dX2_lowestFree_5 ?_
  refine g_istore_2 (pc := 6) C dX2_lowestFree_6 ?_
  refine g_eq (lv2 := [some (.ref (ad 4)), some (.int (zI x)), some (.int (zI (T 5 x.toNat + (0 : Nat))))]) rfl (by rw [Int.natCast_zero, Int.add_zero]) rfl ?_
  refine g_loop (σ := Unit) (Tf := fun _ _ => T) (lvf := fun j _ => [some (.ref (ad 4)), some (.int (zI x)), some (.int (zI (T 5 x.toNat + (j : Int))))]) (inv := fun j _ => (j : Int) ≤ T 6 x.toNat ∧ lwf (T 10) (T 5 x.toNat).toNat j = -1) (N := 4096) 0 () ⟨by omega, rfl⟩ (by omega) (fun j _ hi hN ih => ?_)
  obtain ⟨h1, h2⟩ := hi
  have e9 : lwf (T 10) (T 5 x.toNat).toNat (j + 1) = if 0 ≤ lwf (T 10) (T 5 x.toNat).toNat j then lwf (T 10) (T 5 x.toNat).toNat j else if T 10 ((T 5 x.toNat).toNat + j) = 0 then ((T 5 x.toNat).toNat : Int) + j else -1 := rfl
  rw [if_neg (by omega)] at e9
  have e8 : (T 5 x.toNat + (j : Int)).toNat = (T 5 x.toNat).toNat + j := by omega
  refine g_iload_2 (pc := 7) C dX2_lowestFree_7 ?_
  refine g_aload_0 (pc := 8) C dX2_lowestFree_8 ?_
  refine g_get_X2_7 (pc := 9) C (by omega) dX2_lowestFree_9 ?_
  refine g_iload_1 (pc := 12) C dX2_lowestFree_12 ?_
  first | refine g_aldn_5 (pc := 13) C (by omega) (by omega) dX2_lowestFree_13 ?_ | refine g_ald_5 (pc := 13) C (by omega) (by omega) dX2_lowestFree_13 ?_
  refine g_aload_0 (pc := 14) C dX2_lowestFree_14 ?_
  refine g_get_X2_13 (pc := 15) C (by omega) dX2_lowestFree_15 ?_
  refine g_iload_1 (pc := 18) C dX2_lowestFree_18 ?_
  first | refine g_aldn_6 (pc := 19) C (by omega) (by omega) dX2_lowestFree_19 ?_ | refine g_ald_6 (pc := 19) C (by omega) (by omega) dX2_lowestFree_19 ?_
  refine g_iadd (pc := 20) C dX2_lowestFree_20 ?_
  refine g_icmp_ge (pc := 21) (tgt := 41) C dX2_lowestFree_21 (by decide) (by omega) (by omega) (fun h21 => ?_) (fun h21 => ?_)
  · refine g_iconst (pc := 41) C dX2_lowestFree_41 ?_
    refine g_iret (pc := 42) C (Nat.le_of_ble_eq_true rfl) (Nat.le_of_ble_eq_true rfl) dX2_lowestFree_42 ?_
    obtain rfl : j = (T 6 x.toNat).toNat := by omega
    exact ⟨rfl, by rw [lwM_eq, h2], rfl⟩
  · have hj2 := hV.2.2 ((T 5 x.toNat).toNat + j) (by omega)
    refine g_aload_0 (pc := 24) C dX2_lowestFree_24 ?_
    refine g_get_X2_30 (pc := 25) C (by omega) dX2_lowestFree_25 ?_
    refine g_iload_2 (pc := 28) C dX2_lowestFree_28 ?_
    first | refine g_aldn_10 (pc := 29) C (by omega) (by omega) dX2_lowestFree_29 ?_ | refine g_ald_10 (pc := 29) C (by omega) (by omega) dX2_lowestFree_29 ?_
    rw [e8]
    refine g_if_ne (pc := 30) (tgt := 35) C dX2_lowestFree_30 (by decide) (by omega) (fun h30 => ?_) (fun h30 => ?_)
    · refine g_iinc_2 (pc := 35) C dX2_lowestFree_35 ?_
      refine g_goto (pc := 38) (tgt := 7) C dX2_lowestFree_38 (by decide) ?_
      rw [if_neg (by omega)] at e9
      exact g_eq rfl (by rw [Int.add_assoc]; rfl) rfl (ih () (by omega) ⟨by omega, e9⟩)
    · refine g_iload_2 (pc := 33) C dX2_lowestFree_33 ?_
      refine g_iret (pc := 34) C (Nat.le_of_ble_eq_true rfl) (Nat.le_of_ble_eq_true rfl) dX2_lowestFree_34 ?_
      rw [if_pos (by omega)] at e9
      have e10 : ∀ k, j + 1 ≤ k → lwf (T 10) (T 5 x.toNat).toNat k = lwf (T 10) (T 5 x.toNat).toNat (j + 1) := by
        intro k hk
        induction k with
        | zero => omega
        | succ k ihk =>
          by_cases e : j = k
          · rw [e]
          · have h9 := ihk (by omega)
            show ite _ _ _ = _
            rw [if_pos (by rw [h9, e9]; omega), h9]
      exact ⟨rfl, by rw [lwM_eq, e10 _ (by omega), e9, Int.toNat_of_nonneg (by omega)], rfl⟩
noncomputable def exMl (T : MT) (a d : Int) : Int := if ¬ isM T a then 1 else if ¬ (0 ≤ d ∧ d ≤ 100) then 2 else if hsM T a ∨ 200 ≤ T 4 8 ∨ lwM T a = -1 then 3 else 0
theorem k_X2_lend {l : Launch} {cs : CSt} {np : Nat} {ad : Nat → Nat} {T : MT} (h13 : 13 ≤ np) (hV : VM T) (a d : Int) (ha : -2147483648 ≤ a ∧ a < 2147483648) (hd : -2147483648 ≤ d ∧ d < 2147483648) : KD l cs yX2_lend (Cond.code yX2_lend cX2_lend 5 (some .int) :: GW) 2 0 0 [.ref (ad 4), .int (zI a), .int (zI d)] np ad T 0 (some (.int (zI (if exMl T a d = 0 then lwM T a else 0)))) (np, ad, if exMl T a d = 0 then mst (mst (mst T 4 0 0) 10 (lwM T a).toNat (if d = 0 then -1 else T 4 9 + d)) 4 8 (T 4 8 + 1) else mst T 4 0 (exMl T a d)) := by
  have hV0 := hV.1
  have b10 : bz ((1 : Int) = 0) = 0 := bz_f (by decide)
  have b20 : bz ((2 : Int) = 0) = 0 := bz_f (by decide)
  have b30 : bz ((3 : Int) = 0) = 0 := bz_f (by decide)
  have b00 : bz ((0 : Int) = 0) = 1 := bz_t (by decide)
  refine KC_of (cc := cX2_lend) (nL := 5) (rt := (some .int)) (by decide) (by simp [grf_cat, cat_int, cat_ref]) (by simp) ?_
  intro p e s m args below meth c A C hE hin
  refine g_eq (lv2 := [some (.ref (ad 4)), some (.int (zI a)), some (.int (zI d)), none, none]) rfl rfl rfl ?_
  by_cases hM : isM T a
  · have bM := bz_t hM
    have hlw := lwM_bd hV (x := a) (by omega)
    by_cases qd : 0 ≤ d ∧ d ≤ 100
    · have bd := bz_t qd
      by_cases qh : hsM T a
      · have bh := bz_t qh
        have h3 : hsM T a ∨ 200 ≤ T 4 8 ∨ lwM T a = -1 := Or.inl qh
        refine g_iload_2 (pc := 0) C dX2_lend_0 ?_
        refine g_iconst (pc := 1) C dX2_lend_1 ?_
        refine g_bipush (pc := 2) C dX2_lend_2 (by decide) ?_
        refine g_cT3Pv (pc := 4) C cs_X2_39 (k_X2_in d 0 100 hd (by omega) (by omega)) ⟨Nat.le_of_ble_eq_true rfl, Nat.le_of_ble_eq_true rfl⟩ (Nat.le_of_ble_eq_true rfl) ⟨Nat.le_of_ble_eq_true rfl, Nat.le_of_ble_eq_true rfl⟩ dX2_lend_4 ?_
        refine g_istore_3 (pc := 7) C dX2_lend_7 ?_
        refine g_aload_0 (pc := 8) C dX2_lend_8 ?_
        refine g_iload_1 (pc := 9) C dX2_lend_9 ?_
        refine g_cM1Pv (pc := 10) C cs_X2_70 (k_X2_isSpan h13 hV a ha) ⟨Nat.le_of_ble_eq_true rfl, Nat.le_of_ble_eq_true rfl⟩ (by omega) (Nat.le_of_ble_eq_true rfl) ⟨Nat.le_of_ble_eq_true rfl, Nat.le_of_ble_eq_true rfl⟩ dX2_lend_10 ?_
        refine g_if_eq (pc := 13) (tgt := 42) C dX2_lend_13 (by decide) (by omega) (fun h13 => absurd h13 (by omega)) (fun _ => ?_)
        refine g_aload_0 (pc := 16) C dX2_lend_16 ?_
        refine g_iload_1 (pc := 17) C dX2_lend_17 ?_
        refine g_cM1Pv (pc := 18) C cs_X2_56 (k_X2_hasSpans h13 hV a (by omega)) ⟨Nat.le_of_ble_eq_true rfl, Nat.le_of_ble_eq_true rfl⟩ (by omega) (Nat.le_of_ble_eq_true rfl) ⟨Nat.le_of_ble_eq_true rfl, Nat.le_of_ble_eq_true rfl⟩ dX2_lend_18 ?_
        refine g_if_ne (pc := 21) (tgt := 42) C dX2_lend_21 (by decide) (by omega) (fun _ => ?_) (fun h21 => absurd h21 (by omega))
        refine g_iconst (pc := 42) C dX2_lend_42 ?_
        have hex : exMl T a d = 3 := by rw [exMl, if_neg (fun h => h hM), if_neg (fun h => h qd), if_pos h3]
        refine g_istore_4 (pc := 43) C dX2_lend_43 ?_
        refine g_aload_0 (pc := 45) C dX2_lend_45 ?_
        refine g_aload_0 (pc := 46) C dX2_lend_46 ?_
        refine g_iload_1 (pc := 47) C dX2_lend_47 ?_
        refine g_cM1Pv (pc := 48) C cs_X2_70 (k_X2_isSpan h13 hV a ha) ⟨Nat.le_of_ble_eq_true rfl, Nat.le_of_ble_eq_true rfl⟩ (by omega) (Nat.le_of_ble_eq_true rfl) ⟨Nat.le_of_ble_eq_true rfl, Nat.le_of_ble_eq_true rfl⟩ dX2_lend_48 ?_
        refine g_if_ne (pc := 51) (tgt := 58) C dX2_lend_51 (by decide) (by omega) (fun _ => ?_) (fun h51 => absurd h51 (by omega))
        refine g_iload_3 (pc := 58) C dX2_lend_58 ?_
        refine g_if_ne (pc := 59) (tgt := 66) C dX2_lend_59 (by decide) (by omega) (fun _ => ?_) (fun h59 => absurd h59 (by omega))
        refine g_iload_4 (pc := 66) C dX2_lend_66 ?_
        refine g_iconst (pc := 68) C dX2_lend_68 ?_
        refine g_icmp_ne (pc := 69) (tgt := 76) C dX2_lend_69 (by decide) (by omega) (by omega) (fun h69 => absurd h69 (by omega)) (fun _ => ?_)
        refine g_iconst (pc := 72) C dX2_lend_72 ?_
        refine g_goto (pc := 73) (tgt := 77) C dX2_lend_73 (by decide) ?_
        refine g_cM1Pv (pc := 77) C cs_X2_81 (k_X2_goesWell h13 3 (by omega)) ⟨Nat.le_of_ble_eq_true rfl, Nat.le_of_ble_eq_true rfl⟩ (by omega) (Nat.le_of_ble_eq_true rfl) ⟨Nat.le_of_ble_eq_true rfl, Nat.le_of_ble_eq_true rfl⟩ dX2_lend_77 ?_
        refine g_if_ne (pc := 80) (tgt := 85) C dX2_lend_80 (by decide) (by omega) (fun h80 => absurd h80 (by omega)) (fun _ => ?_)
        refine g_iconst (pc := 83) C dX2_lend_83 ?_
        refine g_iret (pc := 84) C (Nat.le_of_ble_eq_true rfl) (Nat.le_of_ble_eq_true rfl) dX2_lend_84 ?_
        exact ⟨rfl, by rw [hex]; rfl, by rw [hex]; rfl⟩
      · have bh := bz_f qh
        by_cases ql : 200 ≤ T 4 8
        · have h3 : hsM T a ∨ 200 ≤ T 4 8 ∨ lwM T a = -1 := Or.inr (Or.inl ql)
          refine g_iload_2 (pc := 0) C dX2_lend_0 ?_
          refine g_iconst (pc := 1) C dX2_lend_1 ?_
          refine g_bipush (pc := 2) C dX2_lend_2 (by decide) ?_
          refine g_cT3Pv (pc := 4) C cs_X2_39 (k_X2_in d 0 100 hd (by omega) (by omega)) ⟨Nat.le_of_ble_eq_true rfl, Nat.le_of_ble_eq_true rfl⟩ (Nat.le_of_ble_eq_true rfl) ⟨Nat.le_of_ble_eq_true rfl, Nat.le_of_ble_eq_true rfl⟩ dX2_lend_4 ?_
          refine g_istore_3 (pc := 7) C dX2_lend_7 ?_
          refine g_aload_0 (pc := 8) C dX2_lend_8 ?_
          refine g_iload_1 (pc := 9) C dX2_lend_9 ?_
          refine g_cM1Pv (pc := 10) C cs_X2_70 (k_X2_isSpan h13 hV a ha) ⟨Nat.le_of_ble_eq_true rfl, Nat.le_of_ble_eq_true rfl⟩ (by omega) (Nat.le_of_ble_eq_true rfl) ⟨Nat.le_of_ble_eq_true rfl, Nat.le_of_ble_eq_true rfl⟩ dX2_lend_10 ?_
          refine g_if_eq (pc := 13) (tgt := 42) C dX2_lend_13 (by decide) (by omega) (fun h13 => absurd h13 (by omega)) (fun _ => ?_)
          refine g_aload_0 (pc := 16) C dX2_lend_16 ?_
          refine g_iload_1 (pc := 17) C dX2_lend_17 ?_
          refine g_cM1Pv (pc := 18) C cs_X2_56 (k_X2_hasSpans h13 hV a (by omega)) ⟨Nat.le_of_ble_eq_true rfl, Nat.le_of_ble_eq_true rfl⟩ (by omega) (Nat.le_of_ble_eq_true rfl) ⟨Nat.le_of_ble_eq_true rfl, Nat.le_of_ble_eq_true rfl⟩ dX2_lend_18 ?_
          refine g_if_ne (pc := 21) (tgt := 42) C dX2_lend_21 (by decide) (by omega) (fun h21 => absurd h21 (by omega)) (fun _ => ?_)
          refine g_aload_0 (pc := 24) C dX2_lend_24 ?_
          refine g_get_X2_93 (pc := 25) C (by omega) dX2_lend_25 ?_
          refine g_sipush (pc := 28) C dX2_lend_28 (by decide) ?_
          refine g_icmp_ge (pc := 31) (tgt := 42) C dX2_lend_31 (by decide) (by omega) (by omega) (fun _ => ?_) (fun h31 => absurd h31 (by omega))
          refine g_iconst (pc := 42) C dX2_lend_42 ?_
          have hex : exMl T a d = 3 := by rw [exMl, if_neg (fun h => h hM), if_neg (fun h => h qd), if_pos h3]
          refine g_istore_4 (pc := 43) C dX2_lend_43 ?_
          refine g_aload_0 (pc := 45) C dX2_lend_45 ?_
          refine g_aload_0 (pc := 46) C dX2_lend_46 ?_
          refine g_iload_1 (pc := 47) C dX2_lend_47 ?_
          refine g_cM1Pv (pc := 48) C cs_X2_70 (k_X2_isSpan h13 hV a ha) ⟨Nat.le_of_ble_eq_true rfl, Nat.le_of_ble_eq_true rfl⟩ (by omega) (Nat.le_of_ble_eq_true rfl) ⟨Nat.le_of_ble_eq_true rfl, Nat.le_of_ble_eq_true rfl⟩ dX2_lend_48 ?_
          refine g_if_ne (pc := 51) (tgt := 58) C dX2_lend_51 (by decide) (by omega) (fun _ => ?_) (fun h51 => absurd h51 (by omega))
          refine g_iload_3 (pc := 58) C dX2_lend_58 ?_
          refine g_if_ne (pc := 59) (tgt := 66) C dX2_lend_59 (by decide) (by omega) (fun _ => ?_) (fun h59 => absurd h59 (by omega))
          refine g_iload_4 (pc := 66) C dX2_lend_66 ?_
          refine g_iconst (pc := 68) C dX2_lend_68 ?_
          refine g_icmp_ne (pc := 69) (tgt := 76) C dX2_lend_69 (by decide) (by omega) (by omega) (fun h69 => absurd h69 (by omega)) (fun _ => ?_)
          refine g_iconst (pc := 72) C dX2_lend_72 ?_
          refine g_goto (pc := 73) (tgt := 77) C dX2_lend_73 (by decide) ?_
          refine g_cM1Pv (pc := 77) C cs_X2_81 (k_X2_goesWell h13 3 (by omega)) ⟨Nat.le_of_ble_eq_true rfl, Nat.le_of_ble_eq_true rfl⟩ (by omega) (Nat.le_of_ble_eq_true rfl) ⟨Nat.le_of_ble_eq_true rfl, Nat.le_of_ble_eq_true rfl⟩ dX2_lend_77 ?_
          refine g_if_ne (pc := 80) (tgt := 85) C dX2_lend_80 (by decide) (by omega) (fun h80 => absurd h80 (by omega)) (fun _ => ?_)
          refine g_iconst (pc := 83) C dX2_lend_83 ?_
          refine g_iret (pc := 84) C (Nat.le_of_ble_eq_true rfl) (Nat.le_of_ble_eq_true rfl) dX2_lend_84 ?_
          exact ⟨rfl, by rw [hex]; rfl, by rw [hex]; rfl⟩
        · by_cases qw : lwM T a = -1
          · have h3 : hsM T a ∨ 200 ≤ T 4 8 ∨ lwM T a = -1 := Or.inr (Or.inr qw)
            refine g_iload_2 (pc := 0) C dX2_lend_0 ?_
            refine g_iconst (pc := 1) C dX2_lend_1 ?_
            refine g_bipush (pc := 2) C dX2_lend_2 (by decide) ?_
            refine g_cT3Pv (pc := 4) C cs_X2_39 (k_X2_in d 0 100 hd (by omega) (by omega)) ⟨Nat.le_of_ble_eq_true rfl, Nat.le_of_ble_eq_true rfl⟩ (Nat.le_of_ble_eq_true rfl) ⟨Nat.le_of_ble_eq_true rfl, Nat.le_of_ble_eq_true rfl⟩ dX2_lend_4 ?_
            refine g_istore_3 (pc := 7) C dX2_lend_7 ?_
            refine g_aload_0 (pc := 8) C dX2_lend_8 ?_
            refine g_iload_1 (pc := 9) C dX2_lend_9 ?_
            refine g_cM1Pv (pc := 10) C cs_X2_70 (k_X2_isSpan h13 hV a ha) ⟨Nat.le_of_ble_eq_true rfl, Nat.le_of_ble_eq_true rfl⟩ (by omega) (Nat.le_of_ble_eq_true rfl) ⟨Nat.le_of_ble_eq_true rfl, Nat.le_of_ble_eq_true rfl⟩ dX2_lend_10 ?_
            refine g_if_eq (pc := 13) (tgt := 42) C dX2_lend_13 (by decide) (by omega) (fun h13 => absurd h13 (by omega)) (fun _ => ?_)
            refine g_aload_0 (pc := 16) C dX2_lend_16 ?_
            refine g_iload_1 (pc := 17) C dX2_lend_17 ?_
            refine g_cM1Pv (pc := 18) C cs_X2_56 (k_X2_hasSpans h13 hV a (by omega)) ⟨Nat.le_of_ble_eq_true rfl, Nat.le_of_ble_eq_true rfl⟩ (by omega) (Nat.le_of_ble_eq_true rfl) ⟨Nat.le_of_ble_eq_true rfl, Nat.le_of_ble_eq_true rfl⟩ dX2_lend_18 ?_
            refine g_if_ne (pc := 21) (tgt := 42) C dX2_lend_21 (by decide) (by omega) (fun h21 => absurd h21 (by omega)) (fun _ => ?_)
            refine g_aload_0 (pc := 24) C dX2_lend_24 ?_
            refine g_get_X2_93 (pc := 25) C (by omega) dX2_lend_25 ?_
            refine g_sipush (pc := 28) C dX2_lend_28 (by decide) ?_
            refine g_icmp_ge (pc := 31) (tgt := 42) C dX2_lend_31 (by decide) (by omega) (by omega) (fun h31 => absurd h31 (by omega)) (fun _ => ?_)
            refine g_aload_0 (pc := 34) C dX2_lend_34 ?_
            refine g_iload_1 (pc := 35) C dX2_lend_35 ?_
            refine g_cM1Pv (pc := 36) C cs_X2_96 (k_X2_lowestFree h13 hV a (by omega)) ⟨Nat.le_of_ble_eq_true rfl, Nat.le_of_ble_eq_true rfl⟩ (by omega) (Nat.le_of_ble_eq_true rfl) ⟨Nat.le_of_ble_eq_true rfl, Nat.le_of_ble_eq_true rfl⟩ dX2_lend_36 ?_
            refine g_goto (pc := 39) (tgt := 43) C dX2_lend_39 (by decide) ?_
            have hex : exMl T a d = 3 := by rw [exMl, if_neg (fun h => h hM), if_neg (fun h => h qd), if_pos h3]
            refine g_istore_4 (pc := 43) C dX2_lend_43 ?_
            refine g_aload_0 (pc := 45) C dX2_lend_45 ?_
            refine g_aload_0 (pc := 46) C dX2_lend_46 ?_
            refine g_iload_1 (pc := 47) C dX2_lend_47 ?_
            refine g_cM1Pv (pc := 48) C cs_X2_70 (k_X2_isSpan h13 hV a ha) ⟨Nat.le_of_ble_eq_true rfl, Nat.le_of_ble_eq_true rfl⟩ (by omega) (Nat.le_of_ble_eq_true rfl) ⟨Nat.le_of_ble_eq_true rfl, Nat.le_of_ble_eq_true rfl⟩ dX2_lend_48 ?_
            refine g_if_ne (pc := 51) (tgt := 58) C dX2_lend_51 (by decide) (by omega) (fun _ => ?_) (fun h51 => absurd h51 (by omega))
            refine g_iload_3 (pc := 58) C dX2_lend_58 ?_
            refine g_if_ne (pc := 59) (tgt := 66) C dX2_lend_59 (by decide) (by omega) (fun _ => ?_) (fun h59 => absurd h59 (by omega))
            refine g_iload_4 (pc := 66) C dX2_lend_66 ?_
            refine g_iconst (pc := 68) C dX2_lend_68 ?_
            refine g_icmp_ne (pc := 69) (tgt := 76) C dX2_lend_69 (by decide) (by omega) (by omega) (fun h69 => absurd h69 (by omega)) (fun _ => ?_)
            refine g_iconst (pc := 72) C dX2_lend_72 ?_
            refine g_goto (pc := 73) (tgt := 77) C dX2_lend_73 (by decide) ?_
            refine g_cM1Pv (pc := 77) C cs_X2_81 (k_X2_goesWell h13 3 (by omega)) ⟨Nat.le_of_ble_eq_true rfl, Nat.le_of_ble_eq_true rfl⟩ (by omega) (Nat.le_of_ble_eq_true rfl) ⟨Nat.le_of_ble_eq_true rfl, Nat.le_of_ble_eq_true rfl⟩ dX2_lend_77 ?_
            refine g_if_ne (pc := 80) (tgt := 85) C dX2_lend_80 (by decide) (by omega) (fun h80 => absurd h80 (by omega)) (fun _ => ?_)
            refine g_iconst (pc := 83) C dX2_lend_83 ?_
            refine g_iret (pc := 84) C (Nat.le_of_ble_eq_true rfl) (Nat.le_of_ble_eq_true rfl) dX2_lend_84 ?_
            exact ⟨rfl, by rw [hex]; rfl, by rw [hex]; rfl⟩
          · have hex : exMl T a d = 0 := by rw [exMl, if_neg (fun h => h hM), if_neg (fun h => h qd), if_neg (by rintro (h | h | h); exact qh h; exact ql h; exact qw h)]
            have e48 : ∀ v, mst (mst T 4 0 0) 10 (lwM T a).toNat v 4 8 = T 4 8 := fun v => by rw [mst_r (by decide), mst_i (by decide)]
            refine g_iload_2 (pc := 0) C dX2_lend_0 ?_
            refine g_iconst (pc := 1) C dX2_lend_1 ?_
            refine g_bipush (pc := 2) C dX2_lend_2 (by decide) ?_
            refine g_cT3Pv (pc := 4) C cs_X2_39 (k_X2_in d 0 100 hd (by omega) (by omega)) ⟨Nat.le_of_ble_eq_true rfl, Nat.le_of_ble_eq_true rfl⟩ (Nat.le_of_ble_eq_true rfl) ⟨Nat.le_of_ble_eq_true rfl, Nat.le_of_ble_eq_true rfl⟩ dX2_lend_4 ?_
            refine g_istore_3 (pc := 7) C dX2_lend_7 ?_
            refine g_aload_0 (pc := 8) C dX2_lend_8 ?_
            refine g_iload_1 (pc := 9) C dX2_lend_9 ?_
            refine g_cM1Pv (pc := 10) C cs_X2_70 (k_X2_isSpan h13 hV a ha) ⟨Nat.le_of_ble_eq_true rfl, Nat.le_of_ble_eq_true rfl⟩ (by omega) (Nat.le_of_ble_eq_true rfl) ⟨Nat.le_of_ble_eq_true rfl, Nat.le_of_ble_eq_true rfl⟩ dX2_lend_10 ?_
            refine g_if_eq (pc := 13) (tgt := 42) C dX2_lend_13 (by decide) (by omega) (fun h13 => absurd h13 (by omega)) (fun _ => ?_)
            refine g_aload_0 (pc := 16) C dX2_lend_16 ?_
            refine g_iload_1 (pc := 17) C dX2_lend_17 ?_
            refine g_cM1Pv (pc := 18) C cs_X2_56 (k_X2_hasSpans h13 hV a (by omega)) ⟨Nat.le_of_ble_eq_true rfl, Nat.le_of_ble_eq_true rfl⟩ (by omega) (Nat.le_of_ble_eq_true rfl) ⟨Nat.le_of_ble_eq_true rfl, Nat.le_of_ble_eq_true rfl⟩ dX2_lend_18 ?_
            refine g_if_ne (pc := 21) (tgt := 42) C dX2_lend_21 (by decide) (by omega) (fun h21 => absurd h21 (by omega)) (fun _ => ?_)
            refine g_aload_0 (pc := 24) C dX2_lend_24 ?_
            refine g_get_X2_93 (pc := 25) C (by omega) dX2_lend_25 ?_
            refine g_sipush (pc := 28) C dX2_lend_28 (by decide) ?_
            refine g_icmp_ge (pc := 31) (tgt := 42) C dX2_lend_31 (by decide) (by omega) (by omega) (fun h31 => absurd h31 (by omega)) (fun _ => ?_)
            refine g_aload_0 (pc := 34) C dX2_lend_34 ?_
            refine g_iload_1 (pc := 35) C dX2_lend_35 ?_
            refine g_cM1Pv (pc := 36) C cs_X2_96 (k_X2_lowestFree h13 hV a (by omega)) ⟨Nat.le_of_ble_eq_true rfl, Nat.le_of_ble_eq_true rfl⟩ (by omega) (Nat.le_of_ble_eq_true rfl) ⟨Nat.le_of_ble_eq_true rfl, Nat.le_of_ble_eq_true rfl⟩ dX2_lend_36 ?_
            refine g_goto (pc := 39) (tgt := 43) C dX2_lend_39 (by decide) ?_
            refine g_istore_4 (pc := 43) C dX2_lend_43 ?_
            refine g_aload_0 (pc := 45) C dX2_lend_45 ?_
            refine g_aload_0 (pc := 46) C dX2_lend_46 ?_
            refine g_iload_1 (pc := 47) C dX2_lend_47 ?_
            refine g_cM1Pv (pc := 48) C cs_X2_70 (k_X2_isSpan h13 hV a ha) ⟨Nat.le_of_ble_eq_true rfl, Nat.le_of_ble_eq_true rfl⟩ (by omega) (Nat.le_of_ble_eq_true rfl) ⟨Nat.le_of_ble_eq_true rfl, Nat.le_of_ble_eq_true rfl⟩ dX2_lend_48 ?_
            refine g_if_ne (pc := 51) (tgt := 58) C dX2_lend_51 (by decide) (by omega) (fun _ => ?_) (fun h51 => absurd h51 (by omega))
            refine g_iload_3 (pc := 58) C dX2_lend_58 ?_
            refine g_if_ne (pc := 59) (tgt := 66) C dX2_lend_59 (by decide) (by omega) (fun _ => ?_) (fun h59 => absurd h59 (by omega))
            refine g_iload_4 (pc := 66) C dX2_lend_66 ?_
            refine g_iconst (pc := 68) C dX2_lend_68 ?_
            refine g_icmp_ne (pc := 69) (tgt := 76) C dX2_lend_69 (by decide) (by omega) (by omega) (fun _ => ?_) (fun h69 => absurd h69 (by omega))
            refine g_iconst (pc := 76) C dX2_lend_76 ?_
            refine g_cM1Pv (pc := 77) C cs_X2_81 (k_X2_goesWell h13 0 (by omega)) ⟨Nat.le_of_ble_eq_true rfl, Nat.le_of_ble_eq_true rfl⟩ (by omega) (Nat.le_of_ble_eq_true rfl) ⟨Nat.le_of_ble_eq_true rfl, Nat.le_of_ble_eq_true rfl⟩ dX2_lend_77 ?_
            refine g_if_ne (pc := 80) (tgt := 85) C dX2_lend_80 (by decide) (by omega) (fun _ => ?_) (fun h80 => absurd h80 (by omega))
            refine g_aload_0 (pc := 85) C dX2_lend_85 ?_
            refine g_get_X2_30 (pc := 86) C (by omega) dX2_lend_86 ?_
            refine g_iload_4 (pc := 89) C dX2_lend_89 ?_
            refine g_iload_2 (pc := 91) C dX2_lend_91 ?_
            by_cases q0 : d = 0
            · refine g_if_ne (pc := 92) (tgt := 99) C dX2_lend_92 (by decide) (by omega) (fun h92 => absurd h92 (by omega)) (fun _ => ?_)
              refine g_iconst (pc := 95) C dX2_lend_95 ?_
              refine g_goto (pc := 96) (tgt := 105) C dX2_lend_96 (by decide) ?_
              first | refine g_astn_10 (pc := 105) C (by omega) (by omega) dX2_lend_105 ?_ | refine g_ast_10 (pc := 105) C (by omega) (by omega) dX2_lend_105 ?_
              refine g_aload_0 (pc := 106) C dX2_lend_106 ?_
              refine g_dup (pc := 107) C dX2_lend_107 rfl ?_
              refine g_get_X2_93 (pc := 108) C (by omega) dX2_lend_108 ?_
              rw [e48]
              refine g_iconst (pc := 111) C dX2_lend_111 ?_
              refine g_iadd (pc := 112) C dX2_lend_112 ?_
              refine g_put_X2_93 (pc := 113) C (by omega) dX2_lend_113 ?_
              refine g_iload_4 (pc := 116) C dX2_lend_116 ?_
              refine g_iret (pc := 118) C (Nat.le_of_ble_eq_true rfl) (Nat.le_of_ble_eq_true rfl) dX2_lend_118 ?_
              exact ⟨rfl, by rw [hex]; rfl, by rw [hex, if_pos q0]; rfl⟩
            · refine g_if_ne (pc := 92) (tgt := 99) C dX2_lend_92 (by decide) (by omega) (fun _ => ?_) (fun h92 => absurd h92 (by omega))
              refine g_aload_0 (pc := 99) C dX2_lend_99 ?_
              refine g_get_X2_100 (pc := 100) C (by omega) dX2_lend_100 ?_
              rw [mst_i (by decide)]
              refine g_iload_2 (pc := 103) C dX2_lend_103 ?_
              refine g_iadd (pc := 104) C dX2_lend_104 ?_
              first | refine g_astn_10 (pc := 105) C (by omega) (by omega) dX2_lend_105 ?_ | refine g_ast_10 (pc := 105) C (by omega) (by omega) dX2_lend_105 ?_
              refine g_aload_0 (pc := 106) C dX2_lend_106 ?_
              refine g_dup (pc := 107) C dX2_lend_107 rfl ?_
              refine g_get_X2_93 (pc := 108) C (by omega) dX2_lend_108 ?_
              rw [e48]
              refine g_iconst (pc := 111) C dX2_lend_111 ?_
              refine g_iadd (pc := 112) C dX2_lend_112 ?_
              refine g_put_X2_93 (pc := 113) C (by omega) dX2_lend_113 ?_
              refine g_iload_4 (pc := 116) C dX2_lend_116 ?_
              refine g_iret (pc := 118) C (Nat.le_of_ble_eq_true rfl) (Nat.le_of_ble_eq_true rfl) dX2_lend_118 ?_
              exact ⟨rfl, by rw [hex]; rfl, by rw [hex, if_neg q0]; rfl⟩
    · have bd := bz_f qd
      by_cases qh : hsM T a
      · have bh := bz_t qh
        refine g_iload_2 (pc := 0) C dX2_lend_0 ?_
        refine g_iconst (pc := 1) C dX2_lend_1 ?_
        refine g_bipush (pc := 2) C dX2_lend_2 (by decide) ?_
        refine g_cT3Pv (pc := 4) C cs_X2_39 (k_X2_in d 0 100 hd (by omega) (by omega)) ⟨Nat.le_of_ble_eq_true rfl, Nat.le_of_ble_eq_true rfl⟩ (Nat.le_of_ble_eq_true rfl) ⟨Nat.le_of_ble_eq_true rfl, Nat.le_of_ble_eq_true rfl⟩ dX2_lend_4 ?_
        refine g_istore_3 (pc := 7) C dX2_lend_7 ?_
        refine g_aload_0 (pc := 8) C dX2_lend_8 ?_
        refine g_iload_1 (pc := 9) C dX2_lend_9 ?_
        refine g_cM1Pv (pc := 10) C cs_X2_70 (k_X2_isSpan h13 hV a ha) ⟨Nat.le_of_ble_eq_true rfl, Nat.le_of_ble_eq_true rfl⟩ (by omega) (Nat.le_of_ble_eq_true rfl) ⟨Nat.le_of_ble_eq_true rfl, Nat.le_of_ble_eq_true rfl⟩ dX2_lend_10 ?_
        refine g_if_eq (pc := 13) (tgt := 42) C dX2_lend_13 (by decide) (by omega) (fun h13 => absurd h13 (by omega)) (fun _ => ?_)
        refine g_aload_0 (pc := 16) C dX2_lend_16 ?_
        refine g_iload_1 (pc := 17) C dX2_lend_17 ?_
        refine g_cM1Pv (pc := 18) C cs_X2_56 (k_X2_hasSpans h13 hV a (by omega)) ⟨Nat.le_of_ble_eq_true rfl, Nat.le_of_ble_eq_true rfl⟩ (by omega) (Nat.le_of_ble_eq_true rfl) ⟨Nat.le_of_ble_eq_true rfl, Nat.le_of_ble_eq_true rfl⟩ dX2_lend_18 ?_
        refine g_if_ne (pc := 21) (tgt := 42) C dX2_lend_21 (by decide) (by omega) (fun _ => ?_) (fun h21 => absurd h21 (by omega))
        refine g_iconst (pc := 42) C dX2_lend_42 ?_
        have hex : exMl T a d = 2 := by rw [exMl, if_neg (fun h => h hM), if_pos qd]
        refine g_istore_4 (pc := 43) C dX2_lend_43 ?_
        refine g_aload_0 (pc := 45) C dX2_lend_45 ?_
        refine g_aload_0 (pc := 46) C dX2_lend_46 ?_
        refine g_iload_1 (pc := 47) C dX2_lend_47 ?_
        refine g_cM1Pv (pc := 48) C cs_X2_70 (k_X2_isSpan h13 hV a ha) ⟨Nat.le_of_ble_eq_true rfl, Nat.le_of_ble_eq_true rfl⟩ (by omega) (Nat.le_of_ble_eq_true rfl) ⟨Nat.le_of_ble_eq_true rfl, Nat.le_of_ble_eq_true rfl⟩ dX2_lend_48 ?_
        refine g_if_ne (pc := 51) (tgt := 58) C dX2_lend_51 (by decide) (by omega) (fun _ => ?_) (fun h51 => absurd h51 (by omega))
        refine g_iload_3 (pc := 58) C dX2_lend_58 ?_
        refine g_if_ne (pc := 59) (tgt := 66) C dX2_lend_59 (by decide) (by omega) (fun h59 => absurd h59 (by omega)) (fun _ => ?_)
        refine g_iconst (pc := 62) C dX2_lend_62 ?_
        refine g_goto (pc := 63) (tgt := 77) C dX2_lend_63 (by decide) ?_
        refine g_cM1Pv (pc := 77) C cs_X2_81 (k_X2_goesWell h13 2 (by omega)) ⟨Nat.le_of_ble_eq_true rfl, Nat.le_of_ble_eq_true rfl⟩ (by omega) (Nat.le_of_ble_eq_true rfl) ⟨Nat.le_of_ble_eq_true rfl, Nat.le_of_ble_eq_true rfl⟩ dX2_lend_77 ?_
        refine g_if_ne (pc := 80) (tgt := 85) C dX2_lend_80 (by decide) (by omega) (fun h80 => absurd h80 (by omega)) (fun _ => ?_)
        refine g_iconst (pc := 83) C dX2_lend_83 ?_
        refine g_iret (pc := 84) C (Nat.le_of_ble_eq_true rfl) (Nat.le_of_ble_eq_true rfl) dX2_lend_84 ?_
        exact ⟨rfl, by rw [hex]; rfl, by rw [hex]; rfl⟩
      · have bh := bz_f qh
        by_cases ql : 200 ≤ T 4 8
        · refine g_iload_2 (pc := 0) C dX2_lend_0 ?_
          refine g_iconst (pc := 1) C dX2_lend_1 ?_
          refine g_bipush (pc := 2) C dX2_lend_2 (by decide) ?_
          refine g_cT3Pv (pc := 4) C cs_X2_39 (k_X2_in d 0 100 hd (by omega) (by omega)) ⟨Nat.le_of_ble_eq_true rfl, Nat.le_of_ble_eq_true rfl⟩ (Nat.le_of_ble_eq_true rfl) ⟨Nat.le_of_ble_eq_true rfl, Nat.le_of_ble_eq_true rfl⟩ dX2_lend_4 ?_
          refine g_istore_3 (pc := 7) C dX2_lend_7 ?_
          refine g_aload_0 (pc := 8) C dX2_lend_8 ?_
          refine g_iload_1 (pc := 9) C dX2_lend_9 ?_
          refine g_cM1Pv (pc := 10) C cs_X2_70 (k_X2_isSpan h13 hV a ha) ⟨Nat.le_of_ble_eq_true rfl, Nat.le_of_ble_eq_true rfl⟩ (by omega) (Nat.le_of_ble_eq_true rfl) ⟨Nat.le_of_ble_eq_true rfl, Nat.le_of_ble_eq_true rfl⟩ dX2_lend_10 ?_
          refine g_if_eq (pc := 13) (tgt := 42) C dX2_lend_13 (by decide) (by omega) (fun h13 => absurd h13 (by omega)) (fun _ => ?_)
          refine g_aload_0 (pc := 16) C dX2_lend_16 ?_
          refine g_iload_1 (pc := 17) C dX2_lend_17 ?_
          refine g_cM1Pv (pc := 18) C cs_X2_56 (k_X2_hasSpans h13 hV a (by omega)) ⟨Nat.le_of_ble_eq_true rfl, Nat.le_of_ble_eq_true rfl⟩ (by omega) (Nat.le_of_ble_eq_true rfl) ⟨Nat.le_of_ble_eq_true rfl, Nat.le_of_ble_eq_true rfl⟩ dX2_lend_18 ?_
          refine g_if_ne (pc := 21) (tgt := 42) C dX2_lend_21 (by decide) (by omega) (fun h21 => absurd h21 (by omega)) (fun _ => ?_)
          refine g_aload_0 (pc := 24) C dX2_lend_24 ?_
          refine g_get_X2_93 (pc := 25) C (by omega) dX2_lend_25 ?_
          refine g_sipush (pc := 28) C dX2_lend_28 (by decide) ?_
          refine g_icmp_ge (pc := 31) (tgt := 42) C dX2_lend_31 (by decide) (by omega) (by omega) (fun _ => ?_) (fun h31 => absurd h31 (by omega))
          refine g_iconst (pc := 42) C dX2_lend_42 ?_
          have hex : exMl T a d = 2 := by rw [exMl, if_neg (fun h => h hM), if_pos qd]
          refine g_istore_4 (pc := 43) C dX2_lend_43 ?_
          refine g_aload_0 (pc := 45) C dX2_lend_45 ?_
          refine g_aload_0 (pc := 46) C dX2_lend_46 ?_
          refine g_iload_1 (pc := 47) C dX2_lend_47 ?_
          refine g_cM1Pv (pc := 48) C cs_X2_70 (k_X2_isSpan h13 hV a ha) ⟨Nat.le_of_ble_eq_true rfl, Nat.le_of_ble_eq_true rfl⟩ (by omega) (Nat.le_of_ble_eq_true rfl) ⟨Nat.le_of_ble_eq_true rfl, Nat.le_of_ble_eq_true rfl⟩ dX2_lend_48 ?_
          refine g_if_ne (pc := 51) (tgt := 58) C dX2_lend_51 (by decide) (by omega) (fun _ => ?_) (fun h51 => absurd h51 (by omega))
          refine g_iload_3 (pc := 58) C dX2_lend_58 ?_
          refine g_if_ne (pc := 59) (tgt := 66) C dX2_lend_59 (by decide) (by omega) (fun h59 => absurd h59 (by omega)) (fun _ => ?_)
          refine g_iconst (pc := 62) C dX2_lend_62 ?_
          refine g_goto (pc := 63) (tgt := 77) C dX2_lend_63 (by decide) ?_
          refine g_cM1Pv (pc := 77) C cs_X2_81 (k_X2_goesWell h13 2 (by omega)) ⟨Nat.le_of_ble_eq_true rfl, Nat.le_of_ble_eq_true rfl⟩ (by omega) (Nat.le_of_ble_eq_true rfl) ⟨Nat.le_of_ble_eq_true rfl, Nat.le_of_ble_eq_true rfl⟩ dX2_lend_77 ?_
          refine g_if_ne (pc := 80) (tgt := 85) C dX2_lend_80 (by decide) (by omega) (fun h80 => absurd h80 (by omega)) (fun _ => ?_)
          refine g_iconst (pc := 83) C dX2_lend_83 ?_
          refine g_iret (pc := 84) C (Nat.le_of_ble_eq_true rfl) (Nat.le_of_ble_eq_true rfl) dX2_lend_84 ?_
          exact ⟨rfl, by rw [hex]; rfl, by rw [hex]; rfl⟩
        · refine g_iload_2 (pc := 0) C dX2_lend_0 ?_
          refine g_iconst (pc := 1) C dX2_lend_1 ?_
          refine g_bipush (pc := 2) C dX2_lend_2 (by decide) ?_
          refine g_cT3Pv (pc := 4) C cs_X2_39 (k_X2_in d 0 100 hd (by omega) (by omega)) ⟨Nat.le_of_ble_eq_true rfl, Nat.le_of_ble_eq_true rfl⟩ (Nat.le_of_ble_eq_true rfl) ⟨Nat.le_of_ble_eq_true rfl, Nat.le_of_ble_eq_true rfl⟩ dX2_lend_4 ?_
          refine g_istore_3 (pc := 7) C dX2_lend_7 ?_
          refine g_aload_0 (pc := 8) C dX2_lend_8 ?_
          refine g_iload_1 (pc := 9) C dX2_lend_9 ?_
          refine g_cM1Pv (pc := 10) C cs_X2_70 (k_X2_isSpan h13 hV a ha) ⟨Nat.le_of_ble_eq_true rfl, Nat.le_of_ble_eq_true rfl⟩ (by omega) (Nat.le_of_ble_eq_true rfl) ⟨Nat.le_of_ble_eq_true rfl, Nat.le_of_ble_eq_true rfl⟩ dX2_lend_10 ?_
          refine g_if_eq (pc := 13) (tgt := 42) C dX2_lend_13 (by decide) (by omega) (fun h13 => absurd h13 (by omega)) (fun _ => ?_)
          refine g_aload_0 (pc := 16) C dX2_lend_16 ?_
          refine g_iload_1 (pc := 17) C dX2_lend_17 ?_
          refine g_cM1Pv (pc := 18) C cs_X2_56 (k_X2_hasSpans h13 hV a (by omega)) ⟨Nat.le_of_ble_eq_true rfl, Nat.le_of_ble_eq_true rfl⟩ (by omega) (Nat.le_of_ble_eq_true rfl) ⟨Nat.le_of_ble_eq_true rfl, Nat.le_of_ble_eq_true rfl⟩ dX2_lend_18 ?_
          refine g_if_ne (pc := 21) (tgt := 42) C dX2_lend_21 (by decide) (by omega) (fun h21 => absurd h21 (by omega)) (fun _ => ?_)
          refine g_aload_0 (pc := 24) C dX2_lend_24 ?_
          refine g_get_X2_93 (pc := 25) C (by omega) dX2_lend_25 ?_
          refine g_sipush (pc := 28) C dX2_lend_28 (by decide) ?_
          refine g_icmp_ge (pc := 31) (tgt := 42) C dX2_lend_31 (by decide) (by omega) (by omega) (fun h31 => absurd h31 (by omega)) (fun _ => ?_)
          refine g_aload_0 (pc := 34) C dX2_lend_34 ?_
          refine g_iload_1 (pc := 35) C dX2_lend_35 ?_
          refine g_cM1Pv (pc := 36) C cs_X2_96 (k_X2_lowestFree h13 hV a (by omega)) ⟨Nat.le_of_ble_eq_true rfl, Nat.le_of_ble_eq_true rfl⟩ (by omega) (Nat.le_of_ble_eq_true rfl) ⟨Nat.le_of_ble_eq_true rfl, Nat.le_of_ble_eq_true rfl⟩ dX2_lend_36 ?_
          refine g_goto (pc := 39) (tgt := 43) C dX2_lend_39 (by decide) ?_
          have hex : exMl T a d = 2 := by rw [exMl, if_neg (fun h => h hM), if_pos qd]
          refine g_istore_4 (pc := 43) C dX2_lend_43 ?_
          refine g_aload_0 (pc := 45) C dX2_lend_45 ?_
          refine g_aload_0 (pc := 46) C dX2_lend_46 ?_
          refine g_iload_1 (pc := 47) C dX2_lend_47 ?_
          refine g_cM1Pv (pc := 48) C cs_X2_70 (k_X2_isSpan h13 hV a ha) ⟨Nat.le_of_ble_eq_true rfl, Nat.le_of_ble_eq_true rfl⟩ (by omega) (Nat.le_of_ble_eq_true rfl) ⟨Nat.le_of_ble_eq_true rfl, Nat.le_of_ble_eq_true rfl⟩ dX2_lend_48 ?_
          refine g_if_ne (pc := 51) (tgt := 58) C dX2_lend_51 (by decide) (by omega) (fun _ => ?_) (fun h51 => absurd h51 (by omega))
          refine g_iload_3 (pc := 58) C dX2_lend_58 ?_
          refine g_if_ne (pc := 59) (tgt := 66) C dX2_lend_59 (by decide) (by omega) (fun h59 => absurd h59 (by omega)) (fun _ => ?_)
          refine g_iconst (pc := 62) C dX2_lend_62 ?_
          refine g_goto (pc := 63) (tgt := 77) C dX2_lend_63 (by decide) ?_
          refine g_cM1Pv (pc := 77) C cs_X2_81 (k_X2_goesWell h13 2 (by omega)) ⟨Nat.le_of_ble_eq_true rfl, Nat.le_of_ble_eq_true rfl⟩ (by omega) (Nat.le_of_ble_eq_true rfl) ⟨Nat.le_of_ble_eq_true rfl, Nat.le_of_ble_eq_true rfl⟩ dX2_lend_77 ?_
          refine g_if_ne (pc := 80) (tgt := 85) C dX2_lend_80 (by decide) (by omega) (fun h80 => absurd h80 (by omega)) (fun _ => ?_)
          refine g_iconst (pc := 83) C dX2_lend_83 ?_
          refine g_iret (pc := 84) C (Nat.le_of_ble_eq_true rfl) (Nat.le_of_ble_eq_true rfl) dX2_lend_84 ?_
          exact ⟨rfl, by rw [hex]; rfl, by rw [hex]; rfl⟩
  · have bM := bz_f hM
    have hex : exMl T a d = 1 := by rw [exMl, if_pos hM]
    refine g_iload_2 (pc := 0) C dX2_lend_0 ?_
    refine g_iconst (pc := 1) C dX2_lend_1 ?_
    refine g_bipush (pc := 2) C dX2_lend_2 (by decide) ?_
    refine g_cT3Pv (pc := 4) C cs_X2_39 (k_X2_in d 0 100 hd (by omega) (by omega)) ⟨Nat.le_of_ble_eq_true rfl, Nat.le_of_ble_eq_true rfl⟩ (Nat.le_of_ble_eq_true rfl) ⟨Nat.le_of_ble_eq_true rfl, Nat.le_of_ble_eq_true rfl⟩ dX2_lend_4 ?_
    refine g_istore_3 (pc := 7) C dX2_lend_7 ?_
    refine g_aload_0 (pc := 8) C dX2_lend_8 ?_
    refine g_iload_1 (pc := 9) C dX2_lend_9 ?_
    refine g_cM1Pv (pc := 10) C cs_X2_70 (k_X2_isSpan h13 hV a ha) ⟨Nat.le_of_ble_eq_true rfl, Nat.le_of_ble_eq_true rfl⟩ (by omega) (Nat.le_of_ble_eq_true rfl) ⟨Nat.le_of_ble_eq_true rfl, Nat.le_of_ble_eq_true rfl⟩ dX2_lend_10 ?_
    refine g_if_eq (pc := 13) (tgt := 42) C dX2_lend_13 (by decide) (by omega) (fun _ => ?_) (fun h13 => absurd h13 (by omega))
    refine g_iconst (pc := 42) C dX2_lend_42 ?_
    refine g_istore_4 (pc := 43) C dX2_lend_43 ?_
    refine g_aload_0 (pc := 45) C dX2_lend_45 ?_
    refine g_aload_0 (pc := 46) C dX2_lend_46 ?_
    refine g_iload_1 (pc := 47) C dX2_lend_47 ?_
    refine g_cM1Pv (pc := 48) C cs_X2_70 (k_X2_isSpan h13 hV a ha) ⟨Nat.le_of_ble_eq_true rfl, Nat.le_of_ble_eq_true rfl⟩ (by omega) (Nat.le_of_ble_eq_true rfl) ⟨Nat.le_of_ble_eq_true rfl, Nat.le_of_ble_eq_true rfl⟩ dX2_lend_48 ?_
    refine g_if_ne (pc := 51) (tgt := 58) C dX2_lend_51 (by decide) (by omega) (fun h51 => absurd h51 (by omega)) (fun _ => ?_)
    refine g_iconst (pc := 54) C dX2_lend_54 ?_
    refine g_goto (pc := 55) (tgt := 77) C dX2_lend_55 (by decide) ?_
    refine g_cM1Pv (pc := 77) C cs_X2_81 (k_X2_goesWell h13 1 (by omega)) ⟨Nat.le_of_ble_eq_true rfl, Nat.le_of_ble_eq_true rfl⟩ (by omega) (Nat.le_of_ble_eq_true rfl) ⟨Nat.le_of_ble_eq_true rfl, Nat.le_of_ble_eq_true rfl⟩ dX2_lend_77 ?_
    refine g_if_ne (pc := 80) (tgt := 85) C dX2_lend_80 (by decide) (by omega) (fun h80 => absurd h80 (by omega)) (fun _ => ?_)
    refine g_iconst (pc := 83) C dX2_lend_83 ?_
    refine g_iret (pc := 84) C (Nat.le_of_ble_eq_true rfl) (Nat.le_of_ble_eq_true rfl) dX2_lend_84 ?_
    exact ⟨rfl, by rw [hex]; rfl, by rw [hex]; rfl⟩
noncomputable def exMt (T : MT) (a : Int) : Int := if ¬ (0 ≤ a ∧ a < 4096) then 1 else if T 10 a.toNat = 0 then 2 else 0
theorem k_X2_takeBack {l : Launch} {cs : CSt} {np : Nat} {ad : Nat → Nat} {T : MT} (h13 : 13 ≤ np) (hV : VM T) (a : Int) (ha : -2147483648 ≤ a ∧ a < 2147483648) : KD l cs yX2_takeBack (Cond.code yX2_takeBack cX2_takeBack 4 (some .int) :: GW) 2 0 0 [.ref (ad 4), .int (zI a)] np ad T 0 (some (.int (zI (if exMt T a = 0 then (if T 10 a.toNat = -1 then 0 else T 10 a.toNat - T 4 9) else 0)))) (np, ad, if exMt T a = 0 then mst (mst (mst T 4 0 0) 10 a.toNat 0) 4 8 (T 4 8 - 1) else mst T 4 0 (exMt T a)) := by
  have hV0 := hV.1
  have b10 : bz ((1 : Int) = 0) = 0 := bz_f (by decide)
  have b20 : bz ((2 : Int) = 0) = 0 := bz_f (by decide)
  have b30 : bz ((3 : Int) = 0) = 0 := bz_f (by decide)
  have b00 : bz ((0 : Int) = 0) = 1 := bz_t (by decide)
  refine KC_of (cc := cX2_takeBack) (nL := 4) (rt := (some .int)) (by decide) (by simp [grf_cat, cat_int, cat_ref]) (by simp) ?_
  intro p e s m args below meth c A C hE hin
  refine g_eq (lv2 := [some (.ref (ad 4)), some (.int (zI a)), none, none]) rfl rfl rfl ?_
  by_cases hM : 0 ≤ a ∧ a < 4096
  · have bM := bz_t hM
    have hj := hV.2.2 a.toNat (by omega)
    have e48 : mst (mst T 4 0 0) 10 a.toNat 0 4 8 = T 4 8 := by rw [mst_r (by decide), mst_i (by decide)]
    by_cases q0 : T 10 a.toNat = 0
    · have hex : exMt T a = 2 := by rw [exMt, if_neg (fun h => h hM), if_pos q0]
      refine g_iload_1 (pc := 0) C dX2_takeBack_0 ?_
      refine g_cT1Pv (pc := 1) C cs_X2_103 (k_X2_isAddress a ha) ⟨Nat.le_of_ble_eq_true rfl, Nat.le_of_ble_eq_true rfl⟩ (Nat.le_of_ble_eq_true rfl) ⟨Nat.le_of_ble_eq_true rfl, Nat.le_of_ble_eq_true rfl⟩ dX2_takeBack_1 ?_
      refine g_istore_2 (pc := 4) C dX2_takeBack_4 ?_
      refine g_aload_0 (pc := 5) C dX2_takeBack_5 ?_
      refine g_iload_2 (pc := 6) C dX2_takeBack_6 ?_
      refine g_if_ne (pc := 7) (tgt := 14) C dX2_takeBack_7 (by decide) (by omega) (fun _ => ?_) (fun h7 => absurd h7 (by omega))
      refine g_aload_0 (pc := 14) C dX2_takeBack_14 ?_
      refine g_get_X2_30 (pc := 15) C (by omega) dX2_takeBack_15 ?_
      refine g_iload_1 (pc := 18) C dX2_takeBack_18 ?_
      first | refine g_aldn_10 (pc := 19) C (by omega) (by omega) dX2_takeBack_19 ?_ | refine g_ald_10 (pc := 19) C (by omega) (by omega) dX2_takeBack_19 ?_
      refine g_if_ne (pc := 20) (tgt := 27) C dX2_takeBack_20 (by decide) (by omega) (fun h20 => absurd h20 (by omega)) (fun _ => ?_)
      refine g_iconst (pc := 23) C dX2_takeBack_23 ?_
      refine g_goto (pc := 24) (tgt := 28) C dX2_takeBack_24 (by decide) ?_
      refine g_cM1Pv (pc := 28) C cs_X2_81 (k_X2_goesWell h13 2 (by omega)) ⟨Nat.le_of_ble_eq_true rfl, Nat.le_of_ble_eq_true rfl⟩ (by omega) (Nat.le_of_ble_eq_true rfl) ⟨Nat.le_of_ble_eq_true rfl, Nat.le_of_ble_eq_true rfl⟩ dX2_takeBack_28 ?_
      refine g_if_ne (pc := 31) (tgt := 36) C dX2_takeBack_31 (by decide) (by omega) (fun h31 => absurd h31 (by omega)) (fun _ => ?_)
      refine g_iconst (pc := 34) C dX2_takeBack_34 ?_
      refine g_iret (pc := 35) C (Nat.le_of_ble_eq_true rfl) (Nat.le_of_ble_eq_true rfl) dX2_takeBack_35 ?_
      exact ⟨rfl, by rw [hex]; rfl, by rw [hex]; rfl⟩
    · have hex : exMt T a = 0 := by rw [exMt, if_neg (fun h => h hM), if_neg q0]
      refine g_iload_1 (pc := 0) C dX2_takeBack_0 ?_
      refine g_cT1Pv (pc := 1) C cs_X2_103 (k_X2_isAddress a ha) ⟨Nat.le_of_ble_eq_true rfl, Nat.le_of_ble_eq_true rfl⟩ (Nat.le_of_ble_eq_true rfl) ⟨Nat.le_of_ble_eq_true rfl, Nat.le_of_ble_eq_true rfl⟩ dX2_takeBack_1 ?_
      refine g_istore_2 (pc := 4) C dX2_takeBack_4 ?_
      refine g_aload_0 (pc := 5) C dX2_takeBack_5 ?_
      refine g_iload_2 (pc := 6) C dX2_takeBack_6 ?_
      refine g_if_ne (pc := 7) (tgt := 14) C dX2_takeBack_7 (by decide) (by omega) (fun _ => ?_) (fun h7 => absurd h7 (by omega))
      refine g_aload_0 (pc := 14) C dX2_takeBack_14 ?_
      refine g_get_X2_30 (pc := 15) C (by omega) dX2_takeBack_15 ?_
      refine g_iload_1 (pc := 18) C dX2_takeBack_18 ?_
      first | refine g_aldn_10 (pc := 19) C (by omega) (by omega) dX2_takeBack_19 ?_ | refine g_ald_10 (pc := 19) C (by omega) (by omega) dX2_takeBack_19 ?_
      refine g_if_ne (pc := 20) (tgt := 27) C dX2_takeBack_20 (by decide) (by omega) (fun _ => ?_) (fun h20 => absurd h20 (by omega))
      refine g_iconst (pc := 27) C dX2_takeBack_27 ?_
      refine g_cM1Pv (pc := 28) C cs_X2_81 (k_X2_goesWell h13 0 (by omega)) ⟨Nat.le_of_ble_eq_true rfl, Nat.le_of_ble_eq_true rfl⟩ (by omega) (Nat.le_of_ble_eq_true rfl) ⟨Nat.le_of_ble_eq_true rfl, Nat.le_of_ble_eq_true rfl⟩ dX2_takeBack_28 ?_
      refine g_if_ne (pc := 31) (tgt := 36) C dX2_takeBack_31 (by decide) (by omega) (fun _ => ?_) (fun h31 => absurd h31 (by omega))
      refine g_aload_0 (pc := 36) C dX2_takeBack_36 ?_
      refine g_get_X2_30 (pc := 37) C (by omega) dX2_takeBack_37 ?_
      refine g_iload_1 (pc := 40) C dX2_takeBack_40 ?_
      first | refine g_aldn_10 (pc := 41) C (by omega) (by omega) dX2_takeBack_41 ?_ | refine g_ald_10 (pc := 41) C (by omega) (by omega) dX2_takeBack_41 ?_
      rw [mst_r (by decide)]
      by_cases q1 : T 10 a.toNat = -1
      · refine g_iconst (pc := 42) C dX2_takeBack_42 ?_
        refine g_icmp_ne (pc := 43) (tgt := 50) C dX2_takeBack_43 (by decide) (by omega) (by omega) (fun h43 => absurd h43 (by omega)) (fun _ => ?_)
        refine g_iconst (pc := 46) C dX2_takeBack_46 ?_
        refine g_goto (pc := 47) (tgt := 61) C dX2_takeBack_47 (by decide) ?_
        refine g_istore_3 (pc := 61) C dX2_takeBack_61 ?_
        refine g_aload_0 (pc := 62) C dX2_takeBack_62 ?_
        refine g_get_X2_30 (pc := 63) C (by omega) dX2_takeBack_63 ?_
        refine g_iload_1 (pc := 66) C dX2_takeBack_66 ?_
        refine g_iconst (pc := 67) C dX2_takeBack_67 ?_
        first | refine g_astn_10 (pc := 68) C (by omega) (by omega) dX2_takeBack_68 ?_ | refine g_ast_10 (pc := 68) C (by omega) (by omega) dX2_takeBack_68 ?_
        refine g_aload_0 (pc := 69) C dX2_takeBack_69 ?_
        refine g_dup (pc := 70) C dX2_takeBack_70 rfl ?_
        refine g_get_X2_93 (pc := 71) C (by omega) dX2_takeBack_71 ?_
        rw [e48]
        refine g_iconst (pc := 74) C dX2_takeBack_74 ?_
        refine g_isub (pc := 75) C dX2_takeBack_75 ?_
        refine g_put_X2_93 (pc := 76) C (by omega) dX2_takeBack_76 ?_
        refine g_iload_3 (pc := 79) C dX2_takeBack_79 ?_
        refine g_iret (pc := 80) C (Nat.le_of_ble_eq_true rfl) (Nat.le_of_ble_eq_true rfl) dX2_takeBack_80 ?_
        exact ⟨rfl, by rw [hex, if_pos q1]; rfl, by rw [hex]; rfl⟩
      · refine g_iconst (pc := 42) C dX2_takeBack_42 ?_
        refine g_icmp_ne (pc := 43) (tgt := 50) C dX2_takeBack_43 (by decide) (by omega) (by omega) (fun _ => ?_) (fun h43 => absurd h43 (by omega))
        refine g_aload_0 (pc := 50) C dX2_takeBack_50 ?_
        refine g_get_X2_30 (pc := 51) C (by omega) dX2_takeBack_51 ?_
        refine g_iload_1 (pc := 54) C dX2_takeBack_54 ?_
        first | refine g_aldn_10 (pc := 55) C (by omega) (by omega) dX2_takeBack_55 ?_ | refine g_ald_10 (pc := 55) C (by omega) (by omega) dX2_takeBack_55 ?_
        rw [mst_r (by decide)]
        refine g_aload_0 (pc := 56) C dX2_takeBack_56 ?_
        refine g_get_X2_100 (pc := 57) C (by omega) dX2_takeBack_57 ?_
        rw [mst_i (by decide)]
        refine g_isub (pc := 60) C dX2_takeBack_60 ?_
        refine g_istore_3 (pc := 61) C dX2_takeBack_61 ?_
        refine g_aload_0 (pc := 62) C dX2_takeBack_62 ?_
        refine g_get_X2_30 (pc := 63) C (by omega) dX2_takeBack_63 ?_
        refine g_iload_1 (pc := 66) C dX2_takeBack_66 ?_
        refine g_iconst (pc := 67) C dX2_takeBack_67 ?_
        first | refine g_astn_10 (pc := 68) C (by omega) (by omega) dX2_takeBack_68 ?_ | refine g_ast_10 (pc := 68) C (by omega) (by omega) dX2_takeBack_68 ?_
        refine g_aload_0 (pc := 69) C dX2_takeBack_69 ?_
        refine g_dup (pc := 70) C dX2_takeBack_70 rfl ?_
        refine g_get_X2_93 (pc := 71) C (by omega) dX2_takeBack_71 ?_
        rw [e48]
        refine g_iconst (pc := 74) C dX2_takeBack_74 ?_
        refine g_isub (pc := 75) C dX2_takeBack_75 ?_
        refine g_put_X2_93 (pc := 76) C (by omega) dX2_takeBack_76 ?_
        refine g_iload_3 (pc := 79) C dX2_takeBack_79 ?_
        refine g_iret (pc := 80) C (Nat.le_of_ble_eq_true rfl) (Nat.le_of_ble_eq_true rfl) dX2_takeBack_80 ?_
        exact ⟨rfl, by rw [hex, if_neg q1]; rfl, by rw [hex]; rfl⟩
  · have bM := bz_f hM
    have hex : exMt T a = 1 := by rw [exMt, if_pos hM]
    refine g_iload_1 (pc := 0) C dX2_takeBack_0 ?_
    refine g_cT1Pv (pc := 1) C cs_X2_103 (k_X2_isAddress a ha) ⟨Nat.le_of_ble_eq_true rfl, Nat.le_of_ble_eq_true rfl⟩ (Nat.le_of_ble_eq_true rfl) ⟨Nat.le_of_ble_eq_true rfl, Nat.le_of_ble_eq_true rfl⟩ dX2_takeBack_1 ?_
    refine g_istore_2 (pc := 4) C dX2_takeBack_4 ?_
    refine g_aload_0 (pc := 5) C dX2_takeBack_5 ?_
    refine g_iload_2 (pc := 6) C dX2_takeBack_6 ?_
    refine g_if_ne (pc := 7) (tgt := 14) C dX2_takeBack_7 (by decide) (by omega) (fun h7 => absurd h7 (by omega)) (fun _ => ?_)
    refine g_iconst (pc := 10) C dX2_takeBack_10 ?_
    refine g_goto (pc := 11) (tgt := 28) C dX2_takeBack_11 (by decide) ?_
    refine g_cM1Pv (pc := 28) C cs_X2_81 (k_X2_goesWell h13 1 (by omega)) ⟨Nat.le_of_ble_eq_true rfl, Nat.le_of_ble_eq_true rfl⟩ (by omega) (Nat.le_of_ble_eq_true rfl) ⟨Nat.le_of_ble_eq_true rfl, Nat.le_of_ble_eq_true rfl⟩ dX2_takeBack_28 ?_
    refine g_if_ne (pc := 31) (tgt := 36) C dX2_takeBack_31 (by decide) (by omega) (fun h31 => absurd h31 (by omega)) (fun _ => ?_)
    refine g_iconst (pc := 34) C dX2_takeBack_34 ?_
    refine g_iret (pc := 35) C (Nat.le_of_ble_eq_true rfl) (Nat.le_of_ble_eq_true rfl) dX2_takeBack_35 ?_
    exact ⟨rfl, by rw [hex]; rfl, by rw [hex]; rfl⟩
def pasM (T : MT) (D : Int) (j : Nat) : MT := fun r i => if r = 10 ∧ i < j ∧ 0 < T 10 i ∧ T 10 i ≤ D then 0 else T r i
def psM (f : Nat → Int) (D : Int) : Nat → Int
  | 0 => 0
  | j + 1 => psM f D j + (if 0 < f j ∧ f j ≤ D then 1 else 0)
theorem psM_bd (f : Nat → Int) (D : Int) (j : Nat) : 0 ≤ psM f D j ∧ psM f D j ≤ j := by
  induction j with
  | zero => exact ⟨Int.le_refl 0, Int.le_refl 0⟩
  | succ j ih =>
    unfold psM
    split <;> omega
theorem pasM_r {T : MT} {D : Int} {j r i : Nat} (h : r ≠ 10 ∨ j ≤ i) : pasM T D j r i = T r i := by
  unfold pasM
  rw [if_neg (by omega)]
theorem pasM_0 (T : MT) (D : Int) : pasM T D 0 = T := by
  funext r i
  exact pasM_r (Or.inr (Nat.zero_le _))
theorem pasM_y (T : MT) (D : Int) (j : Nat) (h : 0 < T 10 j ∧ T 10 j ≤ D) : mst (pasM T D j) 10 j 0 = pasM T D (j + 1) := by
  funext r i
  unfold mst pasM
  by_cases h1 : r = 10 ∧ i = j
  · obtain ⟨rfl, rfl⟩ := h1
    rw [if_pos ⟨rfl, rfl⟩, if_pos ⟨rfl, by omega, h⟩]
  · rw [if_neg h1]
    by_cases h2 : r = 10 ∧ i < j ∧ 0 < T 10 i ∧ T 10 i ≤ D
    · rw [if_pos h2, if_pos ⟨h2.1, by omega, h2.2.2⟩]
    · rw [if_neg h2, if_neg (fun q => h2 ⟨q.1, by omega, q.2.2⟩)]
theorem pasM_n (T : MT) (D : Int) (j : Nat) (h : ¬ (0 < T 10 j ∧ T 10 j ≤ D)) : pasM T D j = pasM T D (j + 1) := by
  funext r i
  unfold pasM
  by_cases h2 : r = 10 ∧ i < j ∧ 0 < T 10 i ∧ T 10 i ≤ D
  · rw [if_pos h2, if_pos ⟨h2.1, by omega, h2.2.2⟩]
  · rw [if_neg h2, if_neg]
    rintro ⟨q1, q2, q3⟩
    by_cases e : i = j
    · rw [e] at q3; exact h q3
    · exact h2 ⟨q1, by omega, q3⟩
noncomputable def psC (f : Nat → Int) (D : Int) : Int := hid (psM f D 4096)
theorem psC_eq (f : Nat → Int) (D : Int) : psC f D = psM f D 4096 := hid_eq _
noncomputable def exMp (T : MT) (d : Int) : Int := if ¬ (1 ≤ d ∧ d ≤ 1000) then 1 else if 100000 < T 4 9 + d then 2 else 0
theorem k_X2_pass {l : Launch} {cs : CSt} {np : Nat} {ad : Nat → Nat} {T : MT} (h13 : 13 ≤ np) (hV : VM T) (d : Int) (hd : -2147483648 ≤ d ∧ d < 2147483648) : KD l cs yX2_pass (Cond.code yX2_pass cX2_pass 5 (some .int) :: GW) 1 0 0 [.ref (ad 4), .int (zI d)] np ad T 0 (some (.int (zI (if exMp T d = 0 then psC (T 10) (T 4 9 + d) else 0)))) (np, ad, if exMp T d = 0 then mst (pasM (mst (mst T 4 0 0) 4 9 (T 4 9 + d)) (T 4 9 + d) 4096) 4 8 (T 4 8 - psC (T 10) (T 4 9 + d)) else mst T 4 0 (exMp T d)) := by
  have hV0 := hV.1
  have b10 : bz ((1 : Int) = 0) = 0 := bz_f (by decide)
  have b20 : bz ((2 : Int) = 0) = 0 := bz_f (by decide)
  have b30 : bz ((3 : Int) = 0) = 0 := bz_f (by decide)
  have b00 : bz ((0 : Int) = 0) = 1 := bz_t (by decide)
  refine KC_of (cc := cX2_pass) (nL := 5) (rt := (some .int)) (by decide) (by simp [grf_cat, cat_int, cat_ref]) (by simp) ?_
  intro p e s m args below meth c A C hE hin
  refine g_eq (lv2 := [some (.ref (ad 4)), some (.int (zI d)), none, none, none]) rfl rfl rfl ?_
  by_cases hM : 1 ≤ d ∧ d ≤ 1000
  · have bM := bz_t hM
    by_cases q0 : 100000 < T 4 9 + d
    · have hex : exMp T d = 2 := by rw [exMp, if_neg (fun h => h hM), if_pos q0]
      refine g_iload_1 (pc := 0) C dX2_pass_0 ?_
      refine g_iconst (pc := 1) C dX2_pass_1 ?_
      refine g_sipush (pc := 2) C dX2_pass_2 (by decide) ?_
      refine g_cT3Pv (pc := 5) C cs_X2_39 (k_X2_in d 1 1000 hd (by omega) (by omega)) ⟨Nat.le_of_ble_eq_true rfl, Nat.le_of_ble_eq_true rfl⟩ (Nat.le_of_ble_eq_true rfl) ⟨Nat.le_of_ble_eq_true rfl, Nat.le_of_ble_eq_true rfl⟩ dX2_pass_5 ?_
      refine g_istore_2 (pc := 8) C dX2_pass_8 ?_
      refine g_aload_0 (pc := 9) C dX2_pass_9 ?_
      refine g_iload_2 (pc := 10) C dX2_pass_10 ?_
      refine g_if_ne (pc := 11) (tgt := 18) C dX2_pass_11 (by decide) (by omega) (fun _ => ?_) (fun h11 => absurd h11 (by omega))
      refine g_aload_0 (pc := 18) C dX2_pass_18 ?_
      refine g_get_X2_100 (pc := 19) C (by omega) dX2_pass_19 ?_
      refine g_iload_1 (pc := 22) C dX2_pass_22 ?_
      refine g_iadd (pc := 23) C dX2_pass_23 ?_
      refine g_ldci (pc := 24) C dX2_pass_24 ct_X2_106 ?_
      rw [show (100000 : Int32) = zI 100000 by decide]
      refine g_icmp_le (pc := 26) (tgt := 33) C dX2_pass_26 (by decide) (by omega) (by omega) (fun h26 => absurd h26 (by omega)) (fun _ => ?_)
      refine g_iconst (pc := 29) C dX2_pass_29 ?_
      refine g_goto (pc := 30) (tgt := 34) C dX2_pass_30 (by decide) ?_
      refine g_cM1Pv (pc := 34) C cs_X2_81 (k_X2_goesWell h13 2 (by omega)) ⟨Nat.le_of_ble_eq_true rfl, Nat.le_of_ble_eq_true rfl⟩ (by omega) (Nat.le_of_ble_eq_true rfl) ⟨Nat.le_of_ble_eq_true rfl, Nat.le_of_ble_eq_true rfl⟩ dX2_pass_34 ?_
      refine g_if_ne (pc := 37) (tgt := 42) C dX2_pass_37 (by decide) (by omega) (fun h37 => absurd h37 (by omega)) (fun _ => ?_)
      refine g_iconst (pc := 40) C dX2_pass_40 ?_
      refine g_iret (pc := 41) C (Nat.le_of_ble_eq_true rfl) (Nat.le_of_ble_eq_true rfl) dX2_pass_41 ?_
      exact ⟨rfl, by rw [hex]; rfl, by rw [hex]; rfl⟩
    · have hex : exMp T d = 0 := by rw [exMp, if_neg (fun h => h hM), if_neg q0]
      refine g_iload_1 (pc := 0) C dX2_pass_0 ?_
      refine g_iconst (pc := 1) C dX2_pass_1 ?_
      refine g_sipush (pc := 2) C dX2_pass_2 (by decide) ?_
      refine g_cT3Pv (pc := 5) C cs_X2_39 (k_X2_in d 1 1000 hd (by omega) (by omega)) ⟨Nat.le_of_ble_eq_true rfl, Nat.le_of_ble_eq_true rfl⟩ (Nat.le_of_ble_eq_true rfl) ⟨Nat.le_of_ble_eq_true rfl, Nat.le_of_ble_eq_true rfl⟩ dX2_pass_5 ?_
      refine g_istore_2 (pc := 8) C dX2_pass_8 ?_
      refine g_aload_0 (pc := 9) C dX2_pass_9 ?_
      refine g_iload_2 (pc := 10) C dX2_pass_10 ?_
      refine g_if_ne (pc := 11) (tgt := 18) C dX2_pass_11 (by decide) (by omega) (fun _ => ?_) (fun h11 => absurd h11 (by omega))
      refine g_aload_0 (pc := 18) C dX2_pass_18 ?_
      refine g_get_X2_100 (pc := 19) C (by omega) dX2_pass_19 ?_
      refine g_iload_1 (pc := 22) C dX2_pass_22 ?_
      refine g_iadd (pc := 23) C dX2_pass_23 ?_
      refine g_ldci (pc := 24) C dX2_pass_24 ct_X2_106 ?_
      rw [show (100000 : Int32) = zI 100000 by decide]
      refine g_icmp_le (pc := 26) (tgt := 33) C dX2_pass_26 (by decide) (by omega) (by omega) (fun _ => ?_) (fun h26 => absurd h26 (by omega))
      refine g_iconst (pc := 33) C dX2_pass_33 ?_
      refine g_cM1Pv (pc := 34) C cs_X2_81 (k_X2_goesWell h13 0 (by omega)) ⟨Nat.le_of_ble_eq_true rfl, Nat.le_of_ble_eq_true rfl⟩ (by omega) (Nat.le_of_ble_eq_true rfl) ⟨Nat.le_of_ble_eq_true rfl, Nat.le_of_ble_eq_true rfl⟩ dX2_pass_34 ?_
      refine g_if_ne (pc := 37) (tgt := 42) C dX2_pass_37 (by decide) (by omega) (fun _ => ?_) (fun h37 => absurd h37 (by omega))
      refine g_aload_0 (pc := 42) C dX2_pass_42 ?_
      refine g_dup (pc := 43) C dX2_pass_43 rfl ?_
      refine g_get_X2_100 (pc := 44) C (by omega) dX2_pass_44 ?_
      rw [mst_i (by decide)]
      obtain ⟨D, hD⟩ : ∃ D, D = T 4 9 + d := ⟨_, rfl⟩
      rw [← hD]
      refine g_iload_1 (pc := 47) C dX2_pass_47 ?_
      refine g_iadd (pc := 48) C dX2_pass_48 ?_
      refine g_put_X2_100 (pc := 49) C (by omega) dX2_pass_49 ?_
      rw [← hD]
      refine g_iconst (pc := 52) C dX2_pass_52 ?_
      refine g_istore_3 (pc := 53) C dX2_pass_53 ?_
      refine g_iconst (pc := 54) C dX2_pass_54 ?_
      refine g_istore_4 (pc := 55) C dX2_pass_55 ?_
      have hU2 : ∀ i, mst (mst T 4 0 0) 4 9 D 10 i = T 10 i := fun i => by rw [mst_r (by decide), mst_r (by decide)]
      have hU8 : ∀ j, pasM (mst (mst T 4 0 0) 4 9 D) D j 4 8 = T 4 8 := fun j => by rw [pasM_r (Or.inl (by decide)), mst_i (by decide), mst_i (by decide)]
      have hU9 : ∀ j, pasM (mst (mst T 4 0 0) 4 9 D) D j 4 9 = D := fun j => by rw [pasM_r (Or.inl (by decide)), mst_eq]
      obtain ⟨U, hUU⟩ : ∃ U, U = mst (mst T 4 0 0) 4 9 D := ⟨_, rfl⟩
      rw [← hUU] at hU2 hU8 hU9 ⊢
      refine g_eq (T2 := pasM U D 0) (pasM_0 _ _).symm rfl rfl ?_
      refine g_loop (σ := Unit) (Tf := fun j _ => pasM U D j) (lvf := fun j _ => [some (.ref (ad 4)), some (.int (zI d)), some (.int (zI (bz (1 ≤ d ∧ d ≤ 1000)))), some (.int (zI (psM (T 10) D j))), some (.int (zI (j : Int)))]) (inv := fun _ _ => True) (N := 4096) 0 () trivial (by omega) (fun j _ _ hN ih => ?_)
      have hpb := psM_bd (T 10) D j
      have e9 : psM (T 10) D (j + 1) = psM (T 10) D j + (if 0 < T 10 j ∧ T 10 j ≤ D then 1 else 0) := rfl
      refine g_iload_4 (pc := 57) C dX2_pass_57 ?_
      refine g_sipush (pc := 59) C dX2_pass_59 (by decide) ?_
      refine g_icmp_ge (pc := 62) (tgt := 106) C dX2_pass_62 (by decide) (by omega) (by omega) (fun h62 => ?_) (fun h62 => ?_)
      · obtain rfl : j = 4096 := by omega
        rw [← psC_eq] at hpb ⊢
        generalize hpp : psC (T 10) D = P at hpb ⊢
        refine g_aload_0 (pc := 106) C dX2_pass_106 ?_
        refine g_dup (pc := 107) C dX2_pass_107 rfl ?_
        refine g_get_X2_93 (pc := 108) C (by omega) dX2_pass_108 ?_
        rw [hU8]
        refine g_iload_3 (pc := 111) C dX2_pass_111 ?_
        refine g_isub (pc := 112) C dX2_pass_112 ?_
        refine g_put_X2_93 (pc := 113) C (by omega) dX2_pass_113 ?_
        refine g_iload_3 (pc := 116) C dX2_pass_116 ?_
        refine g_iret (pc := 117) C (Nat.le_of_ble_eq_true rfl) (Nat.le_of_ble_eq_true rfl) dX2_pass_117 ?_
        exact ⟨rfl, by rw [hex]; rfl, by rw [hex]; rfl⟩
      · have hj := hV.2.2 j (by omega)
        have hr : pasM U D j 10 j = T 10 j := by rw [pasM_r (Or.inr (Nat.le_refl _)), hU2]
        refine g_aload_0 (pc := 65) C dX2_pass_65 ?_
        refine g_get_X2_30 (pc := 66) C (by omega) dX2_pass_66 ?_
        refine g_iload_4 (pc := 69) C dX2_pass_69 ?_
        first | refine g_aldn_10 (pc := 71) C (by omega) (by omega) dX2_pass_71 ?_ | refine g_ald_10 (pc := 71) C (by omega) (by omega) dX2_pass_71 ?_
        rw [hr]
        refine g_if_le (pc := 72) (tgt := 100) C dX2_pass_72 (by decide) (by omega) (fun h72 => ?_) (fun h72 => ?_)
        · refine g_iinc_4 (pc := 100) C dX2_pass_100 ?_
          refine g_goto (pc := 103) (tgt := 57) C dX2_pass_103 (by decide) ?_
          rw [if_neg (by omega)] at e9
          exact g_eq (pasM_n _ _ _ (by rw [hU2]; omega)) (by rw [e9, Int.add_zero]; rfl) rfl (ih () (by omega) trivial)
        · refine g_aload_0 (pc := 75) C dX2_pass_75 ?_
          refine g_get_X2_30 (pc := 76) C (by omega) dX2_pass_76 ?_
          refine g_iload_4 (pc := 79) C dX2_pass_79 ?_
          first | refine g_aldn_10 (pc := 81) C (by omega) (by omega) dX2_pass_81 ?_ | refine g_ald_10 (pc := 81) C (by omega) (by omega) dX2_pass_81 ?_
          rw [hr]
          refine g_aload_0 (pc := 82) C dX2_pass_82 ?_
          refine g_get_X2_100 (pc := 83) C (by omega) dX2_pass_83 ?_
          rw [hU9]
          refine g_icmp_gt (pc := 86) (tgt := 100) C dX2_pass_86 (by decide) (by omega) (by omega) (fun h86 => ?_) (fun h86 => ?_)
          · refine g_iinc_4 (pc := 100) C dX2_pass_100 ?_
            refine g_goto (pc := 103) (tgt := 57) C dX2_pass_103 (by decide) ?_
            rw [if_neg (by omega)] at e9
            exact g_eq (pasM_n _ _ _ (by rw [hU2]; omega)) (by rw [e9, Int.add_zero]; rfl) rfl (ih () (by omega) trivial)
          · refine g_aload_0 (pc := 89) C dX2_pass_89 ?_
            refine g_get_X2_30 (pc := 90) C (by omega) dX2_pass_90 ?_
            refine g_iload_4 (pc := 93) C dX2_pass_93 ?_
            refine g_iconst (pc := 95) C dX2_pass_95 ?_
            first | refine g_astn_10 (pc := 96) C (by omega) (by omega) dX2_pass_96 ?_ | refine g_ast_10 (pc := 96) C (by omega) (by omega) dX2_pass_96 ?_
            refine g_iinc_3 (pc := 97) C dX2_pass_97 ?_
            refine g_iinc_4 (pc := 100) C dX2_pass_100 ?_
            refine g_goto (pc := 103) (tgt := 57) C dX2_pass_103 (by decide) ?_
            rw [if_pos (by omega)] at e9
            exact g_eq (pasM_y _ _ _ (by rw [hU2]; omega)) (by rw [e9]; rfl) rfl (ih () (by omega) trivial)
  · have bM := bz_f hM
    have hex : exMp T d = 1 := by rw [exMp, if_pos hM]
    refine g_iload_1 (pc := 0) C dX2_pass_0 ?_
    refine g_iconst (pc := 1) C dX2_pass_1 ?_
    refine g_sipush (pc := 2) C dX2_pass_2 (by decide) ?_
    refine g_cT3Pv (pc := 5) C cs_X2_39 (k_X2_in d 1 1000 hd (by omega) (by omega)) ⟨Nat.le_of_ble_eq_true rfl, Nat.le_of_ble_eq_true rfl⟩ (Nat.le_of_ble_eq_true rfl) ⟨Nat.le_of_ble_eq_true rfl, Nat.le_of_ble_eq_true rfl⟩ dX2_pass_5 ?_
    refine g_istore_2 (pc := 8) C dX2_pass_8 ?_
    refine g_aload_0 (pc := 9) C dX2_pass_9 ?_
    refine g_iload_2 (pc := 10) C dX2_pass_10 ?_
    refine g_if_ne (pc := 11) (tgt := 18) C dX2_pass_11 (by decide) (by omega) (fun h11 => absurd h11 (by omega)) (fun _ => ?_)
    refine g_iconst (pc := 14) C dX2_pass_14 ?_
    refine g_goto (pc := 15) (tgt := 34) C dX2_pass_15 (by decide) ?_
    refine g_cM1Pv (pc := 34) C cs_X2_81 (k_X2_goesWell h13 1 (by omega)) ⟨Nat.le_of_ble_eq_true rfl, Nat.le_of_ble_eq_true rfl⟩ (by omega) (Nat.le_of_ble_eq_true rfl) ⟨Nat.le_of_ble_eq_true rfl, Nat.le_of_ble_eq_true rfl⟩ dX2_pass_34 ?_
    refine g_if_ne (pc := 37) (tgt := 42) C dX2_pass_37 (by decide) (by omega) (fun h37 => absurd h37 (by omega)) (fun _ => ?_)
    refine g_iconst (pc := 40) C dX2_pass_40 ?_
    refine g_iret (pc := 41) C (Nat.le_of_ble_eq_true rfl) (Nat.le_of_ble_eq_true rfl) dX2_pass_41 ?_
    exact ⟨rfl, by rw [hex]; rfl, by rw [hex]; rfl⟩
theorem k_X2_day {l : Launch} {cs : CSt} {np : Nat} {ad : Nat → Nat} {T : MT} (h13 : 13 ≤ np) : KD l cs yX2_day (Cond.code yX2_day cX2_day 1 (some .int) :: GW) 0 0 0 [.ref (ad 4)] np ad T 0 (some (.int (zI (T 4 9)))) (np, ad, mst T 4 0 0) := by
  refine KC_of (cc := cX2_day) (nL := 1) (rt := (some .int)) (by decide) (by simp [grf_cat, cat_int, cat_ref]) (by simp) ?_
  intro p e s m args below meth c A C hE hin
  refine g_eq (lv2 := [some (.ref (ad 4))]) rfl rfl rfl ?_
  refine g_aload_0 (pc := 0) C dX2_day_0 ?_
  refine g_iconst (pc := 1) C dX2_day_1 ?_
  refine g_put_X2_36 (pc := 2) C (by omega) dX2_day_2 ?_
  refine g_aload_0 (pc := 5) C dX2_day_5 ?_
  refine g_get_X2_100 (pc := 6) C (by omega) dX2_day_6 ?_
  refine g_iret (pc := 9) C (Nat.le_of_ble_eq_true rfl) (Nat.le_of_ble_eq_true rfl) dX2_day_9 ?_
  exact ⟨rfl, by rw [mst_i (by decide)], rfl⟩
theorem k_X2_lent {l : Launch} {cs : CSt} {np : Nat} {ad : Nat → Nat} {T : MT} (h13 : 13 ≤ np) : KD l cs yX2_lent (Cond.code yX2_lent cX2_lent 1 (some .int) :: GW) 0 0 0 [.ref (ad 4)] np ad T 0 (some (.int (zI (T 4 8)))) (np, ad, mst T 4 0 0) := by
  refine KC_of (cc := cX2_lent) (nL := 1) (rt := (some .int)) (by decide) (by simp [grf_cat, cat_int, cat_ref]) (by simp) ?_
  intro p e s m args below meth c A C hE hin
  refine g_eq (lv2 := [some (.ref (ad 4))]) rfl rfl rfl ?_
  refine g_aload_0 (pc := 0) C dX2_lent_0 ?_
  refine g_iconst (pc := 1) C dX2_lent_1 ?_
  refine g_put_X2_36 (pc := 2) C (by omega) dX2_lent_2 ?_
  refine g_aload_0 (pc := 5) C dX2_lent_5 ?_
  refine g_get_X2_93 (pc := 6) C (by omega) dX2_lent_6 ?_
  refine g_iret (pc := 9) C (Nat.le_of_ble_eq_true rfl) (Nat.le_of_ble_eq_true rfl) dX2_lent_9 ?_
  exact ⟨rfl, by rw [mst_i (by decide)], rfl⟩
theorem k_X2_isThere {l : Launch} {cs : CSt} {np : Nat} {ad : Nat → Nat} {T : MT} (h13 : 13 ≤ np) (hV : VM T) (a : Int) (ha : -2147483648 ≤ a ∧ a < 2147483648) : KD l cs yX2_isThere (Cond.code yX2_isThere cX2_isThere 2 (some .boolean) :: GW) 2 0 0 [.ref (ad 4), .int (zI a)] np ad T 0 (some (.int (zI (bz (isM T a))))) (np, ad, mst T 4 0 0) := by
  have e1 : bz (isM (mst T 4 0 0) a) = bz (isM T a) := by unfold isM; rw [mst_r (i' := a.toNat) (by decide), mst_i (by decide)]
  refine KC_of (cc := cX2_isThere) (nL := 2) (rt := (some .boolean)) (by decide) (by simp [grf_cat, cat_int, cat_ref]) (by simp) ?_
  intro p e s m args below meth c A C hE hin
  refine g_eq (lv2 := [some (.ref (ad 4)), some (.int (zI a))]) rfl rfl rfl ?_
  refine g_aload_0 (pc := 0) C dX2_isThere_0 ?_
  refine g_iconst (pc := 1) C dX2_isThere_1 ?_
  refine g_put_X2_36 (pc := 2) C (by omega) dX2_isThere_2 ?_
  refine g_aload_0 (pc := 5) C dX2_isThere_5 ?_
  refine g_iload_1 (pc := 6) C dX2_isThere_6 ?_
  refine g_cM1Pv (pc := 7) C cs_X2_70 (k_X2_isSpan h13 (hV.th 0) a ha) ⟨Nat.le_of_ble_eq_true rfl, Nat.le_of_ble_eq_true rfl⟩ (by omega) (Nat.le_of_ble_eq_true rfl) ⟨Nat.le_of_ble_eq_true rfl, Nat.le_of_ble_eq_true rfl⟩ dX2_isThere_7 ?_
  rw [e1]
  refine g_zret (pc := 10) C (bz_or _) (Nat.le_of_ble_eq_true rfl) (Nat.le_of_ble_eq_true rfl) dX2_isThere_10 ?_
  exact ⟨rfl, rfl, rfl⟩
theorem spN_st {h : Nat → Int} {j k : Nat} (hk : j ≤ k) (hh : ∀ t, j ≤ t → t < k → h t = 0) : spN h k = spN h j := by
  induction k with
  | zero => rw [show j = 0 by omega]
  | succ k ih =>
    by_cases e : j = k + 1
    · rw [e]
    · have h1 := ih (by omega) (fun t h2 h3 => hh t h2 (by omega))
      show _ + ite _ _ _ = _
      rw [if_neg (fun q => q (hh k (by omega) (by omega))), h1, Int.add_zero]
theorem k_X2_spans {l : Launch} {cs : CSt} {np : Nat} {ad : Nat → Nat} {T : MT} (h13 : 13 ≤ np) (hV : VM T) : KD l cs yX2_spans (Cond.code yX2_spans cX2_spans 3 (some .int) :: GW) 0 0 0 [.ref (ad 4)] np ad T 0 (some (.int (zI (spN (T 9) 60)))) (np, ad, mst T 4 0 0) := by
  have hV0 := hV.1
  have e6 : mst T 4 0 0 4 6 = T 4 6 := mst_i (by decide)
  have e9 : ∀ j, mst T 4 0 0 9 j = T 9 j := fun j => mst_r (by decide)
  refine KC_of (cc := cX2_spans) (nL := 3) (rt := (some .int)) (by decide) (by simp [grf_cat, cat_int, cat_ref]) (by simp) ?_
  intro p e s m args below meth c A C hE hin
  refine g_eq (lv2 := [some (.ref (ad 4)), none, none]) rfl rfl rfl ?_
  refine g_aload_0 (pc := 0) C dX2_spans_0 ?_
  refine g_iconst (pc := 1) C dX2_spans_1 ?_
  refine g_put_X2_36 (pc := 2) C (by omega) dX2_spans_2 ?_
  refine g_iconst (pc := 5) C dX2_spans_5 ?_
  refine g_istore_1 (pc := 6) C dX2_spans_6 ?_
  refine g_iconst (pc := 7) C dX2_spans_7 ?_
  refine g_istore_2 (pc := 8) C dX2_spans_8 ?_
  obtain ⟨U, hUU⟩ : ∃ U, U = mst T 4 0 0 := ⟨_, rfl⟩
  rw [← hUU] at e6 e9 ⊢
  refine g_loop (σ := Unit) (Tf := fun _ _ => U) (lvf := fun j _ => [some (.ref (ad 4)), some (.int (zI (spN (T 9) j))), some (.int (zI (j : Int)))]) (inv := fun _ _ => True) (N := 60) 0 () trivial (by omega) (fun j _ _ hN ih => ?_)
  have e8 : spN (T 9) (j + 1) = spN (T 9) j + (if T 9 j ≠ 0 then 1 else 0) := rfl
  refine g_iload_2 (pc := 9) C dX2_spans_9 ?_
  refine g_aload_0 (pc := 10) C dX2_spans_10 ?_
  refine g_get_X2_26 (pc := 11) C (by omega) dX2_spans_11 ?_
  rw [e6]
  refine g_icmp_ge (pc := 14) (tgt := 40) C dX2_spans_14 (by decide) (by omega) (by omega) (fun h14 => ?_) (fun h14 => ?_)
  · refine g_iload_1 (pc := 40) C dX2_spans_40 ?_
    refine g_iret (pc := 41) C (Nat.le_of_ble_eq_true rfl) (Nat.le_of_ble_eq_true rfl) dX2_spans_41 ?_
    have e10 := spN_st (h := T 9) (j := j) (k := 60) hN (fun t h1 h2 => (hV.2.1 t (by omega)).2.2.2.2.2.2.2.2.1 (by omega))
    exact ⟨rfl, by rw [e10], rfl⟩
  · have hj := hV.2.1 j (by omega)
    refine g_iload_1 (pc := 17) C dX2_spans_17 ?_
    refine g_aload_0 (pc := 18) C dX2_spans_18 ?_
    refine g_get_X2_22 (pc := 19) C (by omega) dX2_spans_19 ?_
    refine g_iload_2 (pc := 22) C dX2_spans_22 ?_
    first | refine g_aldn_9 (pc := 23) C (by omega) (by omega) dX2_spans_23 ?_ | refine g_ald_9 (pc := 23) C (by omega) (by omega) dX2_spans_23 ?_
    rw [e9]
    refine g_if_eq (pc := 24) (tgt := 31) C dX2_spans_24 (by decide) (by omega) (fun h24 => ?_) (fun h24 => ?_)
    · refine g_iconst (pc := 31) C dX2_spans_31 ?_
      refine g_iadd (pc := 32) C dX2_spans_32 ?_
      refine g_istore_1 (pc := 33) C dX2_spans_33 ?_
      refine g_iinc_2 (pc := 34) C dX2_spans_34 ?_
      refine g_goto (pc := 37) (tgt := 9) C dX2_spans_37 (by decide) ?_
      rw [if_neg (by omega)] at e8
      exact g_eq rfl (by rw [e8]; rfl) rfl (ih () (by omega) trivial)
    · refine g_iconst (pc := 27) C dX2_spans_27 ?_
      refine g_goto (pc := 28) (tgt := 32) C dX2_spans_28 (by decide) ?_
      refine g_iadd (pc := 32) C dX2_spans_32 ?_
      refine g_istore_1 (pc := 33) C dX2_spans_33 ?_
      refine g_iinc_2 (pc := 34) C dX2_spans_34 ?_
      refine g_goto (pc := 37) (tgt := 9) C dX2_spans_37 (by decide) ?_
      rw [if_pos (by omega)] at e8
      exact g_eq rfl (by rw [e8]; rfl) rfl (ih () (by omega) trivial)
theorem k_X2_base {l : Launch} {cs : CSt} {np : Nat} {ad : Nat → Nat} {T : MT} (h13 : 13 ≤ np) (hV : VM T) (a : Int) (ha : -2147483648 ≤ a ∧ a < 2147483648) : KD l cs yX2_base (Cond.code yX2_base cX2_base 2 (some .int) :: GW) 2 0 0 [.ref (ad 4), .int (zI a)] np ad T 0 (some (.int (zI (if isM T a then T 5 a.toNat else 0)))) (np, ad, mst T 4 0 (if isM T a then 0 else 1)) := by
  have hV0 := hV.1
  have b10 : bz ((1 : Int) = 0) = 0 := bz_f (by decide)
  have b20 : bz ((2 : Int) = 0) = 0 := bz_f (by decide)
  have b30 : bz ((3 : Int) = 0) = 0 := bz_f (by decide)
  have b00 : bz ((0 : Int) = 0) = 1 := bz_t (by decide)
  refine KC_of (cc := cX2_base) (nL := 2) (rt := (some .int)) (by decide) (by simp [grf_cat, cat_int, cat_ref]) (by simp) ?_
  intro p e s m args below meth c A C hE hin
  refine g_eq (lv2 := [some (.ref (ad 4)), some (.int (zI a))]) rfl rfl rfl ?_
  by_cases hM : isM T a
  · have bM := bz_t hM
    refine g_aload_0 (pc := 0) C dX2_base_0 ?_
    refine g_aload_0 (pc := 1) C dX2_base_1 ?_
    refine g_iload_1 (pc := 2) C dX2_base_2 ?_
    refine g_cM1Pv (pc := 3) C cs_X2_70 (k_X2_isSpan h13 hV a ha) ⟨Nat.le_of_ble_eq_true rfl, Nat.le_of_ble_eq_true rfl⟩ (by omega) (Nat.le_of_ble_eq_true rfl) ⟨Nat.le_of_ble_eq_true rfl, Nat.le_of_ble_eq_true rfl⟩ dX2_base_3 ?_
    refine g_if_eq (pc := 6) (tgt := 13) C dX2_base_6 (by decide) (by omega) (fun h6 => absurd h6 (by omega)) (fun _ => ?_)
    refine g_iconst (pc := 9) C dX2_base_9 ?_
    refine g_goto (pc := 10) (tgt := 14) C dX2_base_10 (by decide) ?_
    refine g_cM1Pv (pc := 14) C cs_X2_81 (k_X2_goesWell h13 0 (by omega)) ⟨Nat.le_of_ble_eq_true rfl, Nat.le_of_ble_eq_true rfl⟩ (by omega) (Nat.le_of_ble_eq_true rfl) ⟨Nat.le_of_ble_eq_true rfl, Nat.le_of_ble_eq_true rfl⟩ dX2_base_14 ?_
    refine g_if_eq (pc := 17) (tgt := 29) C dX2_base_17 (by decide) (by omega) (fun h17 => absurd h17 (by omega)) (fun _ => ?_)
    refine g_aload_0 (pc := 20) C dX2_base_20 ?_
    refine g_get_X2_7 (pc := 21) C (by omega) dX2_base_21 ?_
    refine g_iload_1 (pc := 24) C dX2_base_24 ?_
    first | refine g_aldn_5 (pc := 25) C (by omega) (by omega) dX2_base_25 ?_ | refine g_ald_5 (pc := 25) C (by omega) (by omega) dX2_base_25 ?_
    rw [mst_r (by decide)]
    refine g_goto (pc := 26) (tgt := 30) C dX2_base_26 (by decide) ?_
    refine g_iret (pc := 30) C (Nat.le_of_ble_eq_true rfl) (Nat.le_of_ble_eq_true rfl) dX2_base_30 ?_
    exact ⟨rfl, by rw [if_pos hM], by rw [if_pos hM]⟩
  · have bM := bz_f hM
    refine g_aload_0 (pc := 0) C dX2_base_0 ?_
    refine g_aload_0 (pc := 1) C dX2_base_1 ?_
    refine g_iload_1 (pc := 2) C dX2_base_2 ?_
    refine g_cM1Pv (pc := 3) C cs_X2_70 (k_X2_isSpan h13 hV a ha) ⟨Nat.le_of_ble_eq_true rfl, Nat.le_of_ble_eq_true rfl⟩ (by omega) (Nat.le_of_ble_eq_true rfl) ⟨Nat.le_of_ble_eq_true rfl, Nat.le_of_ble_eq_true rfl⟩ dX2_base_3 ?_
    refine g_if_eq (pc := 6) (tgt := 13) C dX2_base_6 (by decide) (by omega) (fun _ => ?_) (fun h6 => absurd h6 (by omega))
    refine g_iconst (pc := 13) C dX2_base_13 ?_
    refine g_cM1Pv (pc := 14) C cs_X2_81 (k_X2_goesWell h13 1 (by omega)) ⟨Nat.le_of_ble_eq_true rfl, Nat.le_of_ble_eq_true rfl⟩ (by omega) (Nat.le_of_ble_eq_true rfl) ⟨Nat.le_of_ble_eq_true rfl, Nat.le_of_ble_eq_true rfl⟩ dX2_base_14 ?_
    refine g_if_eq (pc := 17) (tgt := 29) C dX2_base_17 (by decide) (by omega) (fun _ => ?_) (fun h17 => absurd h17 (by omega))
    refine g_iconst (pc := 29) C dX2_base_29 ?_
    refine g_iret (pc := 30) C (Nat.le_of_ble_eq_true rfl) (Nat.le_of_ble_eq_true rfl) dX2_base_30 ?_
    exact ⟨rfl, by rw [if_neg hM], by rw [if_neg hM]⟩
theorem k_X2_size {l : Launch} {cs : CSt} {np : Nat} {ad : Nat → Nat} {T : MT} (h13 : 13 ≤ np) (hV : VM T) (a : Int) (ha : -2147483648 ≤ a ∧ a < 2147483648) : KD l cs yX2_size (Cond.code yX2_size cX2_size 2 (some .int) :: GW) 2 0 0 [.ref (ad 4), .int (zI a)] np ad T 0 (some (.int (zI (if isM T a then T 6 a.toNat else 0)))) (np, ad, mst T 4 0 (if isM T a then 0 else 1)) := by
  have hV0 := hV.1
  have b10 : bz ((1 : Int) = 0) = 0 := bz_f (by decide)
  have b20 : bz ((2 : Int) = 0) = 0 := bz_f (by decide)
  have b30 : bz ((3 : Int) = 0) = 0 := bz_f (by decide)
  have b00 : bz ((0 : Int) = 0) = 1 := bz_t (by decide)
  refine KC_of (cc := cX2_size) (nL := 2) (rt := (some .int)) (by decide) (by simp [grf_cat, cat_int, cat_ref]) (by simp) ?_
  intro p e s m args below meth c A C hE hin
  refine g_eq (lv2 := [some (.ref (ad 4)), some (.int (zI a))]) rfl rfl rfl ?_
  by_cases hM : isM T a
  · have bM := bz_t hM
    refine g_aload_0 (pc := 0) C dX2_size_0 ?_
    refine g_aload_0 (pc := 1) C dX2_size_1 ?_
    refine g_iload_1 (pc := 2) C dX2_size_2 ?_
    refine g_cM1Pv (pc := 3) C cs_X2_70 (k_X2_isSpan h13 hV a ha) ⟨Nat.le_of_ble_eq_true rfl, Nat.le_of_ble_eq_true rfl⟩ (by omega) (Nat.le_of_ble_eq_true rfl) ⟨Nat.le_of_ble_eq_true rfl, Nat.le_of_ble_eq_true rfl⟩ dX2_size_3 ?_
    refine g_if_eq (pc := 6) (tgt := 13) C dX2_size_6 (by decide) (by omega) (fun h6 => absurd h6 (by omega)) (fun _ => ?_)
    refine g_iconst (pc := 9) C dX2_size_9 ?_
    refine g_goto (pc := 10) (tgt := 14) C dX2_size_10 (by decide) ?_
    refine g_cM1Pv (pc := 14) C cs_X2_81 (k_X2_goesWell h13 0 (by omega)) ⟨Nat.le_of_ble_eq_true rfl, Nat.le_of_ble_eq_true rfl⟩ (by omega) (Nat.le_of_ble_eq_true rfl) ⟨Nat.le_of_ble_eq_true rfl, Nat.le_of_ble_eq_true rfl⟩ dX2_size_14 ?_
    refine g_if_eq (pc := 17) (tgt := 29) C dX2_size_17 (by decide) (by omega) (fun h17 => absurd h17 (by omega)) (fun _ => ?_)
    refine g_aload_0 (pc := 20) C dX2_size_20 ?_
    refine g_get_X2_13 (pc := 21) C (by omega) dX2_size_21 ?_
    refine g_iload_1 (pc := 24) C dX2_size_24 ?_
    first | refine g_aldn_6 (pc := 25) C (by omega) (by omega) dX2_size_25 ?_ | refine g_ald_6 (pc := 25) C (by omega) (by omega) dX2_size_25 ?_
    rw [mst_r (by decide)]
    refine g_goto (pc := 26) (tgt := 30) C dX2_size_26 (by decide) ?_
    refine g_iret (pc := 30) C (Nat.le_of_ble_eq_true rfl) (Nat.le_of_ble_eq_true rfl) dX2_size_30 ?_
    exact ⟨rfl, by rw [if_pos hM], by rw [if_pos hM]⟩
  · have bM := bz_f hM
    refine g_aload_0 (pc := 0) C dX2_size_0 ?_
    refine g_aload_0 (pc := 1) C dX2_size_1 ?_
    refine g_iload_1 (pc := 2) C dX2_size_2 ?_
    refine g_cM1Pv (pc := 3) C cs_X2_70 (k_X2_isSpan h13 hV a ha) ⟨Nat.le_of_ble_eq_true rfl, Nat.le_of_ble_eq_true rfl⟩ (by omega) (Nat.le_of_ble_eq_true rfl) ⟨Nat.le_of_ble_eq_true rfl, Nat.le_of_ble_eq_true rfl⟩ dX2_size_3 ?_
    refine g_if_eq (pc := 6) (tgt := 13) C dX2_size_6 (by decide) (by omega) (fun _ => ?_) (fun h6 => absurd h6 (by omega))
    refine g_iconst (pc := 13) C dX2_size_13 ?_
    refine g_cM1Pv (pc := 14) C cs_X2_81 (k_X2_goesWell h13 1 (by omega)) ⟨Nat.le_of_ble_eq_true rfl, Nat.le_of_ble_eq_true rfl⟩ (by omega) (Nat.le_of_ble_eq_true rfl) ⟨Nat.le_of_ble_eq_true rfl, Nat.le_of_ble_eq_true rfl⟩ dX2_size_14 ?_
    refine g_if_eq (pc := 17) (tgt := 29) C dX2_size_17 (by decide) (by omega) (fun _ => ?_) (fun h17 => absurd h17 (by omega))
    refine g_iconst (pc := 29) C dX2_size_29 ?_
    refine g_iret (pc := 30) C (Nat.le_of_ble_eq_true rfl) (Nat.le_of_ble_eq_true rfl) dX2_size_30 ?_
    exact ⟨rfl, by rw [if_neg hM], by rw [if_neg hM]⟩
theorem k_X2_parent {l : Launch} {cs : CSt} {np : Nat} {ad : Nat → Nat} {T : MT} (h13 : 13 ≤ np) (hV : VM T) (a : Int) (ha : -2147483648 ≤ a ∧ a < 2147483648) : KD l cs yX2_parent (Cond.code yX2_parent cX2_parent 2 (some .int) :: GW) 2 0 0 [.ref (ad 4), .int (zI a)] np ad T 0 (some (.int (zI (if isM T a then T 7 a.toNat else 0)))) (np, ad, mst T 4 0 (if isM T a then 0 else 1)) := by
  have hV0 := hV.1
  have b10 : bz ((1 : Int) = 0) = 0 := bz_f (by decide)
  have b20 : bz ((2 : Int) = 0) = 0 := bz_f (by decide)
  have b30 : bz ((3 : Int) = 0) = 0 := bz_f (by decide)
  have b00 : bz ((0 : Int) = 0) = 1 := bz_t (by decide)
  refine KC_of (cc := cX2_parent) (nL := 2) (rt := (some .int)) (by decide) (by simp [grf_cat, cat_int, cat_ref]) (by simp) ?_
  intro p e s m args below meth c A C hE hin
  refine g_eq (lv2 := [some (.ref (ad 4)), some (.int (zI a))]) rfl rfl rfl ?_
  by_cases hM : isM T a
  · have bM := bz_t hM
    refine g_aload_0 (pc := 0) C dX2_parent_0 ?_
    refine g_aload_0 (pc := 1) C dX2_parent_1 ?_
    refine g_iload_1 (pc := 2) C dX2_parent_2 ?_
    refine g_cM1Pv (pc := 3) C cs_X2_70 (k_X2_isSpan h13 hV a ha) ⟨Nat.le_of_ble_eq_true rfl, Nat.le_of_ble_eq_true rfl⟩ (by omega) (Nat.le_of_ble_eq_true rfl) ⟨Nat.le_of_ble_eq_true rfl, Nat.le_of_ble_eq_true rfl⟩ dX2_parent_3 ?_
    refine g_if_eq (pc := 6) (tgt := 13) C dX2_parent_6 (by decide) (by omega) (fun h6 => absurd h6 (by omega)) (fun _ => ?_)
    refine g_iconst (pc := 9) C dX2_parent_9 ?_
    refine g_goto (pc := 10) (tgt := 14) C dX2_parent_10 (by decide) ?_
    refine g_cM1Pv (pc := 14) C cs_X2_81 (k_X2_goesWell h13 0 (by omega)) ⟨Nat.le_of_ble_eq_true rfl, Nat.le_of_ble_eq_true rfl⟩ (by omega) (Nat.le_of_ble_eq_true rfl) ⟨Nat.le_of_ble_eq_true rfl, Nat.le_of_ble_eq_true rfl⟩ dX2_parent_14 ?_
    refine g_if_eq (pc := 17) (tgt := 29) C dX2_parent_17 (by decide) (by omega) (fun h17 => absurd h17 (by omega)) (fun _ => ?_)
    refine g_aload_0 (pc := 20) C dX2_parent_20 ?_
    refine g_get_X2_16 (pc := 21) C (by omega) dX2_parent_21 ?_
    refine g_iload_1 (pc := 24) C dX2_parent_24 ?_
    first | refine g_aldn_7 (pc := 25) C (by omega) (by omega) dX2_parent_25 ?_ | refine g_ald_7 (pc := 25) C (by omega) (by omega) dX2_parent_25 ?_
    rw [mst_r (by decide)]
    refine g_goto (pc := 26) (tgt := 30) C dX2_parent_26 (by decide) ?_
    refine g_iret (pc := 30) C (Nat.le_of_ble_eq_true rfl) (Nat.le_of_ble_eq_true rfl) dX2_parent_30 ?_
    exact ⟨rfl, by rw [if_pos hM], by rw [if_pos hM]⟩
  · have bM := bz_f hM
    refine g_aload_0 (pc := 0) C dX2_parent_0 ?_
    refine g_aload_0 (pc := 1) C dX2_parent_1 ?_
    refine g_iload_1 (pc := 2) C dX2_parent_2 ?_
    refine g_cM1Pv (pc := 3) C cs_X2_70 (k_X2_isSpan h13 hV a ha) ⟨Nat.le_of_ble_eq_true rfl, Nat.le_of_ble_eq_true rfl⟩ (by omega) (Nat.le_of_ble_eq_true rfl) ⟨Nat.le_of_ble_eq_true rfl, Nat.le_of_ble_eq_true rfl⟩ dX2_parent_3 ?_
    refine g_if_eq (pc := 6) (tgt := 13) C dX2_parent_6 (by decide) (by omega) (fun _ => ?_) (fun h6 => absurd h6 (by omega))
    refine g_iconst (pc := 13) C dX2_parent_13 ?_
    refine g_cM1Pv (pc := 14) C cs_X2_81 (k_X2_goesWell h13 1 (by omega)) ⟨Nat.le_of_ble_eq_true rfl, Nat.le_of_ble_eq_true rfl⟩ (by omega) (Nat.le_of_ble_eq_true rfl) ⟨Nat.le_of_ble_eq_true rfl, Nat.le_of_ble_eq_true rfl⟩ dX2_parent_14 ?_
    refine g_if_eq (pc := 17) (tgt := 29) C dX2_parent_17 (by decide) (by omega) (fun _ => ?_) (fun h17 => absurd h17 (by omega))
    refine g_iconst (pc := 29) C dX2_parent_29 ?_
    refine g_iret (pc := 30) C (Nat.le_of_ble_eq_true rfl) (Nat.le_of_ble_eq_true rfl) dX2_parent_30 ?_
    exact ⟨rfl, by rw [if_neg hM], by rw [if_neg hM]⟩
