/-! the model: remove, grow, halve, setOwner, lend, takeBack, pass -/
noncomputable def exMr (T : MT) (a : Int) : Int := if ¬ isM T a then 1 else if a = 0 ∨ hsM T a ∨ lnM T (T 5 a.toNat) (T 6 a.toNat) > 0 then 2 else 0
theorem k_X2_remove {l : Launch} {cs : CSt} {np : Nat} {ad : Nat → Nat} {T : MT} (h13 : 13 ≤ np) (hV : VM T) (a : Int) (ha : -2147483648 ≤ a ∧ a < 2147483648) : KD l cs yX2_remove (Cond.code yX2_remove cX2_remove 3 (some .int) :: GW) 2 0 0 [.ref (ad 4), .int (zI a)] np ad T 0 (some (.int (zI (if exMr T a = 0 then T 6 a.toNat else 0)))) (np, ad, if exMr T a = 0 then mst (mst T 4 0 0) 9 a.toNat 0 else mst T 4 0 (exMr T a)) := by
  have hV0 := hV.1
  have b10 : bz ((1 : Int) = 0) = 0 := bz_f (by decide)
  have b20 : bz ((2 : Int) = 0) = 0 := bz_f (by decide)
  have b30 : bz ((3 : Int) = 0) = 0 := bz_f (by decide)
  have b00 : bz ((0 : Int) = 0) = 1 := bz_t (by decide)
  refine KC_of (cc := cX2_remove) (nL := 3) (rt := (some .int)) (by decide) (by simp [grf_cat, cat_int, cat_ref]) (by simp) ?_
  intro p e s m args below meth c A C hE hin
  refine g_eq (lv2 := [some (.ref (ad 4)), some (.int (zI a)), none]) rfl rfl rfl ?_
  by_cases hM : isM T a
  · have bM := bz_t hM
    have hs := hV.s (x := a) (by omega)
    have hl := lnM_bd T (T 5 a.toNat) (T 6 a.toNat)
    by_cases q0 : a = 0
    · have h2 : a = 0 ∨ hsM T a ∨ lnM T (T 5 a.toNat) (T 6 a.toNat) > 0 := Or.inl q0
      refine g_iload_1 (pc := 0) C dX2_remove_0 ?_
      refine g_if_eq (pc := 1) (tgt := 39) C dX2_remove_1 (by decide) (by omega) (fun _ => ?_) (fun h1 => absurd h1 (by omega))
      have hex : exMr T a = 2 := by rw [exMr, if_neg (fun h => h hM), if_pos h2]
      refine g_iconst (pc := 39) C dX2_remove_39 ?_
      refine g_goto (pc := 40) (tgt := 44) C dX2_remove_40 (by decide) ?_
      refine g_istore_2 (pc := 44) C dX2_remove_44 ?_
      refine g_aload_0 (pc := 45) C dX2_remove_45 ?_
      refine g_aload_0 (pc := 46) C dX2_remove_46 ?_
      refine g_iload_1 (pc := 47) C dX2_remove_47 ?_
      refine g_cM1Pv (pc := 48) C cs_X2_70 (k_X2_isSpan h13 hV a ha) ⟨Nat.le_of_ble_eq_true rfl, Nat.le_of_ble_eq_true rfl⟩ (by omega) (Nat.le_of_ble_eq_true rfl) ⟨Nat.le_of_ble_eq_true rfl, Nat.le_of_ble_eq_true rfl⟩ dX2_remove_48 ?_
      refine g_if_ne (pc := 51) (tgt := 58) C dX2_remove_51 (by decide) (by omega) (fun _ => ?_) (fun h51 => absurd h51 (by omega))
      refine g_iload_2 (pc := 58) C dX2_remove_58 ?_
      refine g_if_eq (pc := 59) (tgt := 66) C dX2_remove_59 (by decide) (by omega) (fun h59 => absurd h59 (by omega)) (fun _ => ?_)
      refine g_iconst (pc := 62) C dX2_remove_62 ?_
      refine g_goto (pc := 63) (tgt := 67) C dX2_remove_63 (by decide) ?_
      refine g_cM1Pv (pc := 67) C cs_X2_81 (k_X2_goesWell h13 2 (by omega)) ⟨Nat.le_of_ble_eq_true rfl, Nat.le_of_ble_eq_true rfl⟩ (by omega) (Nat.le_of_ble_eq_true rfl) ⟨Nat.le_of_ble_eq_true rfl, Nat.le_of_ble_eq_true rfl⟩ dX2_remove_67 ?_
      refine g_if_ne (pc := 70) (tgt := 75) C dX2_remove_70 (by decide) (by omega) (fun h70 => absurd h70 (by omega)) (fun _ => ?_)
      refine g_iconst (pc := 73) C dX2_remove_73 ?_
      refine g_iret (pc := 74) C (Nat.le_of_ble_eq_true rfl) (Nat.le_of_ble_eq_true rfl) dX2_remove_74 ?_
      exact ⟨rfl, by rw [hex]; rfl, by rw [hex]; rfl⟩
    · by_cases qh : hsM T a
      · have bh := bz_t qh
        have h2 : a = 0 ∨ hsM T a ∨ lnM T (T 5 a.toNat) (T 6 a.toNat) > 0 := Or.inr (Or.inl qh)
        refine g_iload_1 (pc := 0) C dX2_remove_0 ?_
        refine g_if_eq (pc := 1) (tgt := 39) C dX2_remove_1 (by decide) (by omega) (fun h1 => absurd h1 (by omega)) (fun _ => ?_)
        refine g_aload_0 (pc := 4) C dX2_remove_4 ?_
        refine g_iload_1 (pc := 5) C dX2_remove_5 ?_
        refine g_cM1Pv (pc := 6) C cs_X2_70 (k_X2_isSpan h13 hV a ha) ⟨Nat.le_of_ble_eq_true rfl, Nat.le_of_ble_eq_true rfl⟩ (by omega) (Nat.le_of_ble_eq_true rfl) ⟨Nat.le_of_ble_eq_true rfl, Nat.le_of_ble_eq_true rfl⟩ dX2_remove_6 ?_
        refine g_if_eq (pc := 9) (tgt := 43) C dX2_remove_9 (by decide) (by omega) (fun h9 => absurd h9 (by omega)) (fun _ => ?_)
        refine g_aload_0 (pc := 12) C dX2_remove_12 ?_
        refine g_iload_1 (pc := 13) C dX2_remove_13 ?_
        refine g_cM1Pv (pc := 14) C cs_X2_56 (k_X2_hasSpans h13 hV a (by omega)) ⟨Nat.le_of_ble_eq_true rfl, Nat.le_of_ble_eq_true rfl⟩ (by omega) (Nat.le_of_ble_eq_true rfl) ⟨Nat.le_of_ble_eq_true rfl, Nat.le_of_ble_eq_true rfl⟩ dX2_remove_14 ?_
        refine g_if_ne (pc := 17) (tgt := 39) C dX2_remove_17 (by decide) (by omega) (fun _ => ?_) (fun h17 => absurd h17 (by omega))
        have hex : exMr T a = 2 := by rw [exMr, if_neg (fun h => h hM), if_pos h2]
        refine g_iconst (pc := 39) C dX2_remove_39 ?_
        refine g_goto (pc := 40) (tgt := 44) C dX2_remove_40 (by decide) ?_
        refine g_istore_2 (pc := 44) C dX2_remove_44 ?_
        refine g_aload_0 (pc := 45) C dX2_remove_45 ?_
        refine g_aload_0 (pc := 46) C dX2_remove_46 ?_
        refine g_iload_1 (pc := 47) C dX2_remove_47 ?_
        refine g_cM1Pv (pc := 48) C cs_X2_70 (k_X2_isSpan h13 hV a ha) ⟨Nat.le_of_ble_eq_true rfl, Nat.le_of_ble_eq_true rfl⟩ (by omega) (Nat.le_of_ble_eq_true rfl) ⟨Nat.le_of_ble_eq_true rfl, Nat.le_of_ble_eq_true rfl⟩ dX2_remove_48 ?_
        refine g_if_ne (pc := 51) (tgt := 58) C dX2_remove_51 (by decide) (by omega) (fun _ => ?_) (fun h51 => absurd h51 (by omega))
        refine g_iload_2 (pc := 58) C dX2_remove_58 ?_
        refine g_if_eq (pc := 59) (tgt := 66) C dX2_remove_59 (by decide) (by omega) (fun h59 => absurd h59 (by omega)) (fun _ => ?_)
        refine g_iconst (pc := 62) C dX2_remove_62 ?_
        refine g_goto (pc := 63) (tgt := 67) C dX2_remove_63 (by decide) ?_
        refine g_cM1Pv (pc := 67) C cs_X2_81 (k_X2_goesWell h13 2 (by omega)) ⟨Nat.le_of_ble_eq_true rfl, Nat.le_of_ble_eq_true rfl⟩ (by omega) (Nat.le_of_ble_eq_true rfl) ⟨Nat.le_of_ble_eq_true rfl, Nat.le_of_ble_eq_true rfl⟩ dX2_remove_67 ?_
        refine g_if_ne (pc := 70) (tgt := 75) C dX2_remove_70 (by decide) (by omega) (fun h70 => absurd h70 (by omega)) (fun _ => ?_)
        refine g_iconst (pc := 73) C dX2_remove_73 ?_
        refine g_iret (pc := 74) C (Nat.le_of_ble_eq_true rfl) (Nat.le_of_ble_eq_true rfl) dX2_remove_74 ?_
        exact ⟨rfl, by rw [hex]; rfl, by rw [hex]; rfl⟩
      · have bh := bz_f qh
        by_cases ql : lnM T (T 5 a.toNat) (T 6 a.toNat) > 0
        · have h2 : a = 0 ∨ hsM T a ∨ lnM T (T 5 a.toNat) (T 6 a.toNat) > 0 := Or.inr (Or.inr ql)
          refine g_iload_1 (pc := 0) C dX2_remove_0 ?_
          refine g_if_eq (pc := 1) (tgt := 39) C dX2_remove_1 (by decide) (by omega) (fun h1 => absurd h1 (by omega)) (fun _ => ?_)
          refine g_aload_0 (pc := 4) C dX2_remove_4 ?_
          refine g_iload_1 (pc := 5) C dX2_remove_5 ?_
          refine g_cM1Pv (pc := 6) C cs_X2_70 (k_X2_isSpan h13 hV a ha) ⟨Nat.le_of_ble_eq_true rfl, Nat.le_of_ble_eq_true rfl⟩ (by omega) (Nat.le_of_ble_eq_true rfl) ⟨Nat.le_of_ble_eq_true rfl, Nat.le_of_ble_eq_true rfl⟩ dX2_remove_6 ?_
          refine g_if_eq (pc := 9) (tgt := 43) C dX2_remove_9 (by decide) (by omega) (fun h9 => absurd h9 (by omega)) (fun _ => ?_)
          refine g_aload_0 (pc := 12) C dX2_remove_12 ?_
          refine g_iload_1 (pc := 13) C dX2_remove_13 ?_
          refine g_cM1Pv (pc := 14) C cs_X2_56 (k_X2_hasSpans h13 hV a (by omega)) ⟨Nat.le_of_ble_eq_true rfl, Nat.le_of_ble_eq_true rfl⟩ (by omega) (Nat.le_of_ble_eq_true rfl) ⟨Nat.le_of_ble_eq_true rfl, Nat.le_of_ble_eq_true rfl⟩ dX2_remove_14 ?_
          refine g_if_ne (pc := 17) (tgt := 39) C dX2_remove_17 (by decide) (by omega) (fun h17 => absurd h17 (by omega)) (fun _ => ?_)
          refine g_aload_0 (pc := 20) C dX2_remove_20 ?_
          refine g_aload_0 (pc := 21) C dX2_remove_21 ?_
          refine g_get_X2_7 (pc := 22) C (by omega) dX2_remove_22 ?_
          refine g_iload_1 (pc := 25) C dX2_remove_25 ?_
          first | refine g_aldn_5 (pc := 26) C (by omega) (by omega) dX2_remove_26 ?_ | refine g_ald_5 (pc := 26) C (by omega) (by omega) dX2_remove_26 ?_
          refine g_aload_0 (pc := 27) C dX2_remove_27 ?_
          refine g_get_X2_13 (pc := 28) C (by omega) dX2_remove_28 ?_
          refine g_iload_1 (pc := 31) C dX2_remove_31 ?_
          first | refine g_aldn_6 (pc := 32) C (by omega) (by omega) dX2_remove_32 ?_ | refine g_ald_6 (pc := 32) C (by omega) (by omega) dX2_remove_32 ?_
          refine g_cM2Pv (pc := 33) C cs_X2_60 (k_X2_lentIn h13 hV _ _ (by omega)) ⟨Nat.le_of_ble_eq_true rfl, Nat.le_of_ble_eq_true rfl⟩ (by omega) (Nat.le_of_ble_eq_true rfl) ⟨Nat.le_of_ble_eq_true rfl, Nat.le_of_ble_eq_true rfl⟩ dX2_remove_33 ?_
          refine g_if_le (pc := 36) (tgt := 43) C dX2_remove_36 (by decide) (by omega) (fun h36 => absurd h36 (by omega)) (fun _ => ?_)
          have hex : exMr T a = 2 := by rw [exMr, if_neg (fun h => h hM), if_pos h2]
          refine g_iconst (pc := 39) C dX2_remove_39 ?_
          refine g_goto (pc := 40) (tgt := 44) C dX2_remove_40 (by decide) ?_
          refine g_istore_2 (pc := 44) C dX2_remove_44 ?_
          refine g_aload_0 (pc := 45) C dX2_remove_45 ?_
          refine g_aload_0 (pc := 46) C dX2_remove_46 ?_
          refine g_iload_1 (pc := 47) C dX2_remove_47 ?_
          refine g_cM1Pv (pc := 48) C cs_X2_70 (k_X2_isSpan h13 hV a ha) ⟨Nat.le_of_ble_eq_true rfl, Nat.le_of_ble_eq_true rfl⟩ (by omega) (Nat.le_of_ble_eq_true rfl) ⟨Nat.le_of_ble_eq_true rfl, Nat.le_of_ble_eq_true rfl⟩ dX2_remove_48 ?_
          refine g_if_ne (pc := 51) (tgt := 58) C dX2_remove_51 (by decide) (by omega) (fun _ => ?_) (fun h51 => absurd h51 (by omega))
          refine g_iload_2 (pc := 58) C dX2_remove_58 ?_
          refine g_if_eq (pc := 59) (tgt := 66) C dX2_remove_59 (by decide) (by omega) (fun h59 => absurd h59 (by omega)) (fun _ => ?_)
          refine g_iconst (pc := 62) C dX2_remove_62 ?_
          refine g_goto (pc := 63) (tgt := 67) C dX2_remove_63 (by decide) ?_
          refine g_cM1Pv (pc := 67) C cs_X2_81 (k_X2_goesWell h13 2 (by omega)) ⟨Nat.le_of_ble_eq_true rfl, Nat.le_of_ble_eq_true rfl⟩ (by omega) (Nat.le_of_ble_eq_true rfl) ⟨Nat.le_of_ble_eq_true rfl, Nat.le_of_ble_eq_true rfl⟩ dX2_remove_67 ?_
          refine g_if_ne (pc := 70) (tgt := 75) C dX2_remove_70 (by decide) (by omega) (fun h70 => absurd h70 (by omega)) (fun _ => ?_)
          refine g_iconst (pc := 73) C dX2_remove_73 ?_
          refine g_iret (pc := 74) C (Nat.le_of_ble_eq_true rfl) (Nat.le_of_ble_eq_true rfl) dX2_remove_74 ?_
          exact ⟨rfl, by rw [hex]; rfl, by rw [hex]; rfl⟩
        · have hex : exMr T a = 0 := by rw [exMr, if_neg (fun h => h hM), if_neg (by rintro (h | h | h); exact q0 h; exact qh h; exact ql h)]
          refine g_iload_1 (pc := 0) C dX2_remove_0 ?_
          refine g_if_eq (pc := 1) (tgt := 39) C dX2_remove_1 (by decide) (by omega) (fun h1 => absurd h1 (by omega)) (fun _ => ?_)
          refine g_aload_0 (pc := 4) C dX2_remove_4 ?_
          refine g_iload_1 (pc := 5) C dX2_remove_5 ?_
          refine g_cM1Pv (pc := 6) C cs_X2_70 (k_X2_isSpan h13 hV a ha) ⟨Nat.le_of_ble_eq_true rfl, Nat.le_of_ble_eq_true rfl⟩ (by omega) (Nat.le_of_ble_eq_true rfl) ⟨Nat.le_of_ble_eq_true rfl, Nat.le_of_ble_eq_true rfl⟩ dX2_remove_6 ?_
          refine g_if_eq (pc := 9) (tgt := 43) C dX2_remove_9 (by decide) (by omega) (fun h9 => absurd h9 (by omega)) (fun _ => ?_)
          refine g_aload_0 (pc := 12) C dX2_remove_12 ?_
          refine g_iload_1 (pc := 13) C dX2_remove_13 ?_
          refine g_cM1Pv (pc := 14) C cs_X2_56 (k_X2_hasSpans h13 hV a (by omega)) ⟨Nat.le_of_ble_eq_true rfl, Nat.le_of_ble_eq_true rfl⟩ (by omega) (Nat.le_of_ble_eq_true rfl) ⟨Nat.le_of_ble_eq_true rfl, Nat.le_of_ble_eq_true rfl⟩ dX2_remove_14 ?_
          refine g_if_ne (pc := 17) (tgt := 39) C dX2_remove_17 (by decide) (by omega) (fun h17 => absurd h17 (by omega)) (fun _ => ?_)
          refine g_aload_0 (pc := 20) C dX2_remove_20 ?_
          refine g_aload_0 (pc := 21) C dX2_remove_21 ?_
          refine g_get_X2_7 (pc := 22) C (by omega) dX2_remove_22 ?_
          refine g_iload_1 (pc := 25) C dX2_remove_25 ?_
          first | refine g_aldn_5 (pc := 26) C (by omega) (by omega) dX2_remove_26 ?_ | refine g_ald_5 (pc := 26) C (by omega) (by omega) dX2_remove_26 ?_
          refine g_aload_0 (pc := 27) C dX2_remove_27 ?_
          refine g_get_X2_13 (pc := 28) C (by omega) dX2_remove_28 ?_
          refine g_iload_1 (pc := 31) C dX2_remove_31 ?_
          first | refine g_aldn_6 (pc := 32) C (by omega) (by omega) dX2_remove_32 ?_ | refine g_ald_6 (pc := 32) C (by omega) (by omega) dX2_remove_32 ?_
          refine g_cM2Pv (pc := 33) C cs_X2_60 (k_X2_lentIn h13 hV _ _ (by omega)) ⟨Nat.le_of_ble_eq_true rfl, Nat.le_of_ble_eq_true rfl⟩ (by omega) (Nat.le_of_ble_eq_true rfl) ⟨Nat.le_of_ble_eq_true rfl, Nat.le_of_ble_eq_true rfl⟩ dX2_remove_33 ?_
          refine g_if_le (pc := 36) (tgt := 43) C dX2_remove_36 (by decide) (by omega) (fun _ => ?_) (fun h36 => absurd h36 (by omega))
          refine g_iconst (pc := 43) C dX2_remove_43 ?_
          refine g_istore_2 (pc := 44) C dX2_remove_44 ?_
          refine g_aload_0 (pc := 45) C dX2_remove_45 ?_
          refine g_aload_0 (pc := 46) C dX2_remove_46 ?_
          refine g_iload_1 (pc := 47) C dX2_remove_47 ?_
          refine g_cM1Pv (pc := 48) C cs_X2_70 (k_X2_isSpan h13 hV a ha) ⟨Nat.le_of_ble_eq_true rfl, Nat.le_of_ble_eq_true rfl⟩ (by omega) (Nat.le_of_ble_eq_true rfl) ⟨Nat.le_of_ble_eq_true rfl, Nat.le_of_ble_eq_true rfl⟩ dX2_remove_48 ?_
          refine g_if_ne (pc := 51) (tgt := 58) C dX2_remove_51 (by decide) (by omega) (fun _ => ?_) (fun h51 => absurd h51 (by omega))
          refine g_iload_2 (pc := 58) C dX2_remove_58 ?_
          refine g_if_eq (pc := 59) (tgt := 66) C dX2_remove_59 (by decide) (by omega) (fun _ => ?_) (fun h59 => absurd h59 (by omega))
          refine g_iconst (pc := 66) C dX2_remove_66 ?_
          refine g_cM1Pv (pc := 67) C cs_X2_81 (k_X2_goesWell h13 0 (by omega)) ⟨Nat.le_of_ble_eq_true rfl, Nat.le_of_ble_eq_true rfl⟩ (by omega) (Nat.le_of_ble_eq_true rfl) ⟨Nat.le_of_ble_eq_true rfl, Nat.le_of_ble_eq_true rfl⟩ dX2_remove_67 ?_
          refine g_if_ne (pc := 70) (tgt := 75) C dX2_remove_70 (by decide) (by omega) (fun _ => ?_) (fun h70 => absurd h70 (by omega))
          refine g_aload_0 (pc := 75) C dX2_remove_75 ?_
          refine g_get_X2_22 (pc := 76) C (by omega) dX2_remove_76 ?_
          refine g_iload_1 (pc := 79) C dX2_remove_79 ?_
          refine g_iconst (pc := 80) C dX2_remove_80 ?_
          first | refine g_astn_9 (pc := 81) C (by omega) (by omega) (by omega) dX2_remove_81 ?_ | refine g_ast_9 (pc := 81) C (by omega) (by omega) (by omega) dX2_remove_81 ?_
          refine g_aload_0 (pc := 82) C dX2_remove_82 ?_
          refine g_get_X2_13 (pc := 83) C (by omega) dX2_remove_83 ?_
          refine g_iload_1 (pc := 86) C dX2_remove_86 ?_
          first | refine g_aldn_6 (pc := 87) C (by omega) (by omega) dX2_remove_87 ?_ | refine g_ald_6 (pc := 87) C (by omega) (by omega) dX2_remove_87 ?_
          rw [mst_r (by decide), mst_r (by decide)]
          refine g_iret (pc := 88) C (Nat.le_of_ble_eq_true rfl) (Nat.le_of_ble_eq_true rfl) dX2_remove_88 ?_
          exact ⟨rfl, by rw [hex]; rfl, by rw [hex]; rfl⟩
  · have bM := bz_f hM
    have hex : exMr T a = 1 := by rw [exMr, if_pos hM]
    by_cases q0 : a = 0
    · refine g_iload_1 (pc := 0) C dX2_remove_0 ?_
      refine g_if_eq (pc := 1) (tgt := 39) C dX2_remove_1 (by decide) (by omega) (fun _ => ?_) (fun h1 => absurd h1 (by omega))
      refine g_iconst (pc := 39) C dX2_remove_39 ?_
      refine g_goto (pc := 40) (tgt := 44) C dX2_remove_40 (by decide) ?_
      refine g_istore_2 (pc := 44) C dX2_remove_44 ?_
      refine g_aload_0 (pc := 45) C dX2_remove_45 ?_
      refine g_aload_0 (pc := 46) C dX2_remove_46 ?_
      refine g_iload_1 (pc := 47) C dX2_remove_47 ?_
      refine g_cM1Pv (pc := 48) C cs_X2_70 (k_X2_isSpan h13 hV a ha) ⟨Nat.le_of_ble_eq_true rfl, Nat.le_of_ble_eq_true rfl⟩ (by omega) (Nat.le_of_ble_eq_true rfl) ⟨Nat.le_of_ble_eq_true rfl, Nat.le_of_ble_eq_true rfl⟩ dX2_remove_48 ?_
      refine g_if_ne (pc := 51) (tgt := 58) C dX2_remove_51 (by decide) (by omega) (fun h51 => absurd h51 (by omega)) (fun _ => ?_)
      refine g_iconst (pc := 54) C dX2_remove_54 ?_
      refine g_goto (pc := 55) (tgt := 67) C dX2_remove_55 (by decide) ?_
      refine g_cM1Pv (pc := 67) C cs_X2_81 (k_X2_goesWell h13 1 (by omega)) ⟨Nat.le_of_ble_eq_true rfl, Nat.le_of_ble_eq_true rfl⟩ (by omega) (Nat.le_of_ble_eq_true rfl) ⟨Nat.le_of_ble_eq_true rfl, Nat.le_of_ble_eq_true rfl⟩ dX2_remove_67 ?_
      refine g_if_ne (pc := 70) (tgt := 75) C dX2_remove_70 (by decide) (by omega) (fun h70 => absurd h70 (by omega)) (fun _ => ?_)
      refine g_iconst (pc := 73) C dX2_remove_73 ?_
      refine g_iret (pc := 74) C (Nat.le_of_ble_eq_true rfl) (Nat.le_of_ble_eq_true rfl) dX2_remove_74 ?_
      exact ⟨rfl, by rw [hex]; rfl, by rw [hex]; rfl⟩
    · refine g_iload_1 (pc := 0) C dX2_remove_0 ?_
      refine g_if_eq (pc := 1) (tgt := 39) C dX2_remove_1 (by decide) (by omega) (fun h1 => absurd h1 (by omega)) (fun _ => ?_)
      refine g_aload_0 (pc := 4) C dX2_remove_4 ?_
      refine g_iload_1 (pc := 5) C dX2_remove_5 ?_
      refine g_cM1Pv (pc := 6) C cs_X2_70 (k_X2_isSpan h13 hV a ha) ⟨Nat.le_of_ble_eq_true rfl, Nat.le_of_ble_eq_true rfl⟩ (by omega) (Nat.le_of_ble_eq_true rfl) ⟨Nat.le_of_ble_eq_true rfl, Nat.le_of_ble_eq_true rfl⟩ dX2_remove_6 ?_
      refine g_if_eq (pc := 9) (tgt := 43) C dX2_remove_9 (by decide) (by omega) (fun _ => ?_) (fun h9 => absurd h9 (by omega))
      refine g_iconst (pc := 43) C dX2_remove_43 ?_
      refine g_istore_2 (pc := 44) C dX2_remove_44 ?_
      refine g_aload_0 (pc := 45) C dX2_remove_45 ?_
      refine g_aload_0 (pc := 46) C dX2_remove_46 ?_
      refine g_iload_1 (pc := 47) C dX2_remove_47 ?_
      refine g_cM1Pv (pc := 48) C cs_X2_70 (k_X2_isSpan h13 hV a ha) ⟨Nat.le_of_ble_eq_true rfl, Nat.le_of_ble_eq_true rfl⟩ (by omega) (Nat.le_of_ble_eq_true rfl) ⟨Nat.le_of_ble_eq_true rfl, Nat.le_of_ble_eq_true rfl⟩ dX2_remove_48 ?_
      refine g_if_ne (pc := 51) (tgt := 58) C dX2_remove_51 (by decide) (by omega) (fun h51 => absurd h51 (by omega)) (fun _ => ?_)
      refine g_iconst (pc := 54) C dX2_remove_54 ?_
      refine g_goto (pc := 55) (tgt := 67) C dX2_remove_55 (by decide) ?_
      refine g_cM1Pv (pc := 67) C cs_X2_81 (k_X2_goesWell h13 1 (by omega)) ⟨Nat.le_of_ble_eq_true rfl, Nat.le_of_ble_eq_true rfl⟩ (by omega) (Nat.le_of_ble_eq_true rfl) ⟨Nat.le_of_ble_eq_true rfl, Nat.le_of_ble_eq_true rfl⟩ dX2_remove_67 ?_
      refine g_if_ne (pc := 70) (tgt := 75) C dX2_remove_70 (by decide) (by omega) (fun h70 => absurd h70 (by omega)) (fun _ => ?_)
      refine g_iconst (pc := 73) C dX2_remove_73 ?_
      refine g_iret (pc := 74) C (Nat.le_of_ble_eq_true rfl) (Nat.le_of_ble_eq_true rfl) dX2_remove_74 ?_
      exact ⟨rfl, by rw [hex]; rfl, by rw [hex]; rfl⟩
abbrev grM (T : MT) (a : Int) : Int := T 5 a.toNat - T 5 a.toNat % (2 * T 6 a.toNat)
abbrev gwM (T : MT) (a : Int) : Prop := a ≠ 0 ∧ liM T (T 7 a.toNat) (grM T a) (2 * T 6 a.toNat) ∧ 2 * T 6 a.toNat < T 6 (T 7 a.toNat).toNat ∧ cntM T (T 7 a.toNat) (grM T a) (2 * T 6 a.toNat) a = 0
theorem k_X2_canGrow {l : Launch} {cs : CSt} {np : Nat} {ad : Nat → Nat} {T : MT} (h13 : 13 ≤ np) (hV : VM T) (a : Int) (ha : 0 ≤ a ∧ a < 64) (hz : pw13 (T 6 a.toNat)) (h7 : a ≠ 0 → 0 ≤ T 7 a.toNat) : KD l cs yX2_canGrow (Cond.code yX2_canGrow cX2_canGrow 5 (some .boolean) :: GW) 1 0 0 [.ref (ad 4), .int (zI a)] np ad T 0 (some (.int (zI (bz (gwM T a))))) (np, ad, T) := by
  have hV0 := hV.1
  have b10 : bz ((1 : Int) = 0) = 0 := bz_f (by decide)
  have b20 : bz ((2 : Int) = 0) = 0 := bz_f (by decide)
  have b30 : bz ((3 : Int) = 0) = 0 := bz_f (by decide)
  have b00 : bz ((0 : Int) = 0) = 1 := bz_t (by decide)
  have hs := hV.s ha
  have hm := md_b (B := T 5 a.toNat) (t := 2 * T 6 a.toNat) (by omega) (by have := pw13_b hz; omega)
  have hz2 : 1 ≤ T 6 a.toNat := (pw13_b hz).1
  have hmg : 0 ≤ grM T a ∧ grM T a ≤ T 5 a.toNat := hm
  have hm5 : 0 ≤ T 5 a.toNat ∧ T 5 a.toNat < 2147483648 := by omega
  refine KC_of (cc := cX2_canGrow) (nL := 5) (rt := (some .boolean)) (by decide) (by simp [grf_cat, cat_int, cat_ref]) (by simp) ?_
  intro p e s m args below meth c A C hE hin
  refine g_eq (lv2 := [some (.ref (ad 4)), some (.int (zI a)), none, none, none]) rfl rfl rfl ?_
  by_cases q0 : a = 0
  · refine g_iload_1 (pc := 0) C dX2_canGrow_0 ?_
    refine g_if_ne (pc := 1) (tgt := 6) C dX2_canGrow_1 (by decide) (by omega) (fun h1 => absurd h1 (by omega)) (fun _ => ?_)
    refine g_iconst (pc := 4) C dX2_canGrow_4 ?_
    refine g_zret (pc := 5) C (by omega) (Nat.le_of_ble_eq_true rfl) (Nat.le_of_ble_eq_true rfl) dX2_canGrow_5 ?_
    exact ⟨rfl, by rw [bz_f (fun h => h.1 q0)], rfl⟩
  · have h70 := h7 q0
    have hs7 := hV.s (x := T 7 a.toNat) (by omega)
    by_cases q1 : liM T (T 7 a.toNat) (grM T a) (2 * T 6 a.toNat)
    · have b1 := bz_t q1
      have hc := cntM_bd T (T 7 a.toNat) (grM T a) (2 * T 6 a.toNat) a
      refine g_iload_1 (pc := 0) C dX2_canGrow_0 ?_
      refine g_if_ne (pc := 1) (tgt := 6) C dX2_canGrow_1 (by decide) (by omega) (fun _ => ?_) (fun h1 => absurd h1 (by omega))
      refine g_iconst (pc := 6) C dX2_canGrow_6 ?_
      refine g_aload_0 (pc := 7) C dX2_canGrow_7 ?_
      refine g_get_X2_13 (pc := 8) C (by omega) dX2_canGrow_8 ?_
      refine g_iload_1 (pc := 11) C dX2_canGrow_11 ?_
      first | refine g_aldn_6 (pc := 12) C (by omega) (by omega) dX2_canGrow_12 ?_ | refine g_ald_6 (pc := 12) C (by omega) (by omega) dX2_canGrow_12 ?_
      refine g_imul (pc := 13) C dX2_canGrow_13 ?_
      refine g_istore_2 (pc := 14) C dX2_canGrow_14 ?_
      refine g_aload_0 (pc := 15) C dX2_canGrow_15 ?_
      refine g_get_X2_7 (pc := 16) C (by omega) dX2_canGrow_16 ?_
      refine g_iload_1 (pc := 19) C dX2_canGrow_19 ?_
      first | refine g_aldn_5 (pc := 20) C (by omega) (by omega) dX2_canGrow_20 ?_ | refine g_ald_5 (pc := 20) C (by omega) (by omega) dX2_canGrow_20 ?_
      refine g_iload_2 (pc := 21) C dX2_canGrow_21 ?_
      refine g_ineg (pc := 22) C dX2_canGrow_22 ?_
      refine g_iandz (pc := 23) C dX2_canGrow_23 (and_neg hm5 (pw13_2 hz)) ?_
      refine g_istore_3 (pc := 24) C dX2_canGrow_24 ?_
      refine g_aload_0 (pc := 25) C dX2_canGrow_25 ?_
      refine g_get_X2_16 (pc := 26) C (by omega) dX2_canGrow_26 ?_
      refine g_iload_1 (pc := 29) C dX2_canGrow_29 ?_
      first | refine g_aldn_7 (pc := 30) C (by omega) (by omega) dX2_canGrow_30 ?_ | refine g_ald_7 (pc := 30) C (by omega) (by omega) dX2_canGrow_30 ?_
      refine g_istore_4 (pc := 31) C dX2_canGrow_31 ?_
      refine g_aload_0 (pc := 33) C dX2_canGrow_33 ?_
      refine g_iload_4 (pc := 34) C dX2_canGrow_34 ?_
      refine g_iload_3 (pc := 36) C dX2_canGrow_36 ?_
      refine g_iload_2 (pc := 37) C dX2_canGrow_37 ?_
      refine g_cM3Pv (pc := 38) C cs_X2_43 (k_X2_liesIn h13 hV (T 7 a.toNat) (grM T a) (2 * T 6 a.toNat) (by omega) (by omega)) ⟨Nat.le_of_ble_eq_true rfl, Nat.le_of_ble_eq_true rfl⟩ (by omega) (Nat.le_of_ble_eq_true rfl) ⟨Nat.le_of_ble_eq_true rfl, Nat.le_of_ble_eq_true rfl⟩ dX2_canGrow_38 ?_
      refine g_if_eq (pc := 41) (tgt := 71) C dX2_canGrow_41 (by decide) (by omega) (fun h41 => absurd h41 (by omega)) (fun _ => ?_)
      refine g_iload_2 (pc := 44) C dX2_canGrow_44 ?_
      refine g_aload_0 (pc := 45) C dX2_canGrow_45 ?_
      refine g_get_X2_13 (pc := 46) C (by omega) dX2_canGrow_46 ?_
      refine g_iload_4 (pc := 49) C dX2_canGrow_49 ?_
      first | refine g_aldn_6 (pc := 51) C (by omega) (by omega) dX2_canGrow_51 ?_ | refine g_ald_6 (pc := 51) C (by omega) (by omega) dX2_canGrow_51 ?_
      refine g_icmp_ge (pc := 52) (tgt := 71) C dX2_canGrow_52 (by decide) (by omega) (by omega) (fun h52 => ?_) (fun h52 => ?_)
      · refine g_iconst (pc := 71) C dX2_canGrow_71 ?_
        refine g_zret (pc := 72) C (by omega) (Nat.le_of_ble_eq_true rfl) (Nat.le_of_ble_eq_true rfl) dX2_canGrow_72 ?_
        exact ⟨rfl, by rw [bz_f (fun h => by have := h.2.2.1; omega)], rfl⟩
      · refine g_aload_0 (pc := 55) C dX2_canGrow_55 ?_
        refine g_iload_4 (pc := 56) C dX2_canGrow_56 ?_
        refine g_iload_3 (pc := 58) C dX2_canGrow_58 ?_
        refine g_iload_2 (pc := 59) C dX2_canGrow_59 ?_
        refine g_iload_1 (pc := 60) C dX2_canGrow_60 ?_
        refine g_cM4Pv (pc := 61) C cs_X2_46 (k_X2_countIn h13 hV (T 7 a.toNat) (grM T a) (2 * T 6 a.toNat) a (by omega) (by omega) (by omega)) ⟨Nat.le_of_ble_eq_true rfl, Nat.le_of_ble_eq_true rfl⟩ (by omega) (Nat.le_of_ble_eq_true rfl) ⟨Nat.le_of_ble_eq_true rfl, Nat.le_of_ble_eq_true rfl⟩ dX2_canGrow_61 ?_
        refine g_if_ne (pc := 64) (tgt := 71) C dX2_canGrow_64 (by decide) (by omega) (fun h64 => ?_) (fun h64 => ?_)
        · refine g_iconst (pc := 71) C dX2_canGrow_71 ?_
          refine g_zret (pc := 72) C (by omega) (Nat.le_of_ble_eq_true rfl) (Nat.le_of_ble_eq_true rfl) dX2_canGrow_72 ?_
          exact ⟨rfl, by rw [bz_f (fun h => by have := h.2.2.2; omega)], rfl⟩
        · refine g_iconst (pc := 67) C dX2_canGrow_67 ?_
          refine g_goto (pc := 68) (tgt := 72) C dX2_canGrow_68 (by decide) ?_
          refine g_zret (pc := 72) C (by omega) (Nat.le_of_ble_eq_true rfl) (Nat.le_of_ble_eq_true rfl) dX2_canGrow_72 ?_
          exact ⟨rfl, by rw [bz_t ⟨q0, q1, by omega, by omega⟩], rfl⟩
    · have b1 := bz_f q1
      refine g_iload_1 (pc := 0) C dX2_canGrow_0 ?_
      refine g_if_ne (pc := 1) (tgt := 6) C dX2_canGrow_1 (by decide) (by omega) (fun _ => ?_) (fun h1 => absurd h1 (by omega))
      refine g_iconst (pc := 6) C dX2_canGrow_6 ?_
      refine g_aload_0 (pc := 7) C dX2_canGrow_7 ?_
      refine g_get_X2_13 (pc := 8) C (by omega) dX2_canGrow_8 ?_
      refine g_iload_1 (pc := 11) C dX2_canGrow_11 ?_
      first | refine g_aldn_6 (pc := 12) C (by omega) (by omega) dX2_canGrow_12 ?_ | refine g_ald_6 (pc := 12) C (by omega) (by omega) dX2_canGrow_12 ?_
      refine g_imul (pc := 13) C dX2_canGrow_13 ?_
      refine g_istore_2 (pc := 14) C dX2_canGrow_14 ?_
      refine g_aload_0 (pc := 15) C dX2_canGrow_15 ?_
      refine g_get_X2_7 (pc := 16) C (by omega) dX2_canGrow_16 ?_
      refine g_iload_1 (pc := 19) C dX2_canGrow_19 ?_
      first | refine g_aldn_5 (pc := 20) C (by omega) (by omega) dX2_canGrow_20 ?_ | refine g_ald_5 (pc := 20) C (by omega) (by omega) dX2_canGrow_20 ?_
      refine g_iload_2 (pc := 21) C dX2_canGrow_21 ?_
      refine g_ineg (pc := 22) C dX2_canGrow_22 ?_
      refine g_iandz (pc := 23) C dX2_canGrow_23 (and_neg hm5 (pw13_2 hz)) ?_
      refine g_istore_3 (pc := 24) C dX2_canGrow_24 ?_
      refine g_aload_0 (pc := 25) C dX2_canGrow_25 ?_
      refine g_get_X2_16 (pc := 26) C (by omega) dX2_canGrow_26 ?_
      refine g_iload_1 (pc := 29) C dX2_canGrow_29 ?_
      first | refine g_aldn_7 (pc := 30) C (by omega) (by omega) dX2_canGrow_30 ?_ | refine g_ald_7 (pc := 30) C (by omega) (by omega) dX2_canGrow_30 ?_
      refine g_istore_4 (pc := 31) C dX2_canGrow_31 ?_
      refine g_aload_0 (pc := 33) C dX2_canGrow_33 ?_
      refine g_iload_4 (pc := 34) C dX2_canGrow_34 ?_
      refine g_iload_3 (pc := 36) C dX2_canGrow_36 ?_
      refine g_iload_2 (pc := 37) C dX2_canGrow_37 ?_
      refine g_cM3Pv (pc := 38) C cs_X2_43 (k_X2_liesIn h13 hV (T 7 a.toNat) (grM T a) (2 * T 6 a.toNat) (by omega) (by omega)) ⟨Nat.le_of_ble_eq_true rfl, Nat.le_of_ble_eq_true rfl⟩ (by omega) (Nat.le_of_ble_eq_true rfl) ⟨Nat.le_of_ble_eq_true rfl, Nat.le_of_ble_eq_true rfl⟩ dX2_canGrow_38 ?_
      refine g_if_eq (pc := 41) (tgt := 71) C dX2_canGrow_41 (by decide) (by omega) (fun _ => ?_) (fun h41 => absurd h41 (by omega))
      refine g_iconst (pc := 71) C dX2_canGrow_71 ?_
      refine g_zret (pc := 72) C (by omega) (Nat.le_of_ble_eq_true rfl) (Nat.le_of_ble_eq_true rfl) dX2_canGrow_72 ?_
      exact ⟨rfl, by rw [bz_f (fun h => q1 h.2.1)], rfl⟩
noncomputable def exMg (T : MT) (a : Int) : Int := if ¬ isM T a then 1 else if gwM T a then 0 else 2
theorem k_X2_grow {l : Launch} {cs : CSt} {np : Nat} {ad : Nat → Nat} {T : MT} (h13 : 13 ≤ np) (hV : VM T) (a : Int) (ha : -2147483648 ≤ a ∧ a < 2147483648) (hz : isM T a → pw13 (T 6 a.toNat)) (h7 : isM T a → a ≠ 0 → 0 ≤ T 7 a.toNat) : KD l cs yX2_grow (Cond.code yX2_grow cX2_grow 3 (some .int) :: GW) 2 0 0 [.ref (ad 4), .int (zI a)] np ad T 0 (some (.int (zI (if exMg T a = 0 then grM T a else 0)))) (np, ad, if exMg T a = 0 then mst (mst (mst T 4 0 0) 6 a.toNat (2 * T 6 a.toNat)) 5 a.toNat (grM T a) else mst T 4 0 (exMg T a)) := by
  have hV0 := hV.1
  have b10 : bz ((1 : Int) = 0) = 0 := bz_f (by decide)
  have b20 : bz ((2 : Int) = 0) = 0 := bz_f (by decide)
  have b30 : bz ((3 : Int) = 0) = 0 := bz_f (by decide)
  have b00 : bz ((0 : Int) = 0) = 1 := bz_t (by decide)
  refine KC_of (cc := cX2_grow) (nL := 3) (rt := (some .int)) (by decide) (by simp [grf_cat, cat_int, cat_ref]) (by simp) ?_
  intro p e s m args below meth c A C hE hin
  refine g_eq (lv2 := [some (.ref (ad 4)), some (.int (zI a)), none]) rfl rfl rfl ?_
  by_cases hM : isM T a
  · have bM := bz_t hM
    have hs := hV.s (x := a) (by omega)
    have hz1 := hz hM
    have hz2 : 1 ≤ T 6 a.toNat := (pw13_b hz1).1
    have hm5 : 0 ≤ T 5 a.toNat ∧ T 5 a.toNat < 2147483648 := by omega
    have hm := md_b (B := T 5 a.toNat) (t := 2 * T 6 a.toNat) (by omega) (by omega)
    by_cases hG : gwM T a
    · have bG := bz_t hG
      have hex : exMg T a = 0 := by rw [exMg, if_neg (fun h => h hM), if_pos hG]
      refine g_aload_0 (pc := 0) C dX2_grow_0 ?_
      refine g_iload_1 (pc := 1) C dX2_grow_1 ?_
      refine g_cM1Pv (pc := 2) C cs_X2_70 (k_X2_isSpan h13 hV a ha) ⟨Nat.le_of_ble_eq_true rfl, Nat.le_of_ble_eq_true rfl⟩ (by omega) (Nat.le_of_ble_eq_true rfl) ⟨Nat.le_of_ble_eq_true rfl, Nat.le_of_ble_eq_true rfl⟩ dX2_grow_2 ?_
      refine g_if_eq (pc := 5) (tgt := 20) C dX2_grow_5 (by decide) (by omega) (fun h5 => absurd h5 (by omega)) (fun _ => ?_)
      refine g_aload_0 (pc := 8) C dX2_grow_8 ?_
      refine g_iload_1 (pc := 9) C dX2_grow_9 ?_
      refine g_cM1Pv (pc := 10) C cs_X2_87 (k_X2_canGrow h13 hV a (by omega) hz1 (h7 hM)) ⟨Nat.le_of_ble_eq_true rfl, Nat.le_of_ble_eq_true rfl⟩ (by omega) (Nat.le_of_ble_eq_true rfl) ⟨Nat.le_of_ble_eq_true rfl, Nat.le_of_ble_eq_true rfl⟩ dX2_grow_10 ?_
      refine g_if_eq (pc := 13) (tgt := 20) C dX2_grow_13 (by decide) (by omega) (fun h13 => absurd h13 (by omega)) (fun _ => ?_)
      refine g_iconst (pc := 16) C dX2_grow_16 ?_
      refine g_goto (pc := 17) (tgt := 21) C dX2_grow_17 (by decide) ?_
      refine g_istore_2 (pc := 21) C dX2_grow_21 ?_
      refine g_aload_0 (pc := 22) C dX2_grow_22 ?_
      refine g_aload_0 (pc := 23) C dX2_grow_23 ?_
      refine g_iload_1 (pc := 24) C dX2_grow_24 ?_
      refine g_cM1Pv (pc := 25) C cs_X2_70 (k_X2_isSpan h13 hV a ha) ⟨Nat.le_of_ble_eq_true rfl, Nat.le_of_ble_eq_true rfl⟩ (by omega) (Nat.le_of_ble_eq_true rfl) ⟨Nat.le_of_ble_eq_true rfl, Nat.le_of_ble_eq_true rfl⟩ dX2_grow_25 ?_
      refine g_if_ne (pc := 28) (tgt := 35) C dX2_grow_28 (by decide) (by omega) (fun _ => ?_) (fun h28 => absurd h28 (by omega))
      refine g_iload_2 (pc := 35) C dX2_grow_35 ?_
      refine g_if_eq (pc := 36) (tgt := 43) C dX2_grow_36 (by decide) (by omega) (fun h36 => absurd h36 (by omega)) (fun _ => ?_)
      refine g_iconst (pc := 39) C dX2_grow_39 ?_
      refine g_goto (pc := 40) (tgt := 44) C dX2_grow_40 (by decide) ?_
      refine g_cM1Pv (pc := 44) C cs_X2_81 (k_X2_goesWell h13 0 (by omega)) ⟨Nat.le_of_ble_eq_true rfl, Nat.le_of_ble_eq_true rfl⟩ (by omega) (Nat.le_of_ble_eq_true rfl) ⟨Nat.le_of_ble_eq_true rfl, Nat.le_of_ble_eq_true rfl⟩ dX2_grow_44 ?_
      refine g_if_ne (pc := 47) (tgt := 52) C dX2_grow_47 (by decide) (by omega) (fun _ => ?_) (fun h47 => absurd h47 (by omega))
      refine g_aload_0 (pc := 52) C dX2_grow_52 ?_
      refine g_get_X2_13 (pc := 53) C (by omega) dX2_grow_53 ?_
      refine g_iload_1 (pc := 56) C dX2_grow_56 ?_
      refine g_dup2 (pc := 57) C dX2_grow_57 rfl rfl ?_
      first | refine g_aldn_6 (pc := 58) C (by omega) (by omega) dX2_grow_58 ?_ | refine g_ald_6 (pc := 58) C (by omega) (by omega) dX2_grow_58 ?_
      rw [mst_r (by decide)]
      refine g_iconst (pc := 59) C dX2_grow_59 ?_
      refine g_imul (pc := 60) C dX2_grow_60 ?_
      refine g_eq (st2 := [.int (zI (2 * T 6 a.toNat)), .int (zI a), .ref (ad 6)]) rfl rfl (by rw [Int.mul_comm]) ?_
      first | refine g_astn_6 (pc := 61) C (by omega) (by omega) dX2_grow_61 ?_ | refine g_ast_6 (pc := 61) C (by omega) (by omega) dX2_grow_61 ?_
      refine g_aload_0 (pc := 62) C dX2_grow_62 ?_
      refine g_get_X2_7 (pc := 63) C (by omega) dX2_grow_63 ?_
      refine g_iload_1 (pc := 66) C dX2_grow_66 ?_
      refine g_dup2 (pc := 67) C dX2_grow_67 rfl rfl ?_
      first | refine g_aldn_5 (pc := 68) C (by omega) (by omega) dX2_grow_68 ?_ | refine g_ald_5 (pc := 68) C (by omega) (by omega) dX2_grow_68 ?_
      rw [mst_r (by decide), mst_r (by decide)]
      refine g_aload_0 (pc := 69) C dX2_grow_69 ?_
      refine g_get_X2_13 (pc := 70) C (by omega) dX2_grow_70 ?_
      refine g_iload_1 (pc := 73) C dX2_grow_73 ?_
      first | refine g_aldn_6 (pc := 74) C (by omega) (by omega) dX2_grow_74 ?_ | refine g_ald_6 (pc := 74) C (by omega) (by omega) dX2_grow_74 ?_
      rw [mst_eq]
      refine g_ineg (pc := 75) C dX2_grow_75 ?_
      refine g_iandz (pc := 76) C dX2_grow_76 (and_neg hm5 (pw13_2 hz1)) ?_
      first | refine g_astn_5 (pc := 77) C (by omega) (by omega) dX2_grow_77 ?_ | refine g_ast_5 (pc := 77) C (by omega) (by omega) dX2_grow_77 ?_
      refine g_aload_0 (pc := 78) C dX2_grow_78 ?_
      refine g_get_X2_7 (pc := 79) C (by omega) dX2_grow_79 ?_
      refine g_iload_1 (pc := 82) C dX2_grow_82 ?_
      first | refine g_aldn_5 (pc := 83) C (by omega) (by omega) dX2_grow_83 ?_ | refine g_ald_5 (pc := 83) C (by omega) (by omega) dX2_grow_83 ?_
      rw [mst_eq]
      refine g_iret (pc := 84) C (Nat.le_of_ble_eq_true rfl) (Nat.le_of_ble_eq_true rfl) dX2_grow_84 ?_
      exact ⟨rfl, by rw [hex]; rfl, by rw [hex]; rfl⟩
    · have bG := bz_f hG
      have hex : exMg T a = 2 := by rw [exMg, if_neg (fun h => h hM), if_neg hG]
      refine g_aload_0 (pc := 0) C dX2_grow_0 ?_
      refine g_iload_1 (pc := 1) C dX2_grow_1 ?_
      refine g_cM1Pv (pc := 2) C cs_X2_70 (k_X2_isSpan h13 hV a ha) ⟨Nat.le_of_ble_eq_true rfl, Nat.le_of_ble_eq_true rfl⟩ (by omega) (Nat.le_of_ble_eq_true rfl) ⟨Nat.le_of_ble_eq_true rfl, Nat.le_of_ble_eq_true rfl⟩ dX2_grow_2 ?_
      refine g_if_eq (pc := 5) (tgt := 20) C dX2_grow_5 (by decide) (by omega) (fun h5 => absurd h5 (by omega)) (fun _ => ?_)
      refine g_aload_0 (pc := 8) C dX2_grow_8 ?_
      refine g_iload_1 (pc := 9) C dX2_grow_9 ?_
      refine g_cM1Pv (pc := 10) C cs_X2_87 (k_X2_canGrow h13 hV a (by omega) hz1 (h7 hM)) ⟨Nat.le_of_ble_eq_true rfl, Nat.le_of_ble_eq_true rfl⟩ (by omega) (Nat.le_of_ble_eq_true rfl) ⟨Nat.le_of_ble_eq_true rfl, Nat.le_of_ble_eq_true rfl⟩ dX2_grow_10 ?_
      refine g_if_eq (pc := 13) (tgt := 20) C dX2_grow_13 (by decide) (by omega) (fun _ => ?_) (fun h13 => absurd h13 (by omega))
      refine g_iconst (pc := 20) C dX2_grow_20 ?_
      refine g_istore_2 (pc := 21) C dX2_grow_21 ?_
      refine g_aload_0 (pc := 22) C dX2_grow_22 ?_
      refine g_aload_0 (pc := 23) C dX2_grow_23 ?_
      refine g_iload_1 (pc := 24) C dX2_grow_24 ?_
      refine g_cM1Pv (pc := 25) C cs_X2_70 (k_X2_isSpan h13 hV a ha) ⟨Nat.le_of_ble_eq_true rfl, Nat.le_of_ble_eq_true rfl⟩ (by omega) (Nat.le_of_ble_eq_true rfl) ⟨Nat.le_of_ble_eq_true rfl, Nat.le_of_ble_eq_true rfl⟩ dX2_grow_25 ?_
      refine g_if_ne (pc := 28) (tgt := 35) C dX2_grow_28 (by decide) (by omega) (fun _ => ?_) (fun h28 => absurd h28 (by omega))
      refine g_iload_2 (pc := 35) C dX2_grow_35 ?_
      refine g_if_eq (pc := 36) (tgt := 43) C dX2_grow_36 (by decide) (by omega) (fun _ => ?_) (fun h36 => absurd h36 (by omega))
      refine g_iconst (pc := 43) C dX2_grow_43 ?_
      refine g_cM1Pv (pc := 44) C cs_X2_81 (k_X2_goesWell h13 2 (by omega)) ⟨Nat.le_of_ble_eq_true rfl, Nat.le_of_ble_eq_true rfl⟩ (by omega) (Nat.le_of_ble_eq_true rfl) ⟨Nat.le_of_ble_eq_true rfl, Nat.le_of_ble_eq_true rfl⟩ dX2_grow_44 ?_
      refine g_if_ne (pc := 47) (tgt := 52) C dX2_grow_47 (by decide) (by omega) (fun h47 => absurd h47 (by omega)) (fun _ => ?_)
      refine g_iconst (pc := 50) C dX2_grow_50 ?_
      refine g_iret (pc := 51) C (Nat.le_of_ble_eq_true rfl) (Nat.le_of_ble_eq_true rfl) dX2_grow_51 ?_
      exact ⟨rfl, by rw [hex]; rfl, by rw [hex]; rfl⟩
  · have bM := bz_f hM
    have hex : exMg T a = 1 := by rw [exMg, if_pos hM]
    refine g_aload_0 (pc := 0) C dX2_grow_0 ?_
    refine g_iload_1 (pc := 1) C dX2_grow_1 ?_
    refine g_cM1Pv (pc := 2) C cs_X2_70 (k_X2_isSpan h13 hV a ha) ⟨Nat.le_of_ble_eq_true rfl, Nat.le_of_ble_eq_true rfl⟩ (by omega) (Nat.le_of_ble_eq_true rfl) ⟨Nat.le_of_ble_eq_true rfl, Nat.le_of_ble_eq_true rfl⟩ dX2_grow_2 ?_
    refine g_if_eq (pc := 5) (tgt := 20) C dX2_grow_5 (by decide) (by omega) (fun _ => ?_) (fun h5 => absurd h5 (by omega))
    refine g_iconst (pc := 20) C dX2_grow_20 ?_
    refine g_istore_2 (pc := 21) C dX2_grow_21 ?_
    refine g_aload_0 (pc := 22) C dX2_grow_22 ?_
    refine g_aload_0 (pc := 23) C dX2_grow_23 ?_
    refine g_iload_1 (pc := 24) C dX2_grow_24 ?_
    refine g_cM1Pv (pc := 25) C cs_X2_70 (k_X2_isSpan h13 hV a ha) ⟨Nat.le_of_ble_eq_true rfl, Nat.le_of_ble_eq_true rfl⟩ (by omega) (Nat.le_of_ble_eq_true rfl) ⟨Nat.le_of_ble_eq_true rfl, Nat.le_of_ble_eq_true rfl⟩ dX2_grow_25 ?_
    refine g_if_ne (pc := 28) (tgt := 35) C dX2_grow_28 (by decide) (by omega) (fun h28 => absurd h28 (by omega)) (fun _ => ?_)
    refine g_iconst (pc := 31) C dX2_grow_31 ?_
    refine g_goto (pc := 32) (tgt := 44) C dX2_grow_32 (by decide) ?_
    refine g_cM1Pv (pc := 44) C cs_X2_81 (k_X2_goesWell h13 1 (by omega)) ⟨Nat.le_of_ble_eq_true rfl, Nat.le_of_ble_eq_true rfl⟩ (by omega) (Nat.le_of_ble_eq_true rfl) ⟨Nat.le_of_ble_eq_true rfl, Nat.le_of_ble_eq_true rfl⟩ dX2_grow_44 ?_
    refine g_if_ne (pc := 47) (tgt := 52) C dX2_grow_47 (by decide) (by omega) (fun h47 => absurd h47 (by omega)) (fun _ => ?_)
    refine g_iconst (pc := 50) C dX2_grow_50 ?_
    refine g_iret (pc := 51) C (Nat.le_of_ble_eq_true rfl) (Nat.le_of_ble_eq_true rfl) dX2_grow_51 ?_
    exact ⟨rfl, by rw [hex]; rfl, by rw [hex]; rfl⟩
abbrev hvM (T : MT) (a : Int) : Prop := 0 < a ∧ 0 < T 6 a.toNat / 2 ∧ cntM T a (T 5 a.toNat + T 6 a.toNat / 2) (T 6 a.toNat / 2) (-1) = 0 ∧ lnM T (T 5 a.toNat + T 6 a.toNat / 2) (T 6 a.toNat / 2) = 0
theorem k_X2_canHalve {l : Launch} {cs : CSt} {np : Nat} {ad : Nat → Nat} {T : MT} (h13 : 13 ≤ np) (hV : VM T) (a : Int) (ha : 0 ≤ a ∧ a < 64) : KD l cs yX2_canHalve (Cond.code yX2_canHalve cX2_canHalve 4 (some .boolean) :: GW) 1 0 0 [.ref (ad 4), .int (zI a)] np ad T 0 (some (.int (zI (bz (hvM T a))))) (np, ad, T) := by
  have hs := hV.s ha
  have hc := cntM_bd T a (T 5 a.toNat + T 6 a.toNat / 2) (T 6 a.toNat / 2) (-1)
  have hl := lnM_bd T (T 5 a.toNat + T 6 a.toNat / 2) (T 6 a.toNat / 2)
  refine KC_of (cc := cX2_canHalve) (nL := 4) (rt := (some .boolean)) (by decide) (by simp [grf_cat, cat_int, cat_ref]) (by simp) ?_
  intro p e s m args below meth c A C hE hin
  refine g_eq (lv2 := [some (.ref (ad 4)), some (.int (zI a)), none, none]) rfl rfl rfl ?_
  refine g_aload_0 (pc := 0) C dX2_canHalve_0 ?_
  refine g_get_X2_13 (pc := 1) C (by omega) dX2_canHalve_1 ?_
  refine g_iload_1 (pc := 4) C dX2_canHalve_4 ?_
  first | refine g_aldn_6 (pc := 5) C (by omega) (by omega) dX2_canHalve_5 ?_ | refine g_ald_6 (pc := 5) C (by omega) (by omega) dX2_canHalve_5 ?_
  refine g_iconst (pc := 6) C dX2_canHalve_6 ?_
  refine g_idiv (pc := 7) C dX2_canHalve_7 (by omega) (by omega) ?_
  refine g_istore_2 (pc := 8) C dX2_canHalve_8 ?_
  refine g_aload_0 (pc := 9) C dX2_canHalve_9 ?_
  refine g_get_X2_7 (pc := 10) C (by omega) dX2_canHalve_10 ?_
  refine g_iload_1 (pc := 13) C dX2_canHalve_13 ?_
  first | refine g_aldn_5 (pc := 14) C (by omega) (by omega) dX2_canHalve_14 ?_ | refine g_ald_5 (pc := 14) C (by omega) (by omega) dX2_canHalve_14 ?_
  refine g_iload_2 (pc := 15) C dX2_canHalve_15 ?_
  refine g_iadd (pc := 16) C dX2_canHalve_16 ?_
  refine g_istore_3 (pc := 17) C dX2_canHalve_17 ?_
  refine g_iload_1 (pc := 18) C dX2_canHalve_18 ?_
  refine g_if_le (pc := 19) (tgt := 50) C dX2_canHalve_19 (by decide) (by omega) (fun h19 => ?_) (fun h19 => ?_)
  · refine g_iconst (pc := 50) C dX2_canHalve_50 ?_
    refine g_zret (pc := 51) C (by omega) (Nat.le_of_ble_eq_true rfl) (Nat.le_of_ble_eq_true rfl) dX2_canHalve_51 ?_
    exact ⟨rfl, by rw [bz_f (fun h => by have := h.1; omega)], rfl⟩
  · refine g_iload_2 (pc := 22) C dX2_canHalve_22 ?_
    refine g_if_le (pc := 23) (tgt := 50) C dX2_canHalve_23 (by decide) (by omega) (fun h23 => ?_) (fun h23 => ?_)
    · refine g_iconst (pc := 50) C dX2_canHalve_50 ?_
      refine g_zret (pc := 51) C (by omega) (Nat.le_of_ble_eq_true rfl) (Nat.le_of_ble_eq_true rfl) dX2_canHalve_51 ?_
      exact ⟨rfl, by rw [bz_f (fun h => by have := h.2.1; omega)], rfl⟩
    · refine g_aload_0 (pc := 26) C dX2_canHalve_26 ?_
      refine g_iload_1 (pc := 27) C dX2_canHalve_27 ?_
      refine g_iload_3 (pc := 28) C dX2_canHalve_28 ?_
      refine g_iload_2 (pc := 29) C dX2_canHalve_29 ?_
      refine g_iconst (pc := 30) C dX2_canHalve_30 ?_
      refine g_cM4Pv (pc := 31) C cs_X2_46 (k_X2_countIn h13 hV a _ _ (-1) (by omega) (by omega) (by omega)) ⟨Nat.le_of_ble_eq_true rfl, Nat.le_of_ble_eq_true rfl⟩ (by omega) (Nat.le_of_ble_eq_true rfl) ⟨Nat.le_of_ble_eq_true rfl, Nat.le_of_ble_eq_true rfl⟩ dX2_canHalve_31 ?_
      refine g_if_ne (pc := 34) (tgt := 50) C dX2_canHalve_34 (by decide) (by omega) (fun h34 => ?_) (fun h34 => ?_)
      · refine g_iconst (pc := 50) C dX2_canHalve_50 ?_
        refine g_zret (pc := 51) C (by omega) (Nat.le_of_ble_eq_true rfl) (Nat.le_of_ble_eq_true rfl) dX2_canHalve_51 ?_
        exact ⟨rfl, by rw [bz_f (fun h => h34 h.2.2.1)], rfl⟩
      · refine g_aload_0 (pc := 37) C dX2_canHalve_37 ?_
        refine g_iload_3 (pc := 38) C dX2_canHalve_38 ?_
        refine g_iload_2 (pc := 39) C dX2_canHalve_39 ?_
        refine g_cM2Pv (pc := 40) C cs_X2_60 (k_X2_lentIn h13 hV _ _ (by omega)) ⟨Nat.le_of_ble_eq_true rfl, Nat.le_of_ble_eq_true rfl⟩ (by omega) (Nat.le_of_ble_eq_true rfl) ⟨Nat.le_of_ble_eq_true rfl, Nat.le_of_ble_eq_true rfl⟩ dX2_canHalve_40 ?_
        refine g_if_ne (pc := 43) (tgt := 50) C dX2_canHalve_43 (by decide) (by omega) (fun h43 => ?_) (fun h43 => ?_)
        · refine g_iconst (pc := 50) C dX2_canHalve_50 ?_
          refine g_zret (pc := 51) C (by omega) (Nat.le_of_ble_eq_true rfl) (Nat.le_of_ble_eq_true rfl) dX2_canHalve_51 ?_
          exact ⟨rfl, by rw [bz_f (fun h => h43 h.2.2.2)], rfl⟩
        · refine g_iconst (pc := 46) C dX2_canHalve_46 ?_
          refine g_goto (pc := 47) (tgt := 51) C dX2_canHalve_47 (by decide) ?_
          refine g_zret (pc := 51) C (by omega) (Nat.le_of_ble_eq_true rfl) (Nat.le_of_ble_eq_true rfl) dX2_canHalve_51 ?_
          exact ⟨rfl, by rw [bz_t ⟨by omega, by omega, by omega, by omega⟩], rfl⟩
noncomputable def exMh (T : MT) (a : Int) : Int := if ¬ isM T a then 1 else if hvM T a then 0 else 2
theorem k_X2_halve {l : Launch} {cs : CSt} {np : Nat} {ad : Nat → Nat} {T : MT} (h13 : 13 ≤ np) (hV : VM T) (a : Int) (ha : -2147483648 ≤ a ∧ a < 2147483648) : KD l cs yX2_halve (Cond.code yX2_halve cX2_halve 3 (some .int) :: GW) 2 0 0 [.ref (ad 4), .int (zI a)] np ad T 0 (some (.int (zI (if exMh T a = 0 then T 6 a.toNat / 2 else 0)))) (np, ad, if exMh T a = 0 then mst (mst T 4 0 0) 6 a.toNat (T 6 a.toNat / 2) else mst T 4 0 (exMh T a)) := by
  have hV0 := hV.1
  have b10 : bz ((1 : Int) = 0) = 0 := bz_f (by decide)
  have b20 : bz ((2 : Int) = 0) = 0 := bz_f (by decide)
  have b30 : bz ((3 : Int) = 0) = 0 := bz_f (by decide)
  have b00 : bz ((0 : Int) = 0) = 1 := bz_t (by decide)
  refine KC_of (cc := cX2_halve) (nL := 3) (rt := (some .int)) (by decide) (by simp [grf_cat, cat_int, cat_ref]) (by simp) ?_
  intro p e s m args below meth c A C hE hin
  refine g_eq (lv2 := [some (.ref (ad 4)), some (.int (zI a)), none]) rfl rfl rfl ?_
  by_cases hM : isM T a
  · have bM := bz_t hM
    have hs := hV.s (x := a) (by omega)
    by_cases hG : hvM T a
    · have bG := bz_t hG
      have hex : exMh T a = 0 := by rw [exMh, if_neg (fun h => h hM), if_pos hG]
      refine g_aload_0 (pc := 0) C dX2_halve_0 ?_
      refine g_iload_1 (pc := 1) C dX2_halve_1 ?_
      refine g_cM1Pv (pc := 2) C cs_X2_70 (k_X2_isSpan h13 hV a ha) ⟨Nat.le_of_ble_eq_true rfl, Nat.le_of_ble_eq_true rfl⟩ (by omega) (Nat.le_of_ble_eq_true rfl) ⟨Nat.le_of_ble_eq_true rfl, Nat.le_of_ble_eq_true rfl⟩ dX2_halve_2 ?_
      refine g_if_eq (pc := 5) (tgt := 20) C dX2_halve_5 (by decide) (by omega) (fun h5 => absurd h5 (by omega)) (fun _ => ?_)
      refine g_aload_0 (pc := 8) C dX2_halve_8 ?_
      refine g_iload_1 (pc := 9) C dX2_halve_9 ?_
      refine g_cM1Pv (pc := 10) C cs_X2_90 (k_X2_canHalve h13 hV a (by omega)) ⟨Nat.le_of_ble_eq_true rfl, Nat.le_of_ble_eq_true rfl⟩ (by omega) (Nat.le_of_ble_eq_true rfl) ⟨Nat.le_of_ble_eq_true rfl, Nat.le_of_ble_eq_true rfl⟩ dX2_halve_10 ?_
      refine g_if_eq (pc := 13) (tgt := 20) C dX2_halve_13 (by decide) (by omega) (fun h13 => absurd h13 (by omega)) (fun _ => ?_)
      refine g_iconst (pc := 16) C dX2_halve_16 ?_
      refine g_goto (pc := 17) (tgt := 21) C dX2_halve_17 (by decide) ?_
      refine g_istore_2 (pc := 21) C dX2_halve_21 ?_
      refine g_aload_0 (pc := 22) C dX2_halve_22 ?_
      refine g_aload_0 (pc := 23) C dX2_halve_23 ?_
      refine g_iload_1 (pc := 24) C dX2_halve_24 ?_
      refine g_cM1Pv (pc := 25) C cs_X2_70 (k_X2_isSpan h13 hV a ha) ⟨Nat.le_of_ble_eq_true rfl, Nat.le_of_ble_eq_true rfl⟩ (by omega) (Nat.le_of_ble_eq_true rfl) ⟨Nat.le_of_ble_eq_true rfl, Nat.le_of_ble_eq_true rfl⟩ dX2_halve_25 ?_
      refine g_if_ne (pc := 28) (tgt := 35) C dX2_halve_28 (by decide) (by omega) (fun _ => ?_) (fun h28 => absurd h28 (by omega))
      refine g_iload_2 (pc := 35) C dX2_halve_35 ?_
      refine g_if_eq (pc := 36) (tgt := 43) C dX2_halve_36 (by decide) (by omega) (fun h36 => absurd h36 (by omega)) (fun _ => ?_)
      refine g_iconst (pc := 39) C dX2_halve_39 ?_
      refine g_goto (pc := 40) (tgt := 44) C dX2_halve_40 (by decide) ?_
      refine g_cM1Pv (pc := 44) C cs_X2_81 (k_X2_goesWell h13 0 (by omega)) ⟨Nat.le_of_ble_eq_true rfl, Nat.le_of_ble_eq_true rfl⟩ (by omega) (Nat.le_of_ble_eq_true rfl) ⟨Nat.le_of_ble_eq_true rfl, Nat.le_of_ble_eq_true rfl⟩ dX2_halve_44 ?_
      refine g_if_ne (pc := 47) (tgt := 52) C dX2_halve_47 (by decide) (by omega) (fun _ => ?_) (fun h47 => absurd h47 (by omega))
      refine g_aload_0 (pc := 52) C dX2_halve_52 ?_
      refine g_get_X2_13 (pc := 53) C (by omega) dX2_halve_53 ?_
      refine g_iload_1 (pc := 56) C dX2_halve_56 ?_
      refine g_dup2 (pc := 57) C dX2_halve_57 rfl rfl ?_
      first | refine g_aldn_6 (pc := 58) C (by omega) (by omega) dX2_halve_58 ?_ | refine g_ald_6 (pc := 58) C (by omega) (by omega) dX2_halve_58 ?_
      rw [mst_r (by decide)]
      refine g_iconst (pc := 59) C dX2_halve_59 ?_
      refine g_idiv (pc := 60) C dX2_halve_60 (by omega) (by omega) ?_
      first | refine g_astn_6 (pc := 61) C (by omega) (by omega) dX2_halve_61 ?_ | refine g_ast_6 (pc := 61) C (by omega) (by omega) dX2_halve_61 ?_
      refine g_aload_0 (pc := 62) C dX2_halve_62 ?_
      refine g_get_X2_13 (pc := 63) C (by omega) dX2_halve_63 ?_
      refine g_iload_1 (pc := 66) C dX2_halve_66 ?_
      first | refine g_aldn_6 (pc := 67) C (by omega) (by omega) dX2_halve_67 ?_ | refine g_ald_6 (pc := 67) C (by omega) (by omega) dX2_halve_67 ?_
      rw [mst_eq]
      refine g_iret (pc := 68) C (Nat.le_of_ble_eq_true rfl) (Nat.le_of_ble_eq_true rfl) dX2_halve_68 ?_
      exact ⟨rfl, by rw [hex]; rfl, by rw [hex]; rfl⟩
    · have bG := bz_f hG
      have hex : exMh T a = 2 := by rw [exMh, if_neg (fun h => h hM), if_neg hG]
      refine g_aload_0 (pc := 0) C dX2_halve_0 ?_
      refine g_iload_1 (pc := 1) C dX2_halve_1 ?_
      refine g_cM1Pv (pc := 2) C cs_X2_70 (k_X2_isSpan h13 hV a ha) ⟨Nat.le_of_ble_eq_true rfl, Nat.le_of_ble_eq_true rfl⟩ (by omega) (Nat.le_of_ble_eq_true rfl) ⟨Nat.le_of_ble_eq_true rfl, Nat.le_of_ble_eq_true rfl⟩ dX2_halve_2 ?_
      refine g_if_eq (pc := 5) (tgt := 20) C dX2_halve_5 (by decide) (by omega) (fun h5 => absurd h5 (by omega)) (fun _ => ?_)
      refine g_aload_0 (pc := 8) C dX2_halve_8 ?_
      refine g_iload_1 (pc := 9) C dX2_halve_9 ?_
      refine g_cM1Pv (pc := 10) C cs_X2_90 (k_X2_canHalve h13 hV a (by omega)) ⟨Nat.le_of_ble_eq_true rfl, Nat.le_of_ble_eq_true rfl⟩ (by omega) (Nat.le_of_ble_eq_true rfl) ⟨Nat.le_of_ble_eq_true rfl, Nat.le_of_ble_eq_true rfl⟩ dX2_halve_10 ?_
      refine g_if_eq (pc := 13) (tgt := 20) C dX2_halve_13 (by decide) (by omega) (fun _ => ?_) (fun h13 => absurd h13 (by omega))
      refine g_iconst (pc := 20) C dX2_halve_20 ?_
      refine g_istore_2 (pc := 21) C dX2_halve_21 ?_
      refine g_aload_0 (pc := 22) C dX2_halve_22 ?_
      refine g_aload_0 (pc := 23) C dX2_halve_23 ?_
      refine g_iload_1 (pc := 24) C dX2_halve_24 ?_
      refine g_cM1Pv (pc := 25) C cs_X2_70 (k_X2_isSpan h13 hV a ha) ⟨Nat.le_of_ble_eq_true rfl, Nat.le_of_ble_eq_true rfl⟩ (by omega) (Nat.le_of_ble_eq_true rfl) ⟨Nat.le_of_ble_eq_true rfl, Nat.le_of_ble_eq_true rfl⟩ dX2_halve_25 ?_
      refine g_if_ne (pc := 28) (tgt := 35) C dX2_halve_28 (by decide) (by omega) (fun _ => ?_) (fun h28 => absurd h28 (by omega))
      refine g_iload_2 (pc := 35) C dX2_halve_35 ?_
      refine g_if_eq (pc := 36) (tgt := 43) C dX2_halve_36 (by decide) (by omega) (fun _ => ?_) (fun h36 => absurd h36 (by omega))
      refine g_iconst (pc := 43) C dX2_halve_43 ?_
      refine g_cM1Pv (pc := 44) C cs_X2_81 (k_X2_goesWell h13 2 (by omega)) ⟨Nat.le_of_ble_eq_true rfl, Nat.le_of_ble_eq_true rfl⟩ (by omega) (Nat.le_of_ble_eq_true rfl) ⟨Nat.le_of_ble_eq_true rfl, Nat.le_of_ble_eq_true rfl⟩ dX2_halve_44 ?_
      refine g_if_ne (pc := 47) (tgt := 52) C dX2_halve_47 (by decide) (by omega) (fun h47 => absurd h47 (by omega)) (fun _ => ?_)
      refine g_iconst (pc := 50) C dX2_halve_50 ?_
      refine g_iret (pc := 51) C (Nat.le_of_ble_eq_true rfl) (Nat.le_of_ble_eq_true rfl) dX2_halve_51 ?_
      exact ⟨rfl, by rw [hex]; rfl, by rw [hex]; rfl⟩
  · have bM := bz_f hM
    have hex : exMh T a = 1 := by rw [exMh, if_pos hM]
    refine g_aload_0 (pc := 0) C dX2_halve_0 ?_
    refine g_iload_1 (pc := 1) C dX2_halve_1 ?_
    refine g_cM1Pv (pc := 2) C cs_X2_70 (k_X2_isSpan h13 hV a ha) ⟨Nat.le_of_ble_eq_true rfl, Nat.le_of_ble_eq_true rfl⟩ (by omega) (Nat.le_of_ble_eq_true rfl) ⟨Nat.le_of_ble_eq_true rfl, Nat.le_of_ble_eq_true rfl⟩ dX2_halve_2 ?_
    refine g_if_eq (pc := 5) (tgt := 20) C dX2_halve_5 (by decide) (by omega) (fun _ => ?_) (fun h5 => absurd h5 (by omega))
    refine g_iconst (pc := 20) C dX2_halve_20 ?_
    refine g_istore_2 (pc := 21) C dX2_halve_21 ?_
    refine g_aload_0 (pc := 22) C dX2_halve_22 ?_
    refine g_aload_0 (pc := 23) C dX2_halve_23 ?_
    refine g_iload_1 (pc := 24) C dX2_halve_24 ?_
    refine g_cM1Pv (pc := 25) C cs_X2_70 (k_X2_isSpan h13 hV a ha) ⟨Nat.le_of_ble_eq_true rfl, Nat.le_of_ble_eq_true rfl⟩ (by omega) (Nat.le_of_ble_eq_true rfl) ⟨Nat.le_of_ble_eq_true rfl, Nat.le_of_ble_eq_true rfl⟩ dX2_halve_25 ?_
    refine g_if_ne (pc := 28) (tgt := 35) C dX2_halve_28 (by decide) (by omega) (fun h28 => absurd h28 (by omega)) (fun _ => ?_)
    refine g_iconst (pc := 31) C dX2_halve_31 ?_
    refine g_goto (pc := 32) (tgt := 44) C dX2_halve_32 (by decide) ?_
    refine g_cM1Pv (pc := 44) C cs_X2_81 (k_X2_goesWell h13 1 (by omega)) ⟨Nat.le_of_ble_eq_true rfl, Nat.le_of_ble_eq_true rfl⟩ (by omega) (Nat.le_of_ble_eq_true rfl) ⟨Nat.le_of_ble_eq_true rfl, Nat.le_of_ble_eq_true rfl⟩ dX2_halve_44 ?_
    refine g_if_ne (pc := 47) (tgt := 52) C dX2_halve_47 (by decide) (by omega) (fun h47 => absurd h47 (by omega)) (fun _ => ?_)
    refine g_iconst (pc := 50) C dX2_halve_50 ?_
    refine g_iret (pc := 51) C (Nat.le_of_ble_eq_true rfl) (Nat.le_of_ble_eq_true rfl) dX2_halve_51 ?_
    exact ⟨rfl, by rw [hex]; rfl, by rw [hex]; rfl⟩
noncomputable def exMs (T : MT) (a o : Int) : Int := if ¬ isM T a then 1 else if 0 ≤ o ∧ o < 8 then 0 else 2
theorem k_X2_setOwner {l : Launch} {cs : CSt} {np : Nat} {ad : Nat → Nat} {T : MT} (h13 : 13 ≤ np) (hV : VM T) (a o : Int) (ha : -2147483648 ≤ a ∧ a < 2147483648) (ho : -2147483648 ≤ o ∧ o < 2147483648) : KD l cs yX2_setOwner (Cond.code yX2_setOwner cX2_setOwner 4 (some .int) :: GW) 2 0 0 [.ref (ad 4), .int (zI a), .int (zI o)] np ad T 0 (some (.int (zI (if exMs T a o = 0 then T 8 a.toNat else 0)))) (np, ad, if exMs T a o = 0 then mst (mst T 4 0 0) 8 a.toNat o else mst T 4 0 (exMs T a o)) := by
  have hV0 := hV.1
  have b10 : bz ((1 : Int) = 0) = 0 := bz_f (by decide)
  have b20 : bz ((2 : Int) = 0) = 0 := bz_f (by decide)
  have b30 : bz ((3 : Int) = 0) = 0 := bz_f (by decide)
  have b00 : bz ((0 : Int) = 0) = 1 := bz_t (by decide)
  refine KC_of (cc := cX2_setOwner) (nL := 4) (rt := (some .int)) (by decide) (by simp [grf_cat, cat_int, cat_ref]) (by simp) ?_
  intro p e s m args below meth c A C hE hin
  refine g_eq (lv2 := [some (.ref (ad 4)), some (.int (zI a)), some (.int (zI o)), none]) rfl rfl rfl ?_
  by_cases hM : isM T a
  · have bM := bz_t hM
    by_cases hG : 0 ≤ o ∧ o < 8
    · have bG := bz_t hG
      have hex : exMs T a o = 0 := by rw [exMs, if_neg (fun h => h hM), if_pos hG]
      refine g_aload_0 (pc := 0) C dX2_setOwner_0 ?_
      refine g_aload_0 (pc := 1) C dX2_setOwner_1 ?_
      refine g_iload_1 (pc := 2) C dX2_setOwner_2 ?_
      refine g_cM1Pv (pc := 3) C cs_X2_70 (k_X2_isSpan h13 hV a ha) ⟨Nat.le_of_ble_eq_true rfl, Nat.le_of_ble_eq_true rfl⟩ (by omega) (Nat.le_of_ble_eq_true rfl) ⟨Nat.le_of_ble_eq_true rfl, Nat.le_of_ble_eq_true rfl⟩ dX2_setOwner_3 ?_
      refine g_if_ne (pc := 6) (tgt := 13) C dX2_setOwner_6 (by decide) (by omega) (fun _ => ?_) (fun h6 => absurd h6 (by omega))
      refine g_iload_2 (pc := 13) C dX2_setOwner_13 ?_
      refine g_cT1Pv (pc := 14) C cs_X2_67 (k_X2_isOwner o ho) ⟨Nat.le_of_ble_eq_true rfl, Nat.le_of_ble_eq_true rfl⟩ (Nat.le_of_ble_eq_true rfl) ⟨Nat.le_of_ble_eq_true rfl, Nat.le_of_ble_eq_true rfl⟩ dX2_setOwner_14 ?_
      refine g_if_eq (pc := 17) (tgt := 24) C dX2_setOwner_17 (by decide) (by omega) (fun h17 => absurd h17 (by omega)) (fun _ => ?_)
      refine g_iconst (pc := 20) C dX2_setOwner_20 ?_
      refine g_goto (pc := 21) (tgt := 25) C dX2_setOwner_21 (by decide) ?_
      refine g_cM1Pv (pc := 25) C cs_X2_81 (k_X2_goesWell h13 0 (by omega)) ⟨Nat.le_of_ble_eq_true rfl, Nat.le_of_ble_eq_true rfl⟩ (by omega) (Nat.le_of_ble_eq_true rfl) ⟨Nat.le_of_ble_eq_true rfl, Nat.le_of_ble_eq_true rfl⟩ dX2_setOwner_25 ?_
      refine g_if_ne (pc := 28) (tgt := 33) C dX2_setOwner_28 (by decide) (by omega) (fun _ => ?_) (fun h28 => absurd h28 (by omega))
      refine g_aload_0 (pc := 33) C dX2_setOwner_33 ?_
      refine g_get_X2_19 (pc := 34) C (by omega) dX2_setOwner_34 ?_
      refine g_iload_1 (pc := 37) C dX2_setOwner_37 ?_
      first | refine g_aldn_8 (pc := 38) C (by omega) (by omega) dX2_setOwner_38 ?_ | refine g_ald_8 (pc := 38) C (by omega) (by omega) dX2_setOwner_38 ?_
      rw [mst_r (by decide)]
      refine g_istore_3 (pc := 39) C dX2_setOwner_39 ?_
      refine g_aload_0 (pc := 40) C dX2_setOwner_40 ?_
      refine g_get_X2_19 (pc := 41) C (by omega) dX2_setOwner_41 ?_
      refine g_iload_1 (pc := 44) C dX2_setOwner_44 ?_
      refine g_iload_2 (pc := 45) C dX2_setOwner_45 ?_
      first | refine g_astn_8 (pc := 46) C (by omega) (by omega) dX2_setOwner_46 ?_ | refine g_ast_8 (pc := 46) C (by omega) (by omega) dX2_setOwner_46 ?_
      refine g_iload_3 (pc := 47) C dX2_setOwner_47 ?_
      refine g_iret (pc := 48) C (Nat.le_of_ble_eq_true rfl) (Nat.le_of_ble_eq_true rfl) dX2_setOwner_48 ?_
      exact ⟨rfl, by rw [hex]; rfl, by rw [hex]; rfl⟩
    · have bG := bz_f hG
      have hex : exMs T a o = 2 := by rw [exMs, if_neg (fun h => h hM), if_neg hG]
      refine g_aload_0 (pc := 0) C dX2_setOwner_0 ?_
      refine g_aload_0 (pc := 1) C dX2_setOwner_1 ?_
      refine g_iload_1 (pc := 2) C dX2_setOwner_2 ?_
      refine g_cM1Pv (pc := 3) C cs_X2_70 (k_X2_isSpan h13 hV a ha) ⟨Nat.le_of_ble_eq_true rfl, Nat.le_of_ble_eq_true rfl⟩ (by omega) (Nat.le_of_ble_eq_true rfl) ⟨Nat.le_of_ble_eq_true rfl, Nat.le_of_ble_eq_true rfl⟩ dX2_setOwner_3 ?_
      refine g_if_ne (pc := 6) (tgt := 13) C dX2_setOwner_6 (by decide) (by omega) (fun _ => ?_) (fun h6 => absurd h6 (by omega))
      refine g_iload_2 (pc := 13) C dX2_setOwner_13 ?_
      refine g_cT1Pv (pc := 14) C cs_X2_67 (k_X2_isOwner o ho) ⟨Nat.le_of_ble_eq_true rfl, Nat.le_of_ble_eq_true rfl⟩ (Nat.le_of_ble_eq_true rfl) ⟨Nat.le_of_ble_eq_true rfl, Nat.le_of_ble_eq_true rfl⟩ dX2_setOwner_14 ?_
      refine g_if_eq (pc := 17) (tgt := 24) C dX2_setOwner_17 (by decide) (by omega) (fun _ => ?_) (fun h17 => absurd h17 (by omega))
      refine g_iconst (pc := 24) C dX2_setOwner_24 ?_
      refine g_cM1Pv (pc := 25) C cs_X2_81 (k_X2_goesWell h13 2 (by omega)) ⟨Nat.le_of_ble_eq_true rfl, Nat.le_of_ble_eq_true rfl⟩ (by omega) (Nat.le_of_ble_eq_true rfl) ⟨Nat.le_of_ble_eq_true rfl, Nat.le_of_ble_eq_true rfl⟩ dX2_setOwner_25 ?_
      refine g_if_ne (pc := 28) (tgt := 33) C dX2_setOwner_28 (by decide) (by omega) (fun h28 => absurd h28 (by omega)) (fun _ => ?_)
      refine g_iconst (pc := 31) C dX2_setOwner_31 ?_
      refine g_iret (pc := 32) C (Nat.le_of_ble_eq_true rfl) (Nat.le_of_ble_eq_true rfl) dX2_setOwner_32 ?_
      exact ⟨rfl, by rw [hex]; rfl, by rw [hex]; rfl⟩
  · have bM := bz_f hM
    have hex : exMs T a o = 1 := by rw [exMs, if_pos hM]
    refine g_aload_0 (pc := 0) C dX2_setOwner_0 ?_
    refine g_aload_0 (pc := 1) C dX2_setOwner_1 ?_
    refine g_iload_1 (pc := 2) C dX2_setOwner_2 ?_
    refine g_cM1Pv (pc := 3) C cs_X2_70 (k_X2_isSpan h13 hV a ha) ⟨Nat.le_of_ble_eq_true rfl, Nat.le_of_ble_eq_true rfl⟩ (by omega) (Nat.le_of_ble_eq_true rfl) ⟨Nat.le_of_ble_eq_true rfl, Nat.le_of_ble_eq_true rfl⟩ dX2_setOwner_3 ?_
    refine g_if_ne (pc := 6) (tgt := 13) C dX2_setOwner_6 (by decide) (by omega) (fun h6 => absurd h6 (by omega)) (fun _ => ?_)
    refine g_iconst (pc := 9) C dX2_setOwner_9 ?_
    refine g_goto (pc := 10) (tgt := 25) C dX2_setOwner_10 (by decide) ?_
    refine g_cM1Pv (pc := 25) C cs_X2_81 (k_X2_goesWell h13 1 (by omega)) ⟨Nat.le_of_ble_eq_true rfl, Nat.le_of_ble_eq_true rfl⟩ (by omega) (Nat.le_of_ble_eq_true rfl) ⟨Nat.le_of_ble_eq_true rfl, Nat.le_of_ble_eq_true rfl⟩ dX2_setOwner_25 ?_
    refine g_if_ne (pc := 28) (tgt := 33) C dX2_setOwner_28 (by decide) (by omega) (fun h28 => absurd h28 (by omega)) (fun _ => ?_)
    refine g_iconst (pc := 31) C dX2_setOwner_31 ?_
    refine g_iret (pc := 32) C (Nat.le_of_ble_eq_true rfl) (Nat.le_of_ble_eq_true rfl) dX2_setOwner_32 ?_
    exact ⟨rfl, by rw [hex]; rfl, by rw [hex]; rfl⟩
