/-! the model: free, greatestFree, inTheWay, isLent, nearest, owned, blocks -/
theorem chS_st {h q z : Nat → Int} {x : Int} {j k : Nat} (hk : j ≤ k) (hh : ∀ t, j ≤ t → t < k → h t = 0) : chS h q z x k = chS h q z x j := by
  induction k with
  | zero => rw [show j = 0 by omega]
  | succ k ih =>
    by_cases e : j = k + 1
    · rw [e]
    · have h1 := ih (by omega) (fun t h2 h3 => hh t h2 (by omega))
      show _ + ite _ _ _ = _
      rw [if_neg (fun q => q.1 (hh k (by omega) (by omega))), h1, Int.add_zero]
noncomputable def osM (T : MT) (x : Int) : Int := hid (T 6 x.toNat - chS (T 9) (T 7) (T 6) x 60)
theorem osM_eq (T : MT) (x : Int) : osM T x = T 6 x.toNat - chS (T 9) (T 7) (T 6) x 60 := hid_eq _
theorem lnM_f {T T' : MT} (h : T' 10 = T 10) (B S : Int) : lnM T' B S = lnM T B S := by
  rw [lnM_eq, lnM_eq, h]
theorem k_X2_free {l : Launch} {cs : CSt} {np : Nat} {ad : Nat → Nat} {T : MT} (h13 : 13 ≤ np) (hV : VM T) (a : Int) (ha : -2147483648 ≤ a ∧ a < 2147483648) : KD l cs yX2_free (Cond.code yX2_free cX2_free 4 (some .int) :: GW) 2 0 0 [.ref (ad 4), .int (zI a)] np ad T 0 (some (.int (zI (if isM T a then (if hsM T a then osM T a else osM T a - lnM T (T 5 a.toNat) (T 6 a.toNat)) else 0)))) (np, ad, mst T 4 0 (if isM T a then 0 else 1)) := by
  have hV0 := hV.1
  have b10 : bz ((1 : Int) = 0) = 0 := bz_f (by decide)
  have b20 : bz ((2 : Int) = 0) = 0 := bz_f (by decide)
  have b30 : bz ((3 : Int) = 0) = 0 := bz_f (by decide)
  have b00 : bz ((0 : Int) = 0) = 1 := bz_t (by decide)
  refine KC_of (cc := cX2_free) (nL := 4) (rt := (some .int)) (by decide) (by simp [grf_cat, cat_int, cat_ref]) (by simp) ?_
  intro p e s m args below meth c A C hE hin
  refine g_eq (lv2 := [some (.ref (ad 4)), some (.int (zI a)), none, none]) rfl rfl rfl ?_
  by_cases hM : isM T a
  · have bM := bz_t hM
    rw [if_pos hM, if_pos hM]
    have hs := hV.s (x := a) (by omega)
    have e6 : mst T 4 0 0 4 6 = T 4 6 := mst_i (by decide)
    have e9 : mst T 4 0 0 9 = T 9 := mst_f (by decide)
    have e75 : mst T 4 0 0 7 = T 7 := mst_f (by decide)
    have e65 : mst T 4 0 0 6 = T 6 := mst_f (by decide)
    have e55 : mst T 4 0 0 5 = T 5 := mst_f (by decide)
    have eh : hsM (mst T 4 0 0) a = hsM T a := by unfold hsM; rw [cntM_th, e55, e65]
    have el : ∀ B S, lnM (mst T 4 0 0) B S = lnM T B S := lnM_f (mst_f (by decide))
    have hVU := hV.th 0
    refine g_aload_0 (pc := 0) C dX2_free_0 ?_
    refine g_aload_0 (pc := 1) C dX2_free_1 ?_
    refine g_iload_1 (pc := 2) C dX2_free_2 ?_
    refine g_cM1Pv (pc := 3) C cs_X2_70 (k_X2_isSpan h13 hV a ha) ⟨Nat.le_of_ble_eq_true rfl, Nat.le_of_ble_eq_true rfl⟩ (by omega) (Nat.le_of_ble_eq_true rfl) ⟨Nat.le_of_ble_eq_true rfl, Nat.le_of_ble_eq_true rfl⟩ dX2_free_3 ?_
    refine g_if_eq (pc := 6) (tgt := 13) C dX2_free_6 (by decide) (by omega) (fun h6 => absurd h6 (by omega)) (fun _ => ?_)
    refine g_iconst (pc := 9) C dX2_free_9 ?_
    refine g_goto (pc := 10) (tgt := 14) C dX2_free_10 (by decide) ?_
    refine g_cM1Pv (pc := 14) C cs_X2_81 (k_X2_goesWell h13 0 (by omega)) ⟨Nat.le_of_ble_eq_true rfl, Nat.le_of_ble_eq_true rfl⟩ (by omega) (Nat.le_of_ble_eq_true rfl) ⟨Nat.le_of_ble_eq_true rfl, Nat.le_of_ble_eq_true rfl⟩ dX2_free_14 ?_
    refine g_if_ne (pc := 17) (tgt := 22) C dX2_free_17 (by decide) (by omega) (fun _ => ?_) (fun h17 => absurd h17 (by omega))
    obtain ⟨U, hUU⟩ : ∃ U, U = mst T 4 0 0 := ⟨_, rfl⟩
    rw [← hUU] at e6 e9 e75 e65 e55 eh el hVU ⊢
    refine g_aload_0 (pc := 22) C dX2_free_22 ?_
    refine g_get_X2_13 (pc := 23) C (by omega) dX2_free_23 ?_
    refine g_iload_1 (pc := 26) C dX2_free_26 ?_
    first | refine g_aldn_6 (pc := 27) C (by omega) (by omega) dX2_free_27 ?_ | refine g_ald_6 (pc := 27) C (by omega) (by omega) dX2_free_27 ?_
    rw [e65]
    refine g_istore_2 (pc := 28) C dX2_free_28 ?_
    refine g_iconst (pc := 29) C dX2_free_29 ?_
    refine g_istore_3 (pc := 30) C dX2_free_30 ?_
    refine g_eq (lv2 := [some (.ref (ad 4)), some (.int (zI a)), some (.int (zI (T 6 a.toNat - chS (T 9) (T 7) (T 6) a 0))), some (.int (zI (0 : Nat)))]) rfl (by rw [show chS (T 9) (T 7) (T 6) a 0 = 0 from rfl, Int.sub_zero]; rfl) rfl ?_
    refine g_loop (σ := Unit) (Tf := fun _ _ => U) (lvf := fun j _ => [some (.ref (ad 4)), some (.int (zI a)), some (.int (zI (T 6 a.toNat - chS (T 9) (T 7) (T 6) a j))), some (.int (zI (j : Int)))]) (inv := fun _ _ => True) (N := 60) 0 () trivial (by omega) (fun j _ _ hN ih => ?_)
    have e8 : chS (T 9) (T 7) (T 6) a (j + 1) = chS (T 9) (T 7) (T 6) a j + (if T 9 j ≠ 0 ∧ T 7 j = a then T 6 j else 0) := rfl
    refine g_iload_3 (pc := 31) C dX2_free_31 ?_
    refine g_aload_0 (pc := 32) C dX2_free_32 ?_
    refine g_get_X2_26 (pc := 33) C (by omega) dX2_free_33 ?_
    rw [e6]
    refine g_icmp_ge (pc := 36) (tgt := 77) C dX2_free_36 (by decide) (by omega) (by omega) (fun h36 => ?_) (fun h36 => ?_)
    · have e10 := chS_st (h := T 9) (q := T 7) (z := T 6) (x := a) (j := j) (k := 60) hN (fun t h1 h2 => (hV.2.1 t (by omega)).2.2.2.2.2.2.2.2.1 (by omega))
      have e11 : T 6 a.toNat - chS (T 9) (T 7) (T 6) a j = osM T a := by rw [osM_eq, e10]
      rw [e11]
      by_cases hh : hsM T a
      · have bh : bz (hsM U a) = 1 := bz_t (by rw [eh]; exact hh)
        refine g_aload_0 (pc := 77) C dX2_free_77 ?_
        refine g_iload_1 (pc := 78) C dX2_free_78 ?_
        refine g_cM1Pv (pc := 79) C cs_X2_56 (k_X2_hasSpans h13 hVU a (by omega)) ⟨Nat.le_of_ble_eq_true rfl, Nat.le_of_ble_eq_true rfl⟩ (by omega) (Nat.le_of_ble_eq_true rfl) ⟨Nat.le_of_ble_eq_true rfl, Nat.le_of_ble_eq_true rfl⟩ dX2_free_79 ?_
        refine g_if_eq (pc := 82) (tgt := 89) C dX2_free_82 (by decide) (by omega) (fun h82 => absurd h82 (by omega)) (fun _ => ?_)
        refine g_iload_2 (pc := 85) C dX2_free_85 ?_
        refine g_goto (pc := 86) (tgt := 107) C dX2_free_86 (by decide) ?_
        refine g_iret (pc := 107) C (Nat.le_of_ble_eq_true rfl) (Nat.le_of_ble_eq_true rfl) dX2_free_107 ?_
        exact ⟨rfl, by rw [if_pos hh], rfl⟩
      · have bh : bz (hsM U a) = 0 := bz_f (by rw [eh]; exact hh)
        refine g_aload_0 (pc := 77) C dX2_free_77 ?_
        refine g_iload_1 (pc := 78) C dX2_free_78 ?_
        refine g_cM1Pv (pc := 79) C cs_X2_56 (k_X2_hasSpans h13 hVU a (by omega)) ⟨Nat.le_of_ble_eq_true rfl, Nat.le_of_ble_eq_true rfl⟩ (by omega) (Nat.le_of_ble_eq_true rfl) ⟨Nat.le_of_ble_eq_true rfl, Nat.le_of_ble_eq_true rfl⟩ dX2_free_79 ?_
        refine g_if_eq (pc := 82) (tgt := 89) C dX2_free_82 (by decide) (by omega) (fun _ => ?_) (fun h82 => absurd h82 (by omega))
        refine g_iload_2 (pc := 89) C dX2_free_89 ?_
        refine g_aload_0 (pc := 90) C dX2_free_90 ?_
        refine g_aload_0 (pc := 91) C dX2_free_91 ?_
        refine g_get_X2_7 (pc := 92) C (by omega) dX2_free_92 ?_
        refine g_iload_1 (pc := 95) C dX2_free_95 ?_
        first | refine g_aldn_5 (pc := 96) C (by omega) (by omega) dX2_free_96 ?_ | refine g_ald_5 (pc := 96) C (by omega) (by omega) dX2_free_96 ?_
        refine g_aload_0 (pc := 97) C dX2_free_97 ?_
        refine g_get_X2_13 (pc := 98) C (by omega) dX2_free_98 ?_
        refine g_iload_1 (pc := 101) C dX2_free_101 ?_
        first | refine g_aldn_6 (pc := 102) C (by omega) (by omega) dX2_free_102 ?_ | refine g_ald_6 (pc := 102) C (by omega) (by omega) dX2_free_102 ?_
        rw [e55, e65]
        refine g_cM2Pv (pc := 103) C cs_X2_60 (k_X2_lentIn h13 hVU _ _ (by omega)) ⟨Nat.le_of_ble_eq_true rfl, Nat.le_of_ble_eq_true rfl⟩ (by omega) (Nat.le_of_ble_eq_true rfl) ⟨Nat.le_of_ble_eq_true rfl, Nat.le_of_ble_eq_true rfl⟩ dX2_free_103 ?_
        refine g_isub (pc := 106) C dX2_free_106 ?_
        refine g_iret (pc := 107) C (Nat.le_of_ble_eq_true rfl) (Nat.le_of_ble_eq_true rfl) dX2_free_107 ?_
        exact ⟨rfl, by rw [if_neg hh, el], rfl⟩
    · have hj := hV.2.1 j (by omega)
      refine g_iload_2 (pc := 39) C dX2_free_39 ?_
      refine g_aload_0 (pc := 40) C dX2_free_40 ?_
      refine g_get_X2_22 (pc := 41) C (by omega) dX2_free_41 ?_
      refine g_iload_3 (pc := 44) C dX2_free_44 ?_
      first | refine g_aldn_9 (pc := 45) C (by omega) (by omega) dX2_free_45 ?_ | refine g_ald_9 (pc := 45) C (by omega) (by omega) dX2_free_45 ?_
      rw [e9]
      refine g_if_eq (pc := 46) (tgt := 68) C dX2_free_46 (by decide) (by omega) (fun h46 => ?_) (fun h46 => ?_)
      · refine g_iconst (pc := 68) C dX2_free_68 ?_
        refine g_isub (pc := 69) C dX2_free_69 ?_
        refine g_istore_2 (pc := 70) C dX2_free_70 ?_
        refine g_iinc_3 (pc := 71) C dX2_free_71 ?_
        refine g_goto (pc := 74) (tgt := 31) C dX2_free_74 (by decide) ?_
        rw [if_neg (by omega)] at e8
        exact g_eq rfl (by rw [e8, Int.add_zero, Int.sub_zero]; rfl) rfl (ih () (by omega) trivial)
      · refine g_aload_0 (pc := 49) C dX2_free_49 ?_
        refine g_get_X2_16 (pc := 50) C (by omega) dX2_free_50 ?_
        refine g_iload_3 (pc := 53) C dX2_free_53 ?_
        first | refine g_aldn_7 (pc := 54) C (by omega) (by omega) dX2_free_54 ?_ | refine g_ald_7 (pc := 54) C (by omega) (by omega) dX2_free_54 ?_
        rw [e75]
        refine g_iload_1 (pc := 55) C dX2_free_55 ?_
        refine g_icmp_ne (pc := 56) (tgt := 68) C dX2_free_56 (by decide) (by omega) (by omega) (fun h56 => ?_) (fun h56 => ?_)
        · refine g_iconst (pc := 68) C dX2_free_68 ?_
          refine g_isub (pc := 69) C dX2_free_69 ?_
          refine g_istore_2 (pc := 70) C dX2_free_70 ?_
          refine g_iinc_3 (pc := 71) C dX2_free_71 ?_
          refine g_goto (pc := 74) (tgt := 31) C dX2_free_74 (by decide) ?_
          rw [if_neg (by omega)] at e8
          exact g_eq rfl (by rw [e8, Int.add_zero, Int.sub_zero]; rfl) rfl (ih () (by omega) trivial)
        · refine g_aload_0 (pc := 59) C dX2_free_59 ?_
          refine g_get_X2_13 (pc := 60) C (by omega) dX2_free_60 ?_
          refine g_iload_3 (pc := 63) C dX2_free_63 ?_
          first | refine g_aldn_6 (pc := 64) C (by omega) (by omega) dX2_free_64 ?_ | refine g_ald_6 (pc := 64) C (by omega) (by omega) dX2_free_64 ?_
          refine g_goto (pc := 65) (tgt := 69) C dX2_free_65 (by decide) ?_
          refine g_isub (pc := 69) C dX2_free_69 ?_
          refine g_istore_2 (pc := 70) C dX2_free_70 ?_
          refine g_iinc_3 (pc := 71) C dX2_free_71 ?_
          refine g_goto (pc := 74) (tgt := 31) C dX2_free_74 (by decide) ?_
          rw [if_pos (by omega)] at e8
          exact g_eq rfl (by rw [e8, e65, ← Int.sub_sub]; rfl) rfl (ih () (by omega) trivial)
  · have bM := bz_f hM
    refine g_aload_0 (pc := 0) C dX2_free_0 ?_
    refine g_aload_0 (pc := 1) C dX2_free_1 ?_
    refine g_iload_1 (pc := 2) C dX2_free_2 ?_
    refine g_cM1Pv (pc := 3) C cs_X2_70 (k_X2_isSpan h13 hV a ha) ⟨Nat.le_of_ble_eq_true rfl, Nat.le_of_ble_eq_true rfl⟩ (by omega) (Nat.le_of_ble_eq_true rfl) ⟨Nat.le_of_ble_eq_true rfl, Nat.le_of_ble_eq_true rfl⟩ dX2_free_3 ?_
    refine g_if_eq (pc := 6) (tgt := 13) C dX2_free_6 (by decide) (by omega) (fun _ => ?_) (fun h6 => absurd h6 (by omega))
    refine g_iconst (pc := 13) C dX2_free_13 ?_
    refine g_cM1Pv (pc := 14) C cs_X2_81 (k_X2_goesWell h13 1 (by omega)) ⟨Nat.le_of_ble_eq_true rfl, Nat.le_of_ble_eq_true rfl⟩ (by omega) (Nat.le_of_ble_eq_true rfl) ⟨Nat.le_of_ble_eq_true rfl, Nat.le_of_ble_eq_true rfl⟩ dX2_free_14 ?_
    refine g_if_ne (pc := 17) (tgt := 22) C dX2_free_17 (by decide) (by omega) (fun h17 => absurd h17 (by omega)) (fun _ => ?_)
    refine g_iconst (pc := 20) C dX2_free_20 ?_
    refine g_iret (pc := 21) C (Nat.le_of_ble_eq_true rfl) (Nat.le_of_ble_eq_true rfl) dX2_free_21 ?_
    exact ⟨rfl, by rw [if_neg hM], by rw [if_neg hM]⟩
theorem k_X2_isLent {l : Launch} {cs : CSt} {np : Nat} {ad : Nat → Nat} {T : MT} (h13 : 13 ≤ np) (hV : VM T) (a : Int) (ha : -2147483648 ≤ a ∧ a < 2147483648) : KD l cs yX2_isLent (Cond.code yX2_isLent cX2_isLent 2 (some .boolean) :: GW) 2 0 0 [.ref (ad 4), .int (zI a)] np ad T 0 (some (.int (zI (bz ((0 ≤ a ∧ a < 4096) ∧ T 10 a.toNat ≠ 0))))) (np, ad, mst T 4 0 (if 0 ≤ a ∧ a < 4096 then 0 else 1)) := by
  have hV0 := hV.1
  have b10 : bz ((1 : Int) = 0) = 0 := bz_f (by decide)
  have b20 : bz ((2 : Int) = 0) = 0 := bz_f (by decide)
  have b30 : bz ((3 : Int) = 0) = 0 := bz_f (by decide)
  have b00 : bz ((0 : Int) = 0) = 1 := bz_t (by decide)
  refine KC_of (cc := cX2_isLent) (nL := 2) (rt := (some .boolean)) (by decide) (by simp [grf_cat, cat_int, cat_ref]) (by simp) ?_
  intro p e s m args below meth c A C hE hin
  refine g_eq (lv2 := [some (.ref (ad 4)), some (.int (zI a))]) rfl rfl rfl ?_
  by_cases hM : 0 ≤ a ∧ a < 4096
  · have bM := bz_t hM
    have hj := hV.2.2 a.toNat (by omega)
    refine g_aload_0 (pc := 0) C dX2_isLent_0 ?_
    refine g_iload_1 (pc := 1) C dX2_isLent_1 ?_
    refine g_cT1Pv (pc := 2) C cs_X2_103 (k_X2_isAddress a ha) ⟨Nat.le_of_ble_eq_true rfl, Nat.le_of_ble_eq_true rfl⟩ (Nat.le_of_ble_eq_true rfl) ⟨Nat.le_of_ble_eq_true rfl, Nat.le_of_ble_eq_true rfl⟩ dX2_isLent_2 ?_
    refine g_if_eq (pc := 5) (tgt := 12) C dX2_isLent_5 (by decide) (by omega) (fun h5 => absurd h5 (by omega)) (fun _ => ?_)
    refine g_iconst (pc := 8) C dX2_isLent_8 ?_
    refine g_goto (pc := 9) (tgt := 13) C dX2_isLent_9 (by decide) ?_
    refine g_cM1Pv (pc := 13) C cs_X2_81 (k_X2_goesWell h13 0 (by omega)) ⟨Nat.le_of_ble_eq_true rfl, Nat.le_of_ble_eq_true rfl⟩ (by omega) (Nat.le_of_ble_eq_true rfl) ⟨Nat.le_of_ble_eq_true rfl, Nat.le_of_ble_eq_true rfl⟩ dX2_isLent_13 ?_
    refine g_if_eq (pc := 16) (tgt := 32) C dX2_isLent_16 (by decide) (by omega) (fun h16 => absurd h16 (by omega)) (fun _ => ?_)
    refine g_aload_0 (pc := 19) C dX2_isLent_19 ?_
    refine g_get_X2_30 (pc := 20) C (by omega) dX2_isLent_20 ?_
    refine g_iload_1 (pc := 23) C dX2_isLent_23 ?_
    first | refine g_aldn_10 (pc := 24) C (by omega) (by omega) dX2_isLent_24 ?_ | refine g_ald_10 (pc := 24) C (by omega) (by omega) dX2_isLent_24 ?_
    rw [mst_r (by decide)]
    refine g_if_eq (pc := 25) (tgt := 32) C dX2_isLent_25 (by decide) (by omega) (fun h25 => ?_) (fun h25 => ?_)
    · refine g_iconst (pc := 32) C dX2_isLent_32 ?_
      refine g_zret (pc := 33) C (by omega) (Nat.le_of_ble_eq_true rfl) (Nat.le_of_ble_eq_true rfl) dX2_isLent_33 ?_
      exact ⟨rfl, by rw [bz_f (by omega)], by rw [if_pos hM]⟩
    · refine g_iconst (pc := 28) C dX2_isLent_28 ?_
      refine g_goto (pc := 29) (tgt := 33) C dX2_isLent_29 (by decide) ?_
      refine g_zret (pc := 33) C (by omega) (Nat.le_of_ble_eq_true rfl) (Nat.le_of_ble_eq_true rfl) dX2_isLent_33 ?_
      exact ⟨rfl, by rw [bz_t (by omega)], by rw [if_pos hM]⟩
  · have bM := bz_f hM
    refine g_aload_0 (pc := 0) C dX2_isLent_0 ?_
    refine g_iload_1 (pc := 1) C dX2_isLent_1 ?_
    refine g_cT1Pv (pc := 2) C cs_X2_103 (k_X2_isAddress a ha) ⟨Nat.le_of_ble_eq_true rfl, Nat.le_of_ble_eq_true rfl⟩ (Nat.le_of_ble_eq_true rfl) ⟨Nat.le_of_ble_eq_true rfl, Nat.le_of_ble_eq_true rfl⟩ dX2_isLent_2 ?_
    refine g_if_eq (pc := 5) (tgt := 12) C dX2_isLent_5 (by decide) (by omega) (fun _ => ?_) (fun h5 => absurd h5 (by omega))
    refine g_iconst (pc := 12) C dX2_isLent_12 ?_
    refine g_cM1Pv (pc := 13) C cs_X2_81 (k_X2_goesWell h13 1 (by omega)) ⟨Nat.le_of_ble_eq_true rfl, Nat.le_of_ble_eq_true rfl⟩ (by omega) (Nat.le_of_ble_eq_true rfl) ⟨Nat.le_of_ble_eq_true rfl, Nat.le_of_ble_eq_true rfl⟩ dX2_isLent_13 ?_
    refine g_if_eq (pc := 16) (tgt := 32) C dX2_isLent_16 (by decide) (by omega) (fun _ => ?_) (fun h16 => absurd h16 (by omega))
    refine g_iconst (pc := 32) C dX2_isLent_32 ?_
    refine g_zret (pc := 33) C (by omega) (Nat.le_of_ble_eq_true rfl) (Nat.le_of_ble_eq_true rfl) dX2_isLent_33 ?_
    exact ⟨rfl, by rw [bz_f (by omega)], by rw [if_neg hM]⟩
theorem k_X2_nearestOf {l : Launch} {cs : CSt} {np : Nat} {ad : Nat → Nat} {T : MT} (h13 : 13 ≤ np) (hV : VM T) (a : Int) (ha : -2147483648 ≤ a ∧ a < 2147483648) : KD l cs yX2_nearestOf (Cond.code yX2_nearestOf cX2_nearestOf 5 (some .int) :: GW) 0 0 0 [.ref (ad 4), .int (zI a)] np ad T 0 (some (.int (zI (nrC T a)))) (np, ad, T) := by
  have hV0 := hV.1
  refine KC_of (cc := cX2_nearestOf) (nL := 5) (rt := (some .int)) (by decide) (by simp [grf_cat, cat_int, cat_ref]) (by simp) ?_
  intro p e s m args below meth c A C hE hin
  refine g_eq (lv2 := [some (.ref (ad 4)), some (.int (zI a)), none, none, none]) rfl rfl rfl ?_
  refine g_iconst (pc := 0) C dX2_nearestOf_0 ?_
  refine g_istore_2 (pc := 1) C dX2_nearestOf_1 ?_
  refine g_iconst (pc := 2) C dX2_nearestOf_2 ?_
  refine g_istore_3 (pc := 3) C dX2_nearestOf_3 ?_
  refine g_loop (σ := Option Value) (Tf := fun _ _ => T) (lvf := fun j z => [some (.ref (ad 4)), some (.int (zI a)), some (.int (zI (nrM (T 9) (T 5) (T 6) a j))), some (.int (zI (j : Int))), z]) (inv := fun j _ => 1 ≤ j) (N := 60) 1 none (Nat.le_refl 1) (by omega) (fun j z hj1 hN ih => ?_)
  have hb := nrM_bd (T 9) (T 5) (T 6) a j
  refine g_iload_3 (pc := 4) C dX2_nearestOf_4 ?_
  refine g_aload_0 (pc := 5) C dX2_nearestOf_5 ?_
  refine g_get_X2_26 (pc := 6) C (by omega) dX2_nearestOf_6 ?_
  refine g_icmp_ge (pc := 9) (tgt := 87) C dX2_nearestOf_9 (by decide) (by omega) (by omega) (fun h9 => ?_) (fun h9 => ?_)
  · refine g_iload_2 (pc := 87) C dX2_nearestOf_87 ?_
    refine g_iret (pc := 88) C (Nat.le_of_ble_eq_true rfl) (Nat.le_of_ble_eq_true rfl) dX2_nearestOf_88 ?_
    have e10 := nrM_st (h := T 9) (b := T 5) (z := T 6) (a := a) (j := j) (k := 60) hN (fun t h1 h2 => (hV.2.1 t (by omega)).2.2.2.2.2.2.2.2.1 (by omega))
    exact ⟨rfl, by rw [nrC_eq, e10], rfl⟩
  · have hj := hV.2.1 j (by omega)
    refine g_aload_0 (pc := 12) C dX2_nearestOf_12 ?_
    refine g_get_X2_22 (pc := 13) C (by omega) dX2_nearestOf_13 ?_
    refine g_iload_3 (pc := 16) C dX2_nearestOf_16 ?_
    first | refine g_aldn_9 (pc := 17) C (by omega) (by omega) dX2_nearestOf_17 ?_ | refine g_ald_9 (pc := 17) C (by omega) (by omega) dX2_nearestOf_17 ?_
    refine g_if_eq (pc := 18) (tgt := 52) C dX2_nearestOf_18 (by decide) (by omega) (fun h18 => ?_) (fun h18 => ?_)
    · refine g_iconst (pc := 52) C dX2_nearestOf_52 ?_
      refine g_istore_4 (pc := 53) C dX2_nearestOf_53 ?_
      refine g_iload_4 (pc := 55) C dX2_nearestOf_55 ?_
      refine g_if_eq (pc := 57) (tgt := 79) C dX2_nearestOf_57 (by decide) (by omega) (fun _ => ?_) (fun h57 => absurd h57 (by omega))
      refine g_iload_2 (pc := 79) C dX2_nearestOf_79 ?_
      refine g_istore_2 (pc := 80) C dX2_nearestOf_80 ?_
      refine g_iinc_3 (pc := 81) C dX2_nearestOf_81 ?_
      refine g_goto (pc := 84) (tgt := 4) C dX2_nearestOf_84 (by decide) ?_
      have e9 : nrM (T 9) (T 5) (T 6) a (j + 1) = nrM (T 9) (T 5) (T 6) a j := by
        show ite _ _ _ = _
        rw [if_neg (by omega)]
      exact g_eq rfl (by rw [← e9]; rfl) rfl (ih _ (by omega) (by omega))
    · refine g_iload_1 (pc := 21) C dX2_nearestOf_21 ?_
      refine g_aload_0 (pc := 22) C dX2_nearestOf_22 ?_
      refine g_get_X2_7 (pc := 23) C (by omega) dX2_nearestOf_23 ?_
      refine g_iload_3 (pc := 26) C dX2_nearestOf_26 ?_
      first | refine g_aldn_5 (pc := 27) C (by omega) (by omega) dX2_nearestOf_27 ?_ | refine g_ald_5 (pc := 27) C (by omega) (by omega) dX2_nearestOf_27 ?_
      refine g_icmp_lt (pc := 28) (tgt := 52) C dX2_nearestOf_28 (by decide) (by omega) (by omega) (fun h28 => ?_) (fun h28 => ?_)
      · refine g_iconst (pc := 52) C dX2_nearestOf_52 ?_
        refine g_istore_4 (pc := 53) C dX2_nearestOf_53 ?_
        refine g_iload_4 (pc := 55) C dX2_nearestOf_55 ?_
        refine g_if_eq (pc := 57) (tgt := 79) C dX2_nearestOf_57 (by decide) (by omega) (fun _ => ?_) (fun h57 => absurd h57 (by omega))
        refine g_iload_2 (pc := 79) C dX2_nearestOf_79 ?_
        refine g_istore_2 (pc := 80) C dX2_nearestOf_80 ?_
        refine g_iinc_3 (pc := 81) C dX2_nearestOf_81 ?_
        refine g_goto (pc := 84) (tgt := 4) C dX2_nearestOf_84 (by decide) ?_
        have e9 : nrM (T 9) (T 5) (T 6) a (j + 1) = nrM (T 9) (T 5) (T 6) a j := by
          show ite _ _ _ = _
          rw [if_neg (by omega)]
        exact g_eq rfl (by rw [← e9]; rfl) rfl (ih _ (by omega) (by omega))
      · refine g_iload_1 (pc := 31) C dX2_nearestOf_31 ?_
        refine g_aload_0 (pc := 32) C dX2_nearestOf_32 ?_
        refine g_get_X2_7 (pc := 33) C (by omega) dX2_nearestOf_33 ?_
        refine g_iload_3 (pc := 36) C dX2_nearestOf_36 ?_
        first | refine g_aldn_5 (pc := 37) C (by omega) (by omega) dX2_nearestOf_37 ?_ | refine g_ald_5 (pc := 37) C (by omega) (by omega) dX2_nearestOf_37 ?_
        refine g_aload_0 (pc := 38) C dX2_nearestOf_38 ?_
        refine g_get_X2_13 (pc := 39) C (by omega) dX2_nearestOf_39 ?_
        refine g_iload_3 (pc := 42) C dX2_nearestOf_42 ?_
        first | refine g_aldn_6 (pc := 43) C (by omega) (by omega) dX2_nearestOf_43 ?_ | refine g_ald_6 (pc := 43) C (by omega) (by omega) dX2_nearestOf_43 ?_
        refine g_iadd (pc := 44) C dX2_nearestOf_44 ?_
        refine g_icmp_ge (pc := 45) (tgt := 52) C dX2_nearestOf_45 (by decide) (by omega) (by omega) (fun h45 => ?_) (fun h45 => ?_)
        · refine g_iconst (pc := 52) C dX2_nearestOf_52 ?_
          refine g_istore_4 (pc := 53) C dX2_nearestOf_53 ?_
          refine g_iload_4 (pc := 55) C dX2_nearestOf_55 ?_
          refine g_if_eq (pc := 57) (tgt := 79) C dX2_nearestOf_57 (by decide) (by omega) (fun _ => ?_) (fun h57 => absurd h57 (by omega))
          refine g_iload_2 (pc := 79) C dX2_nearestOf_79 ?_
          refine g_istore_2 (pc := 80) C dX2_nearestOf_80 ?_
          refine g_iinc_3 (pc := 81) C dX2_nearestOf_81 ?_
          refine g_goto (pc := 84) (tgt := 4) C dX2_nearestOf_84 (by decide) ?_
          have e9 : nrM (T 9) (T 5) (T 6) a (j + 1) = nrM (T 9) (T 5) (T 6) a j := by
            show ite _ _ _ = _
            rw [if_neg (by omega)]
          exact g_eq rfl (by rw [← e9]; rfl) rfl (ih _ (by omega) (by omega))
        · have hn := hV.s (x := nrM (T 9) (T 5) (T 6) a j) (by omega)
          refine g_iconst (pc := 48) C dX2_nearestOf_48 ?_
          refine g_goto (pc := 49) (tgt := 53) C dX2_nearestOf_49 (by decide) ?_
          refine g_istore_4 (pc := 53) C dX2_nearestOf_53 ?_
          refine g_iload_4 (pc := 55) C dX2_nearestOf_55 ?_
          refine g_if_eq (pc := 57) (tgt := 79) C dX2_nearestOf_57 (by decide) (by omega) (fun h57 => absurd h57 (by omega)) (fun _ => ?_)
          refine g_aload_0 (pc := 60) C dX2_nearestOf_60 ?_
          refine g_get_X2_13 (pc := 61) C (by omega) dX2_nearestOf_61 ?_
          refine g_iload_3 (pc := 64) C dX2_nearestOf_64 ?_
          first | refine g_aldn_6 (pc := 65) C (by omega) (by omega) dX2_nearestOf_65 ?_ | refine g_ald_6 (pc := 65) C (by omega) (by omega) dX2_nearestOf_65 ?_
          refine g_aload_0 (pc := 66) C dX2_nearestOf_66 ?_
          refine g_get_X2_13 (pc := 67) C (by omega) dX2_nearestOf_67 ?_
          refine g_iload_2 (pc := 70) C dX2_nearestOf_70 ?_
          first | refine g_aldn_6 (pc := 71) C (by omega) (by omega) dX2_nearestOf_71 ?_ | refine g_ald_6 (pc := 71) C (by omega) (by omega) dX2_nearestOf_71 ?_
          refine g_icmp_gt (pc := 72) (tgt := 79) C dX2_nearestOf_72 (by decide) (by omega) (by omega) (fun h72 => ?_) (fun h72 => ?_)
          · refine g_iload_2 (pc := 79) C dX2_nearestOf_79 ?_
            refine g_istore_2 (pc := 80) C dX2_nearestOf_80 ?_
            refine g_iinc_3 (pc := 81) C dX2_nearestOf_81 ?_
            refine g_goto (pc := 84) (tgt := 4) C dX2_nearestOf_84 (by decide) ?_
            have e9 : nrM (T 9) (T 5) (T 6) a (j + 1) = nrM (T 9) (T 5) (T 6) a j := by
              show ite _ _ _ = _
              rw [if_neg (by omega)]
            exact g_eq rfl (by rw [← e9]; rfl) rfl (ih _ (by omega) (by omega))
          · refine g_iload_3 (pc := 75) C dX2_nearestOf_75 ?_
            refine g_goto (pc := 76) (tgt := 80) C dX2_nearestOf_76 (by decide) ?_
            refine g_istore_2 (pc := 80) C dX2_nearestOf_80 ?_
            refine g_iinc_3 (pc := 81) C dX2_nearestOf_81 ?_
            refine g_goto (pc := 84) (tgt := 4) C dX2_nearestOf_84 (by decide) ?_
            have e9 : nrM (T 9) (T 5) (T 6) a (j + 1) = j := by
              show ite _ _ _ = _
              rw [if_pos (by omega)]
            exact g_eq rfl (by rw [e9]; rfl) rfl (ih _ (by omega) (by omega))
theorem nrC_th (T : MT) (z a : Int) : nrC (mst T 4 0 z) a = nrC T a := nrC_f (mst_f (by decide)) (mst_f (by decide)) (mst_f (by decide)) a
theorem k_X2_nearestByRow {l : Launch} {cs : CSt} {np : Nat} {ad : Nat → Nat} {T : MT} (h13 : 13 ≤ np) (hV : VM T) (a : Int) (ha : -2147483648 ≤ a ∧ a < 2147483648) : KD l cs yX2_nearestByRow (Cond.code yX2_nearestByRow cX2_nearestByRow 2 (some .int) :: GW) 2 0 0 [.ref (ad 4), .int (zI a)] np ad T 0 (some (.int (zI (if 0 ≤ a ∧ a < 4096 then nrC T a else 0)))) (np, ad, mst T 4 0 (if 0 ≤ a ∧ a < 4096 then 0 else 1)) := by
  have hV0 := hV.1
  have b10 : bz ((1 : Int) = 0) = 0 := bz_f (by decide)
  have b20 : bz ((2 : Int) = 0) = 0 := bz_f (by decide)
  have b30 : bz ((3 : Int) = 0) = 0 := bz_f (by decide)
  have b00 : bz ((0 : Int) = 0) = 1 := bz_t (by decide)
  refine KC_of (cc := cX2_nearestByRow) (nL := 2) (rt := (some .int)) (by decide) (by simp [grf_cat, cat_int, cat_ref]) (by simp) ?_
  intro p e s m args below meth c A C hE hin
  refine g_eq (lv2 := [some (.ref (ad 4)), some (.int (zI a))]) rfl rfl rfl ?_
  by_cases hM : 0 ≤ a ∧ a < 4096
  · have bM := bz_t hM
    refine g_aload_0 (pc := 0) C dX2_nearestByRow_0 ?_
    refine g_iload_1 (pc := 1) C dX2_nearestByRow_1 ?_
    refine g_cT1Pv (pc := 2) C cs_X2_103 (k_X2_isAddress a ha) ⟨Nat.le_of_ble_eq_true rfl, Nat.le_of_ble_eq_true rfl⟩ (Nat.le_of_ble_eq_true rfl) ⟨Nat.le_of_ble_eq_true rfl, Nat.le_of_ble_eq_true rfl⟩ dX2_nearestByRow_2 ?_
    refine g_if_eq (pc := 5) (tgt := 12) C dX2_nearestByRow_5 (by decide) (by omega) (fun h5 => absurd h5 (by omega)) (fun _ => ?_)
    refine g_iconst (pc := 8) C dX2_nearestByRow_8 ?_
    refine g_goto (pc := 9) (tgt := 13) C dX2_nearestByRow_9 (by decide) ?_
    refine g_cM1Pv (pc := 13) C cs_X2_81 (k_X2_goesWell h13 0 (by omega)) ⟨Nat.le_of_ble_eq_true rfl, Nat.le_of_ble_eq_true rfl⟩ (by omega) (Nat.le_of_ble_eq_true rfl) ⟨Nat.le_of_ble_eq_true rfl, Nat.le_of_ble_eq_true rfl⟩ dX2_nearestByRow_13 ?_
    refine g_if_eq (pc := 16) (tgt := 27) C dX2_nearestByRow_16 (by decide) (by omega) (fun h16 => absurd h16 (by omega)) (fun _ => ?_)
    refine g_aload_0 (pc := 19) C dX2_nearestByRow_19 ?_
    refine g_iload_1 (pc := 20) C dX2_nearestByRow_20 ?_
    refine g_cM1Pv (pc := 21) C cs_X2_110 (k_X2_nearestOf h13 (hV.th 0) a ha) ⟨Nat.le_of_ble_eq_true rfl, Nat.le_of_ble_eq_true rfl⟩ (by omega) (Nat.le_of_ble_eq_true rfl) ⟨Nat.le_of_ble_eq_true rfl, Nat.le_of_ble_eq_true rfl⟩ dX2_nearestByRow_21 ?_
    refine g_goto (pc := 24) (tgt := 28) C dX2_nearestByRow_24 (by decide) ?_
    refine g_iret (pc := 28) C (Nat.le_of_ble_eq_true rfl) (Nat.le_of_ble_eq_true rfl) dX2_nearestByRow_28 ?_
    exact ⟨rfl, by rw [if_pos hM, nrC_th], by rw [if_pos hM]⟩
  · have bM := bz_f hM
    refine g_aload_0 (pc := 0) C dX2_nearestByRow_0 ?_
    refine g_iload_1 (pc := 1) C dX2_nearestByRow_1 ?_
    refine g_cT1Pv (pc := 2) C cs_X2_103 (k_X2_isAddress a ha) ⟨Nat.le_of_ble_eq_true rfl, Nat.le_of_ble_eq_true rfl⟩ (Nat.le_of_ble_eq_true rfl) ⟨Nat.le_of_ble_eq_true rfl, Nat.le_of_ble_eq_true rfl⟩ dX2_nearestByRow_2 ?_
    refine g_if_eq (pc := 5) (tgt := 12) C dX2_nearestByRow_5 (by decide) (by omega) (fun _ => ?_) (fun h5 => absurd h5 (by omega))
    refine g_iconst (pc := 12) C dX2_nearestByRow_12 ?_
    refine g_cM1Pv (pc := 13) C cs_X2_81 (k_X2_goesWell h13 1 (by omega)) ⟨Nat.le_of_ble_eq_true rfl, Nat.le_of_ble_eq_true rfl⟩ (by omega) (Nat.le_of_ble_eq_true rfl) ⟨Nat.le_of_ble_eq_true rfl, Nat.le_of_ble_eq_true rfl⟩ dX2_nearestByRow_13 ?_
    refine g_if_eq (pc := 16) (tgt := 27) C dX2_nearestByRow_16 (by decide) (by omega) (fun _ => ?_) (fun h16 => absurd h16 (by omega))
    refine g_iconst (pc := 27) C dX2_nearestByRow_27 ?_
    refine g_iret (pc := 28) C (Nat.le_of_ble_eq_true rfl) (Nat.le_of_ble_eq_true rfl) dX2_nearestByRow_28 ?_
    exact ⟨rfl, by rw [if_neg hM], by rw [if_neg hM]⟩
theorem k_X2_nearest {l : Launch} {cs : CSt} {np : Nat} {ad : Nat → Nat} {T : MT} (h13 : 13 ≤ np) (hV : VM T) (a : Int) (ha : -2147483648 ≤ a ∧ a < 2147483648) : KD l cs yX2_nearest (Cond.code yX2_nearest cX2_nearest 2 (some .int) :: GW) 3 0 0 [.ref (ad 4), .int (zI a)] np ad T 0 (some (.int (zI (if 0 ≤ a ∧ a < 4096 then nrC T a else 0)))) (np, ad, mst T 4 0 (if 0 ≤ a ∧ a < 4096 then 0 else 1)) := by
  refine KC_of (cc := cX2_nearest) (nL := 2) (rt := (some .int)) (by decide) (by simp [grf_cat, cat_int, cat_ref]) (by simp) ?_
  intro p e s m args below meth c A C hE hin
  refine g_eq (lv2 := [some (.ref (ad 4)), some (.int (zI a))]) rfl rfl rfl ?_
  refine g_aload_0 (pc := 0) C dX2_nearest_0 ?_
  refine g_iload_1 (pc := 1) C dX2_nearest_1 ?_
  refine g_cM1Pv (pc := 2) C cs_X2_107 (k_X2_nearestByRow h13 hV a ha) ⟨Nat.le_of_ble_eq_true rfl, Nat.le_of_ble_eq_true rfl⟩ (by omega) (Nat.le_of_ble_eq_true rfl) ⟨Nat.le_of_ble_eq_true rfl, Nat.le_of_ble_eq_true rfl⟩ dX2_nearest_2 ?_
  refine g_iret (pc := 5) C (Nat.le_of_ble_eq_true rfl) (Nat.le_of_ble_eq_true rfl) dX2_nearest_5 ?_
  exact ⟨rfl, rfl, rfl⟩
theorem nrC_ly (T : MT) (o : Int) (j : Nat) (a : Int) : nrC (lyO T o j) a = nrC T a := nrC_f (lyO_f (by decide)) (lyO_f (by decide)) (lyO_f (by decide)) a
theorem k_X2_layOwner {l : Launch} {cs : CSt} {np : Nat} {ad : Nat → Nat} {T : MT} (h13 : 13 ≤ np) (hV : VM T) (o : Int) (ho : 0 ≤ o ∧ o < 8) : KD l cs yX2_layOwner (Cond.code yX2_layOwner cX2_layOwner 3 none :: GW) 1 0 0 [.ref (ad 4), .int (zI o)] np ad T 0 none (np, ad, lyO T o 4096) := by
  refine KC_of (cc := cX2_layOwner) (nL := 3) (rt := none) (by decide) (by simp [grf_cat, cat_int, cat_ref]) (by simp) ?_
  intro p e s m args below meth c A C hE hin
  refine g_eq (lv2 := [some (.ref (ad 4)), some (.int (zI o)), none]) rfl rfl rfl ?_
  refine g_iconst (pc := 0) C dX2_layOwner_0 ?_
  refine g_istore_2 (pc := 1) C dX2_layOwner_1 ?_
  refine g_eq (T2 := lyO T o 0) (lyO_0 T o).symm rfl rfl ?_
  refine g_loop (σ := Unit) (Tf := fun j _ => lyO T o j) (lvf := fun j _ => [some (.ref (ad 4)), some (.int (zI o)), some (.int (zI (j : Int)))]) (inv := fun _ _ => True) (N := 4096) 0 () trivial (by omega) (fun j _ _ hN ih => ?_)
  refine g_iload_2 (pc := 2) C dX2_layOwner_2 ?_
  refine g_sipush (pc := 3) C dX2_layOwner_3 (by decide) ?_
  refine g_icmp_ge (pc := 6) (tgt := 49) C dX2_layOwner_6 (by decide) (by omega) (by omega) (fun h6 => ?_) (fun h6 => ?_)
  · obtain rfl : j = 4096 := by omega
    refine g_vret (pc := 49) C (Nat.le_of_ble_eq_true rfl) (Nat.le_of_ble_eq_true rfl) dX2_layOwner_49 ?_
    exact ⟨rfl, rfl, rfl⟩
  · have hsm := smC_bd T o j
    have hnr := nrC_bd T j
    have hns := hV.s (x := nrC T j) (by omega)
    have e9 : smC T o (j + 1) = smC T o j + (if T 8 (nrC T j).toNat = o then 1 else 0) := by rw [smC_eq, smC_eq]; rfl
    refine g_aload_0 (pc := 9) C dX2_layOwner_9 ?_
    refine g_get_X2_33 (pc := 10) C (by omega) dX2_layOwner_10 ?_
    refine g_iload_2 (pc := 13) C dX2_layOwner_13 ?_
    refine g_iconst (pc := 14) C dX2_layOwner_14 ?_
    refine g_iadd (pc := 15) C dX2_layOwner_15 ?_
    refine g_aload_0 (pc := 16) C dX2_layOwner_16 ?_
    refine g_get_X2_33 (pc := 17) C (by omega) dX2_layOwner_17 ?_
    refine g_iload_2 (pc := 20) C dX2_layOwner_20 ?_
    first | refine g_aldn_11 (pc := 21) C (by omega) (by omega) dX2_layOwner_21 ?_ | refine g_ald_11 (pc := 21) C (by omega) (by omega) dX2_layOwner_21 ?_
    rw [lyO_11 hV.1.2.2.2.2.2.2 o (Nat.le_refl j)]
    refine g_aload_0 (pc := 22) C dX2_layOwner_22 ?_
    refine g_get_X2_19 (pc := 23) C (by omega) dX2_layOwner_23 ?_
    refine g_aload_0 (pc := 26) C dX2_layOwner_26 ?_
    refine g_iload_2 (pc := 27) C dX2_layOwner_27 ?_
    have K := k_X2_nearestOf (l := l) (cs := cs) (ad := ad) h13 (hV.lyO o j) (j : Int) (by omega)
    rw [nrC_ly] at K
    refine g_cM1Pv (pc := 28) C cs_X2_110 K ⟨Nat.le_of_ble_eq_true rfl, Nat.le_of_ble_eq_true rfl⟩ (by omega) (Nat.le_of_ble_eq_true rfl) ⟨Nat.le_of_ble_eq_true rfl, Nat.le_of_ble_eq_true rfl⟩ dX2_layOwner_28 ?_
    first | refine g_aldn_8 (pc := 31) C (by omega) (by omega) dX2_layOwner_31 ?_ | refine g_ald_8 (pc := 31) C (by omega) (by omega) dX2_layOwner_31 ?_
    rw [lyO_r (Or.inl (by decide))]
    refine g_iload_1 (pc := 32) C dX2_layOwner_32 ?_
    refine g_icmp_ne (pc := 33) (tgt := 40) C dX2_layOwner_33 (by decide) (by omega) (by omega) (fun h33 => ?_) (fun h33 => ?_)
    · refine g_iconst (pc := 40) C dX2_layOwner_40 ?_
      refine g_iadd (pc := 41) C dX2_layOwner_41 ?_
      first | refine g_astn_11 (pc := 42) C (by omega) (by omega) dX2_layOwner_42 ?_ | refine g_ast_11 (pc := 42) C (by omega) (by omega) dX2_layOwner_42 ?_
      refine g_eq (T2 := lyO T o (j + 1)) ?_ rfl rfl ?_
      · rw [if_neg h33] at e9
        rw [← lyO_s, e9, Int.add_zero]; rfl
      · refine g_iinc_2 (pc := 43) C dX2_layOwner_43 ?_
        refine g_goto (pc := 46) (tgt := 2) C dX2_layOwner_46 (by decide) ?_
        exact ih () (by omega) trivial
    · refine g_iconst (pc := 36) C dX2_layOwner_36 ?_
      refine g_goto (pc := 37) (tgt := 41) C dX2_layOwner_37 (by decide) ?_
      refine g_iadd (pc := 41) C dX2_layOwner_41 ?_
      first | refine g_astn_11 (pc := 42) C (by omega) (by omega) dX2_layOwner_42 ?_ | refine g_ast_11 (pc := 42) C (by omega) (by omega) dX2_layOwner_42 ?_
      refine g_eq (T2 := lyO T o (j + 1)) ?_ rfl rfl ?_
      · rw [if_pos (by omega)] at e9
        rw [← lyO_s, e9]; rfl
      · refine g_iinc_2 (pc := 43) C dX2_layOwner_43 ?_
        refine g_goto (pc := 46) (tgt := 2) C dX2_layOwner_46 (by decide) ?_
        exact ih () (by omega) trivial
theorem smC_th (T : MT) (z o : Int) (j : Nat) : smC (mst T 4 0 z) o j = smC T o j := smC_f (mst_f (by decide)) (mst_f (by decide)) (mst_f (by decide)) (mst_f (by decide)) o j
theorem k_X2_owned {l : Launch} {cs : CSt} {np : Nat} {ad : Nat → Nat} {T : MT} (h13 : 13 ≤ np) (hV : VM T) (o : Int) (ho : -2147483648 ≤ o ∧ o < 2147483648) : KD l cs yX2_owned (Cond.code yX2_owned cX2_owned 2 (some .int) :: GW) 2 0 0 [.ref (ad 4), .int (zI o)] np ad T 0 (some (.int (zI (if 0 ≤ o ∧ o < 8 then smC T o 4096 else 0)))) (np, ad, if 0 ≤ o ∧ o < 8 then lyO (mst T 4 0 0) o 4096 else mst T 4 0 1) := by
  have hV0 := hV.1
  have b10 : bz ((1 : Int) = 0) = 0 := bz_f (by decide)
  have b20 : bz ((2 : Int) = 0) = 0 := bz_f (by decide)
  have b30 : bz ((3 : Int) = 0) = 0 := bz_f (by decide)
  have b00 : bz ((0 : Int) = 0) = 1 := bz_t (by decide)
  refine KC_of (cc := cX2_owned) (nL := 2) (rt := (some .int)) (by decide) (by simp [grf_cat, cat_int, cat_ref]) (by simp) ?_
  intro p e s m args below meth c A C hE hin
  refine g_eq (lv2 := [some (.ref (ad 4)), some (.int (zI o))]) rfl rfl rfl ?_
  by_cases hM : 0 ≤ o ∧ o < 8
  · have bM := bz_t hM
    refine g_aload_0 (pc := 0) C dX2_owned_0 ?_
    refine g_iload_1 (pc := 1) C dX2_owned_1 ?_
    refine g_cT1Pv (pc := 2) C cs_X2_67 (k_X2_isOwner o ho) ⟨Nat.le_of_ble_eq_true rfl, Nat.le_of_ble_eq_true rfl⟩ (Nat.le_of_ble_eq_true rfl) ⟨Nat.le_of_ble_eq_true rfl, Nat.le_of_ble_eq_true rfl⟩ dX2_owned_2 ?_
    refine g_if_eq (pc := 5) (tgt := 12) C dX2_owned_5 (by decide) (by omega) (fun h5 => absurd h5 (by omega)) (fun _ => ?_)
    refine g_iconst (pc := 8) C dX2_owned_8 ?_
    refine g_goto (pc := 9) (tgt := 13) C dX2_owned_9 (by decide) ?_
    refine g_cM1Pv (pc := 13) C cs_X2_81 (k_X2_goesWell h13 0 (by omega)) ⟨Nat.le_of_ble_eq_true rfl, Nat.le_of_ble_eq_true rfl⟩ (by omega) (Nat.le_of_ble_eq_true rfl) ⟨Nat.le_of_ble_eq_true rfl, Nat.le_of_ble_eq_true rfl⟩ dX2_owned_13 ?_
    refine g_if_ne (pc := 16) (tgt := 21) C dX2_owned_16 (by decide) (by omega) (fun _ => ?_) (fun h16 => absurd h16 (by omega))
    refine g_aload_0 (pc := 21) C dX2_owned_21 ?_
    refine g_iload_1 (pc := 22) C dX2_owned_22 ?_
    refine g_cM1Pn (pc := 23) C cs_X2_113 (k_X2_layOwner h13 (hV.th 0) o hM) ⟨Nat.le_of_ble_eq_true rfl, Nat.le_of_ble_eq_true rfl⟩ (by omega) (Nat.le_of_ble_eq_true rfl) ⟨Nat.le_of_ble_eq_true rfl, Nat.le_of_ble_eq_true rfl⟩ dX2_owned_23 ?_
    refine g_aload_0 (pc := 26) C dX2_owned_26 ?_
    refine g_get_X2_33 (pc := 27) C (by omega) dX2_owned_27 ?_
    refine g_sipush (pc := 30) C dX2_owned_30 (by decide) ?_
    first | refine g_aldn_11 (pc := 33) C (by omega) (by omega) dX2_owned_33 ?_ | refine g_ald_11 (pc := 33) C (by omega) (by omega) dX2_owned_33 ?_
    have e1 := lyO_11 (T := mst T 4 0 0) (hV.th 0).1.2.2.2.2.2.2 o (Nat.le_refl 4096)
    rw [show Int.toNat 4096 = 4096 from rfl, e1, smC_th]
    refine g_iret (pc := 34) C (Nat.le_of_ble_eq_true rfl) (Nat.le_of_ble_eq_true rfl) dX2_owned_34 ?_
    exact ⟨rfl, by rw [if_pos hM], by rw [if_pos hM]⟩
  · have bM := bz_f hM
    refine g_aload_0 (pc := 0) C dX2_owned_0 ?_
    refine g_iload_1 (pc := 1) C dX2_owned_1 ?_
    refine g_cT1Pv (pc := 2) C cs_X2_67 (k_X2_isOwner o ho) ⟨Nat.le_of_ble_eq_true rfl, Nat.le_of_ble_eq_true rfl⟩ (Nat.le_of_ble_eq_true rfl) ⟨Nat.le_of_ble_eq_true rfl, Nat.le_of_ble_eq_true rfl⟩ dX2_owned_2 ?_
    refine g_if_eq (pc := 5) (tgt := 12) C dX2_owned_5 (by decide) (by omega) (fun _ => ?_) (fun h5 => absurd h5 (by omega))
    refine g_iconst (pc := 12) C dX2_owned_12 ?_
    refine g_cM1Pv (pc := 13) C cs_X2_81 (k_X2_goesWell h13 1 (by omega)) ⟨Nat.le_of_ble_eq_true rfl, Nat.le_of_ble_eq_true rfl⟩ (by omega) (Nat.le_of_ble_eq_true rfl) ⟨Nat.le_of_ble_eq_true rfl, Nat.le_of_ble_eq_true rfl⟩ dX2_owned_13 ?_
    refine g_if_ne (pc := 16) (tgt := 21) C dX2_owned_16 (by decide) (by omega) (fun h16 => absurd h16 (by omega)) (fun _ => ?_)
    refine g_iconst (pc := 19) C dX2_owned_19 ?_
    refine g_iret (pc := 20) C (Nat.le_of_ble_eq_true rfl) (Nat.le_of_ble_eq_true rfl) dX2_owned_20 ?_
    exact ⟨rfl, by rw [if_neg hM], by rw [if_neg hM]⟩
theorem k_X2_isAll {l : Launch} {cs : CSt} {np : Nat} {ad : Nat → Nat} {U : MT} (h13 : 13 ≤ np) (f : Nat → Int) (hf : ∀ i, i ≤ 4096 → U 11 i = f i) (hb : ∀ i : Nat, 0 ≤ f i ∧ f i ≤ i) (B S : Int) (hB : 0 ≤ B ∧ B ≤ 4096 ∧ 1 ≤ S ∧ S ≤ 8192) : KD l cs yX2_isAll (Cond.code yX2_isAll cX2_isAll 3 (some .boolean) :: GW) 0 0 0 [.ref (ad 4), .int (zI B), .int (zI S)] np ad U 0 (some (.int (zI (bz (B + S ≤ 4096 ∧ f (B + S).toNat - f B.toNat = S))))) (np, ad, U) := by
  refine KC_of (cc := cX2_isAll) (nL := 3) (rt := (some .boolean)) (by decide) (by simp [grf_cat, cat_int, cat_ref]) (by simp) ?_
  intro p e s m args below meth c A C hE hin
  refine g_eq (lv2 := [some (.ref (ad 4)), some (.int (zI B)), some (.int (zI S))]) rfl rfl rfl ?_
  refine g_iload_1 (pc := 0) C dX2_isAll_0 ?_
  refine g_iload_2 (pc := 1) C dX2_isAll_1 ?_
  refine g_iadd (pc := 2) C dX2_isAll_2 ?_
  refine g_sipush (pc := 3) C dX2_isAll_3 (by decide) ?_
  refine g_icmp_gt (pc := 6) (tgt := 32) C dX2_isAll_6 (by decide) (by omega) (by omega) (fun h6 => ?_) (fun h6 => ?_)
  · refine g_iconst (pc := 32) C dX2_isAll_32 ?_
    refine g_zret (pc := 33) C (by omega) (Nat.le_of_ble_eq_true rfl) (Nat.le_of_ble_eq_true rfl) dX2_isAll_33 ?_
    exact ⟨rfl, by rw [bz_f (by omega)], rfl⟩
  · have h1 := hb (B + S).toNat
    have h2 := hb B.toNat
    refine g_aload_0 (pc := 9) C dX2_isAll_9 ?_
    refine g_get_X2_33 (pc := 10) C (by omega) dX2_isAll_10 ?_
    refine g_iload_1 (pc := 13) C dX2_isAll_13 ?_
    refine g_iload_2 (pc := 14) C dX2_isAll_14 ?_
    refine g_iadd (pc := 15) C dX2_isAll_15 ?_
    first | refine g_aldn_11 (pc := 16) C (by omega) (by omega) dX2_isAll_16 ?_ | refine g_ald_11 (pc := 16) C (by omega) (by omega) dX2_isAll_16 ?_
    rw [hf _ (by omega)]
    refine g_aload_0 (pc := 17) C dX2_isAll_17 ?_
    refine g_get_X2_33 (pc := 18) C (by omega) dX2_isAll_18 ?_
    refine g_iload_1 (pc := 21) C dX2_isAll_21 ?_
    first | refine g_aldn_11 (pc := 22) C (by omega) (by omega) dX2_isAll_22 ?_ | refine g_ald_11 (pc := 22) C (by omega) (by omega) dX2_isAll_22 ?_
    rw [hf _ (by omega)]
    refine g_isub (pc := 23) C dX2_isAll_23 ?_
    refine g_iload_2 (pc := 24) C dX2_isAll_24 ?_
    refine g_icmp_ne (pc := 25) (tgt := 32) C dX2_isAll_25 (by decide) (by omega) (by omega) (fun h25 => ?_) (fun h25 => ?_)
    · refine g_iconst (pc := 32) C dX2_isAll_32 ?_
      refine g_zret (pc := 33) C (by omega) (Nat.le_of_ble_eq_true rfl) (Nat.le_of_ble_eq_true rfl) dX2_isAll_33 ?_
      exact ⟨rfl, by rw [bz_f (by omega)], rfl⟩
    · refine g_iconst (pc := 28) C dX2_isAll_28 ?_
      refine g_goto (pc := 29) (tgt := 33) C dX2_isAll_29 (by decide) ?_
      refine g_zret (pc := 33) C (by omega) (Nat.le_of_ble_eq_true rfl) (Nat.le_of_ble_eq_true rfl) dX2_isAll_33 ?_
      exact ⟨rfl, by rw [bz_t (by omega)], rfl⟩
theorem k_X2_inTheWay {l : Launch} {cs : CSt} {np : Nat} {ad : Nat → Nat} {T : MT} (h13 : 13 ≤ np) (hV : VM T) (a S : Int) (ha : -2147483648 ≤ a ∧ a < 2147483648) (hS : -2147483648 ≤ S ∧ S < 2147483648) : KE l cs yX2_inTheWay (Cond.code yX2_inTheWay cX2_inTheWay 6 (some .int) :: GW) 2 0 0 [.ref (ad 4), .int (zI a), .int (zI S)] np ad T (fun r U => (isM T a ∧ szp S ∧ iwP T a S r ∧ -1 ≤ r ∧ r ≤ 60 ∧ U = mst T 4 0 0) ∨ (¬ (isM T a ∧ szp S) ∧ r = 0 ∧ U = mst T 4 0 (if isM T a then 2 else 1))) := by
  have hV0 := hV.1
  have b10 : bz ((1 : Int) = 0) = 0 := bz_f (by decide)
  have b20 : bz ((2 : Int) = 0) = 0 := bz_f (by decide)
  have b30 : bz ((3 : Int) = 0) = 0 := bz_f (by decide)
  have b00 : bz ((0 : Int) = 0) = 1 := bz_t (by decide)
  refine KC_of (cc := cX2_inTheWay) (nL := 6) (rt := (some .int)) (by decide) (by simp [grf_cat, cat_int, cat_ref]) (by simp) ?_
  intro p e s m args below meth c A C hE hin
  refine g_eq (lv2 := [some (.ref (ad 4)), some (.int (zI a)), some (.int (zI S)), none, none, none]) rfl rfl rfl ?_
  by_cases hM : isM T a
  · have bM := bz_t hM
    have hs := hV.s (x := a) (by omega)
    have hz1 := hs.2.2.2.2.2.2.2.2.2 hM.2.2
    by_cases qS : szp S
    · have bS := bz_t qS
      have hS1 : 1 ≤ S ∧ S ≤ 2048 := by unfold szp at qS; omega
      have e65 : mst T 4 0 0 6 = T 6 := mst_f (by decide)
      have e55 : mst T 4 0 0 5 = T 5 := mst_f (by decide)
      have ec : ∀ B, cntM (mst T 4 0 0) a B S (-1) = cntM T a B S (-1) := fun B => cntM_th T 0 a B S (-1)
      have hVU := hV.th 0
      refine g_aload_0 (pc := 0) C dX2_inTheWay_0 ?_
      refine g_aload_0 (pc := 1) C dX2_inTheWay_1 ?_
      refine g_iload_1 (pc := 2) C dX2_inTheWay_2 ?_
      refine g_cM1Pv (pc := 3) C cs_X2_70 (k_X2_isSpan h13 hV a ha) ⟨Nat.le_of_ble_eq_true rfl, Nat.le_of_ble_eq_true rfl⟩ (by omega) (Nat.le_of_ble_eq_true rfl) ⟨Nat.le_of_ble_eq_true rfl, Nat.le_of_ble_eq_true rfl⟩ dX2_inTheWay_3 ?_
      refine g_if_ne (pc := 6) (tgt := 13) C dX2_inTheWay_6 (by decide) (by omega) (fun _ => ?_) (fun h6 => absurd h6 (by omega))
      refine g_iload_2 (pc := 13) C dX2_inTheWay_13 ?_
      refine g_cT1Pv (pc := 14) C cs_X2_64 (k_X2_isSize S hS) ⟨Nat.le_of_ble_eq_true rfl, Nat.le_of_ble_eq_true rfl⟩ (Nat.le_of_ble_eq_true rfl) ⟨Nat.le_of_ble_eq_true rfl, Nat.le_of_ble_eq_true rfl⟩ dX2_inTheWay_14 ?_
      refine g_if_eq (pc := 17) (tgt := 24) C dX2_inTheWay_17 (by decide) (by omega) (fun h17 => absurd h17 (by omega)) (fun _ => ?_)
      refine g_iconst (pc := 20) C dX2_inTheWay_20 ?_
      refine g_goto (pc := 21) (tgt := 25) C dX2_inTheWay_21 (by decide) ?_
      refine g_cM1Pv (pc := 25) C cs_X2_81 (k_X2_goesWell h13 0 (by omega)) ⟨Nat.le_of_ble_eq_true rfl, Nat.le_of_ble_eq_true rfl⟩ (by omega) (Nat.le_of_ble_eq_true rfl) ⟨Nat.le_of_ble_eq_true rfl, Nat.le_of_ble_eq_true rfl⟩ dX2_inTheWay_25 ?_
      refine g_if_ne (pc := 28) (tgt := 33) C dX2_inTheWay_28 (by decide) (by omega) (fun _ => ?_) (fun h28 => absurd h28 (by omega))
      obtain ⟨U, hUU⟩ : ∃ U, U = mst T 4 0 0 := ⟨_, rfl⟩
      rw [← hUU] at e65 e55 ec hVU ⊢
      have qS9 : True → szp S := fun _ => qS
      clear qS bS
      refine g_iconst (pc := 33) C dX2_inTheWay_33 ?_
      refine g_istore_3 (pc := 34) C dX2_inTheWay_34 ?_
      refine g_aload_0 (pc := 35) C dX2_inTheWay_35 ?_
      refine g_get_X2_7 (pc := 36) C (by omega) dX2_inTheWay_36 ?_
      refine g_iload_1 (pc := 39) C dX2_inTheWay_39 ?_
      first | refine g_aldn_5 (pc := 40) C (by omega) (by omega) dX2_inTheWay_40 ?_ | refine g_ald_5 (pc := 40) C (by omega) (by omega) dX2_inTheWay_40 ?_
      rw [e55]
      refine g_istore_4 (pc := 41) C dX2_inTheWay_41 ?_
      refine g_eq (lv2 := [some (.ref (ad 4)), some (.int (zI a)), some (.int (zI S)), some (.int (zI (-1))), some (.int (zI (T 5 a.toNat + (0 : Nat) * S))), none]) rfl (by simp) rfl ?_
      refine g_loop (σ := Int × Option Value) (Tf := fun _ _ => U) (lvf := fun k z => [some (.ref (ad 4)), some (.int (zI a)), some (.int (zI S)), some (.int (zI z.1)), some (.int (zI (T 5 a.toNat + (k : Int) * S))), z.2]) (inv := fun k z => (k : Int) * S ≤ 8192 ∧ ((k = 0 ∧ z.1 = -1) ∨ (S < T 6 a.toNat ∧ 0 ≤ z.1 ∧ z.1 ≤ 60 ∧ (∀ i : Nat, i < k → z.1 ≤ cntM T a (T 5 a.toNat + i * S) S (-1)) ∧ ∃ i : Nat, (i : Int) * S < T 6 a.toNat ∧ z.1 = cntM T a (T 5 a.toNat + i * S) S (-1)))) (N := 8192) 0 (-1, none) ⟨by simp, Or.inl ⟨rfl, rfl⟩⟩ (by omega) (fun k z hk hN ih => ?_)
      obtain ⟨le, z5⟩ := z
      dsimp only at hk ih ⊢
      obtain ⟨hk, hr⟩ := hk
      have hk3 : (k : Int) ≤ (k : Int) * S := by
        have := Int.mul_le_mul_of_nonneg_left (a := 1) (b := S) (c := (k : Int)) (by omega) (by omega)
        omega
      have e8 : T 5 a.toNat + (k : Int) * S + S = T 5 a.toNat + ((k + 1 : Nat) : Int) * S := by
        rw [Int.natCast_add, Int.add_mul, Int.natCast_one, Int.one_mul, Int.add_assoc]
      have hle : -1 ≤ le ∧ le ≤ 60 := by omega
      refine g_iload_4 (pc := 43) C dX2_inTheWay_43 ?_
      refine g_aload_0 (pc := 45) C dX2_inTheWay_45 ?_
      refine g_get_X2_7 (pc := 46) C (by omega) dX2_inTheWay_46 ?_
      refine g_iload_1 (pc := 49) C dX2_inTheWay_49 ?_
      first | refine g_aldn_5 (pc := 50) C (by omega) (by omega) dX2_inTheWay_50 ?_ | refine g_ald_5 (pc := 50) C (by omega) (by omega) dX2_inTheWay_50 ?_
      rw [e55]
      refine g_aload_0 (pc := 51) C dX2_inTheWay_51 ?_
      refine g_get_X2_13 (pc := 52) C (by omega) dX2_inTheWay_52 ?_
      refine g_iload_1 (pc := 55) C dX2_inTheWay_55 ?_
      first | refine g_aldn_6 (pc := 56) C (by omega) (by omega) dX2_inTheWay_56 ?_ | refine g_ald_6 (pc := 56) C (by omega) (by omega) dX2_inTheWay_56 ?_
      rw [e65]
      refine g_iadd (pc := 57) C dX2_inTheWay_57 ?_
      refine g_icmp_ge (pc := 58) (tgt := 109) C dX2_inTheWay_58 (by decide) (by omega) (by omega) (fun h58 => ?_) (fun h58 => ?_)
      · refine g_iload_3 (pc := 109) C dX2_inTheWay_109 ?_
        refine g_iret (pc := 110) C (Nat.le_of_ble_eq_true rfl) (Nat.le_of_ble_eq_true rfl) dX2_inTheWay_110 ?_
        refine ⟨le, _, rfl, Or.inl ⟨hM, qS9 trivial, ?_, hle.1, hle.2, rfl⟩, rfl⟩
        rcases hr with ⟨h1, h2⟩ | ⟨h1, h2, h3, h4, h5⟩
        · subst h1
          simp at h58
          omega
        · refine Or.inr ⟨h1, fun i hi => h4 i ?_, h5⟩
          by_cases e : i < k
          · exact e
          · have h9 : (k : Int) * S ≤ (i : Int) * S := Int.mul_le_mul_of_nonneg_right (by omega) (by omega)
            omega
      · refine g_iload_2 (pc := 61) C dX2_inTheWay_61 ?_
        refine g_aload_0 (pc := 62) C dX2_inTheWay_62 ?_
        refine g_get_X2_13 (pc := 63) C (by omega) dX2_inTheWay_63 ?_
        refine g_iload_1 (pc := 66) C dX2_inTheWay_66 ?_
        first | refine g_aldn_6 (pc := 67) C (by omega) (by omega) dX2_inTheWay_67 ?_ | refine g_ald_6 (pc := 67) C (by omega) (by omega) dX2_inTheWay_67 ?_
        rw [e65]
        refine g_icmp_ge (pc := 68) (tgt := 109) C dX2_inTheWay_68 (by decide) (by omega) (by omega) (fun h68 => ?_) (fun h68 => ?_)
        · refine g_iload_3 (pc := 109) C dX2_inTheWay_109 ?_
          refine g_iret (pc := 110) C (Nat.le_of_ble_eq_true rfl) (Nat.le_of_ble_eq_true rfl) dX2_inTheWay_110 ?_
          exact ⟨le, _, rfl, Or.inl ⟨hM, qS9 trivial, Or.inl ⟨by omega, by omega⟩, hle.1, hle.2, rfl⟩, rfl⟩
        · have hcb := cntM_bd T a (T 5 a.toNat + (k : Int) * S) S (-1)
          have hkk : ((k + 1 : Nat) : Int) * S ≤ 8192 := by
            rw [Int.natCast_add, Int.add_mul, Int.natCast_one, Int.one_mul]; omega
          refine g_aload_0 (pc := 71) C dX2_inTheWay_71 ?_
          refine g_iload_1 (pc := 72) C dX2_inTheWay_72 ?_
          refine g_iload_4 (pc := 73) C dX2_inTheWay_73 ?_
          refine g_iload_2 (pc := 75) C dX2_inTheWay_75 ?_
          refine g_iconst (pc := 76) C dX2_inTheWay_76 ?_
          refine g_cM4Pv (pc := 77) C cs_X2_46 (k_X2_countIn h13 hVU a _ S (-1) (by omega) (by omega) (by omega)) ⟨Nat.le_of_ble_eq_true rfl, Nat.le_of_ble_eq_true rfl⟩ (by omega) (Nat.le_of_ble_eq_true rfl) ⟨Nat.le_of_ble_eq_true rfl, Nat.le_of_ble_eq_true rfl⟩ dX2_inTheWay_77 ?_
          rw [ec]
          refine g_istore_5 (pc := 80) C dX2_inTheWay_80 ?_
          refine g_iload_3 (pc := 82) C dX2_inTheWay_82 ?_
          refine g_iconst (pc := 83) C dX2_inTheWay_83 ?_
          refine g_icmp_eq (pc := 84) (tgt := 93) C dX2_inTheWay_84 (by decide) (by omega) (by omega) (fun h84 => ?_) (fun h84 => ?_)
          · refine g_iload_5 (pc := 93) C dX2_inTheWay_93 ?_
            refine g_goto (pc := 95) (tgt := 99) C dX2_inTheWay_95 (by decide) ?_
            refine g_istore_3 (pc := 99) C dX2_inTheWay_99 ?_
            refine g_iload_4 (pc := 100) C dX2_inTheWay_100 ?_
            refine g_iload_2 (pc := 102) C dX2_inTheWay_102 ?_
            refine g_iadd (pc := 103) C dX2_inTheWay_103 ?_
            refine g_istore_4 (pc := 104) C dX2_inTheWay_104 ?_
            refine g_goto (pc := 106) (tgt := 43) C dX2_inTheWay_106 (by decide) ?_
            rw [e8]
            refine ih (cntM T a (T 5 a.toNat + (k : Int) * S) S (-1), _) (by omega) ⟨hkk, Or.inr ⟨by omega, hcb.1, hcb.2, fun i hi => ?_, k, by omega, rfl⟩⟩
            by_cases e : i = k
            · subst e; exact Int.le_refl _
            · rcases hr with ⟨h1, h2⟩ | ⟨h1, h2, h3, h4, h5⟩
              · omega
              · omega
          · refine g_iload_5 (pc := 87) C dX2_inTheWay_87 ?_
            refine g_iload_3 (pc := 89) C dX2_inTheWay_89 ?_
            refine g_icmp_ge (pc := 90) (tgt := 98) C dX2_inTheWay_90 (by decide) (by omega) (by omega) (fun h90 => ?_) (fun h90 => ?_)
            · refine g_iload_3 (pc := 98) C dX2_inTheWay_98 ?_
              refine g_istore_3 (pc := 99) C dX2_inTheWay_99 ?_
              refine g_iload_4 (pc := 100) C dX2_inTheWay_100 ?_
              refine g_iload_2 (pc := 102) C dX2_inTheWay_102 ?_
              refine g_iadd (pc := 103) C dX2_inTheWay_103 ?_
              refine g_istore_4 (pc := 104) C dX2_inTheWay_104 ?_
              refine g_goto (pc := 106) (tgt := 43) C dX2_inTheWay_106 (by decide) ?_
              rw [e8]
              refine ih (le, _) (by omega) ⟨hkk, Or.inr ⟨by omega, by dsimp only; omega, hle.2, fun i hi => ?_, ?_⟩⟩
              · by_cases e : i = k
                · subst e; dsimp only; omega
                · rcases hr with ⟨h1, h2⟩ | ⟨h1, h2, h3, h4, h5⟩
                  · omega
                  · exact h4 i (by omega)
              · rcases hr with ⟨h1, h2⟩ | ⟨h1, h2, h3, h4, h5⟩
                · omega
                · exact h5
            · refine g_iload_5 (pc := 93) C dX2_inTheWay_93 ?_
              refine g_goto (pc := 95) (tgt := 99) C dX2_inTheWay_95 (by decide) ?_
              refine g_istore_3 (pc := 99) C dX2_inTheWay_99 ?_
              refine g_iload_4 (pc := 100) C dX2_inTheWay_100 ?_
              refine g_iload_2 (pc := 102) C dX2_inTheWay_102 ?_
              refine g_iadd (pc := 103) C dX2_inTheWay_103 ?_
              refine g_istore_4 (pc := 104) C dX2_inTheWay_104 ?_
              refine g_goto (pc := 106) (tgt := 43) C dX2_inTheWay_106 (by decide) ?_
              rw [e8]
              refine ih (cntM T a (T 5 a.toNat + (k : Int) * S) S (-1), _) (by omega) ⟨hkk, Or.inr ⟨by omega, hcb.1, hcb.2, fun i hi => ?_, k, by omega, rfl⟩⟩
              by_cases e : i = k
              · subst e; exact Int.le_refl _
              · rcases hr with ⟨h1, h2⟩ | ⟨h1, h2, h3, h4, h5⟩
                · omega
                · have := h4 i (by omega)
                  dsimp only
                  omega
    · have bS := bz_f qS
      refine g_aload_0 (pc := 0) C dX2_inTheWay_0 ?_
      refine g_aload_0 (pc := 1) C dX2_inTheWay_1 ?_
      refine g_iload_1 (pc := 2) C dX2_inTheWay_2 ?_
      refine g_cM1Pv (pc := 3) C cs_X2_70 (k_X2_isSpan h13 hV a ha) ⟨Nat.le_of_ble_eq_true rfl, Nat.le_of_ble_eq_true rfl⟩ (by omega) (Nat.le_of_ble_eq_true rfl) ⟨Nat.le_of_ble_eq_true rfl, Nat.le_of_ble_eq_true rfl⟩ dX2_inTheWay_3 ?_
      refine g_if_ne (pc := 6) (tgt := 13) C dX2_inTheWay_6 (by decide) (by omega) (fun _ => ?_) (fun h6 => absurd h6 (by omega))
      refine g_iload_2 (pc := 13) C dX2_inTheWay_13 ?_
      refine g_cT1Pv (pc := 14) C cs_X2_64 (k_X2_isSize S hS) ⟨Nat.le_of_ble_eq_true rfl, Nat.le_of_ble_eq_true rfl⟩ (Nat.le_of_ble_eq_true rfl) ⟨Nat.le_of_ble_eq_true rfl, Nat.le_of_ble_eq_true rfl⟩ dX2_inTheWay_14 ?_
      refine g_if_eq (pc := 17) (tgt := 24) C dX2_inTheWay_17 (by decide) (by omega) (fun _ => ?_) (fun h17 => absurd h17 (by omega))
      refine g_iconst (pc := 24) C dX2_inTheWay_24 ?_
      refine g_cM1Pv (pc := 25) C cs_X2_81 (k_X2_goesWell h13 2 (by omega)) ⟨Nat.le_of_ble_eq_true rfl, Nat.le_of_ble_eq_true rfl⟩ (by omega) (Nat.le_of_ble_eq_true rfl) ⟨Nat.le_of_ble_eq_true rfl, Nat.le_of_ble_eq_true rfl⟩ dX2_inTheWay_25 ?_
      refine g_if_ne (pc := 28) (tgt := 33) C dX2_inTheWay_28 (by decide) (by omega) (fun h28 => absurd h28 (by omega)) (fun _ => ?_)
      refine g_iconst (pc := 31) C dX2_inTheWay_31 ?_
      refine g_iret (pc := 32) C (Nat.le_of_ble_eq_true rfl) (Nat.le_of_ble_eq_true rfl) dX2_inTheWay_32 ?_
      exact ⟨0, _, rfl, Or.inr ⟨fun h => qS h.2, rfl, by rw [if_pos hM]⟩, rfl⟩
  · have bM := bz_f hM
    refine g_aload_0 (pc := 0) C dX2_inTheWay_0 ?_
    refine g_aload_0 (pc := 1) C dX2_inTheWay_1 ?_
    refine g_iload_1 (pc := 2) C dX2_inTheWay_2 ?_
    refine g_cM1Pv (pc := 3) C cs_X2_70 (k_X2_isSpan h13 hV a ha) ⟨Nat.le_of_ble_eq_true rfl, Nat.le_of_ble_eq_true rfl⟩ (by omega) (Nat.le_of_ble_eq_true rfl) ⟨Nat.le_of_ble_eq_true rfl, Nat.le_of_ble_eq_true rfl⟩ dX2_inTheWay_3 ?_
    refine g_if_ne (pc := 6) (tgt := 13) C dX2_inTheWay_6 (by decide) (by omega) (fun h6 => absurd h6 (by omega)) (fun _ => ?_)
    refine g_iconst (pc := 9) C dX2_inTheWay_9 ?_
    refine g_goto (pc := 10) (tgt := 25) C dX2_inTheWay_10 (by decide) ?_
    refine g_cM1Pv (pc := 25) C cs_X2_81 (k_X2_goesWell h13 1 (by omega)) ⟨Nat.le_of_ble_eq_true rfl, Nat.le_of_ble_eq_true rfl⟩ (by omega) (Nat.le_of_ble_eq_true rfl) ⟨Nat.le_of_ble_eq_true rfl, Nat.le_of_ble_eq_true rfl⟩ dX2_inTheWay_25 ?_
    refine g_if_ne (pc := 28) (tgt := 33) C dX2_inTheWay_28 (by decide) (by omega) (fun h28 => absurd h28 (by omega)) (fun _ => ?_)
    refine g_iconst (pc := 31) C dX2_inTheWay_31 ?_
    refine g_iret (pc := 32) C (Nat.le_of_ble_eq_true rfl) (Nat.le_of_ble_eq_true rfl) dX2_inTheWay_32 ?_
    exact ⟨0, _, rfl, Or.inr ⟨fun h => hM h.1, rfl, by rw [if_neg hM]⟩, rfl⟩
theorem hf2_b {z : Int} (hz : 0 ≤ z ∧ z ≤ 4096) (i : Nat) : 0 ≤ hf2 z i ∧ hf2 z i ≤ z ∧ (hf2 z i ≠ 0 → i ≤ 12) := by
  have h1 : ∀ i, 0 ≤ hf2 z i ∧ hf2 z i ≤ z ∧ hf2 z i * 2 ^ i ≤ z := by
    intro i
    induction i with
    | zero => exact ⟨hz.1, Int.le_refl _, by show z * 1 ≤ z; omega⟩
    | succ i ih =>
      have e1 : hf2 z (i + 1) = hf2 z i / 2 := rfl
      rw [e1]
      refine ⟨by omega, by omega, ?_⟩
      have h2 : (hf2 z i / 2 * 2) * 2 ^ i ≤ hf2 z i * 2 ^ i := Int.mul_le_mul_of_nonneg_right (by omega) (Int.le_of_lt (Int.pow_pos (by decide)))
      rw [Int.pow_succ, Int.mul_comm (2 ^ i) 2, ← Int.mul_assoc]
      omega
  have h2 := h1 i
  refine ⟨h2.1, h2.2.1, fun h3 => ?_⟩
  by_cases e : i ≤ 12
  · exact e
  · have h4 : (2 : Int) ^ 13 ≤ 2 ^ i := by
      obtain ⟨d, rfl⟩ : ∃ d, i = 13 + d := ⟨i - 13, by omega⟩
      rw [Int.pow_add]
      have h5 : (0 : Int) < 2 ^ d := Int.pow_pos (by decide)
      have h6 := Int.mul_le_mul_of_nonneg_left (a := 1) (b := 2 ^ d) (c := (2 : Int) ^ 13) (by omega) (by decide)
      omega
    have h5 : 1 * (2 : Int) ^ i ≤ hf2 z i * 2 ^ i := Int.mul_le_mul_of_nonneg_right (by omega) (Int.le_of_lt (Int.pow_pos (by decide)))
    have h6 : (2 : Int) ^ 13 = 8192 := by decide
    omega
theorem frM_th (T : MT) (z x B S : Int) : frM (mst T 4 0 z) x B S = frM T x B S := by
  unfold frM liM
  rw [cntM_th, mst_f (by decide), mst_f (by decide)]
theorem k_X2_greatestFree {l : Launch} {cs : CSt} {np : Nat} {ad : Nat → Nat} {T : MT} (h13 : 13 ≤ np) (hV : VM T) (a : Int) (ha : -2147483648 ≤ a ∧ a < 2147483648) : KE l cs yX2_greatestFree (Cond.code yX2_greatestFree cX2_greatestFree 4 (some .int) :: GW) 2 0 0 [.ref (ad 4), .int (zI a)] np ad T (fun r U => (isM T a ∧ gfP T a r ∧ 0 ≤ r ∧ r ≤ 4096 ∧ U = mst T 4 0 0) ∨ (¬ isM T a ∧ r = 0 ∧ U = mst T 4 0 1)) := by
  have hV0 := hV.1
  have b10 : bz ((1 : Int) = 0) = 0 := bz_f (by decide)
  have b20 : bz ((2 : Int) = 0) = 0 := bz_f (by decide)
  have b30 : bz ((3 : Int) = 0) = 0 := bz_f (by decide)
  have b00 : bz ((0 : Int) = 0) = 1 := bz_t (by decide)
  refine KC_of (cc := cX2_greatestFree) (nL := 4) (rt := (some .int)) (by decide) (by simp [grf_cat, cat_int, cat_ref]) (by simp) ?_
  intro p e s m args below meth c A C hE hin
  refine g_eq (lv2 := [some (.ref (ad 4)), some (.int (zI a)), none, none]) rfl rfl rfl ?_
  by_cases hM : isM T a
  · have bM := bz_t hM
    have hs := hV.s (x := a) (by omega)
    have e65 : mst T 4 0 0 6 = T 6 := mst_f (by decide)
    have e55 : mst T 4 0 0 5 = T 5 := mst_f (by decide)
    have ef : ∀ B S, bz (frM (mst T 4 0 0) a B S) = bz (frM T a B S) := fun B S => by
      have := frM_th T 0 a B S
      by_cases h : frM T a B S
      · rw [bz_t h, bz_t (this ▸ h)]
      · rw [bz_f h, bz_f (this ▸ h)]
    have hVU := hV.th 0
    refine g_aload_0 (pc := 0) C dX2_greatestFree_0 ?_
    refine g_aload_0 (pc := 1) C dX2_greatestFree_1 ?_
    refine g_iload_1 (pc := 2) C dX2_greatestFree_2 ?_
    refine g_cM1Pv (pc := 3) C cs_X2_70 (k_X2_isSpan h13 hV a ha) ⟨Nat.le_of_ble_eq_true rfl, Nat.le_of_ble_eq_true rfl⟩ (by omega) (Nat.le_of_ble_eq_true rfl) ⟨Nat.le_of_ble_eq_true rfl, Nat.le_of_ble_eq_true rfl⟩ dX2_greatestFree_3 ?_
    refine g_if_eq (pc := 6) (tgt := 13) C dX2_greatestFree_6 (by decide) (by omega) (fun h6 => absurd h6 (by omega)) (fun _ => ?_)
    refine g_iconst (pc := 9) C dX2_greatestFree_9 ?_
    refine g_goto (pc := 10) (tgt := 14) C dX2_greatestFree_10 (by decide) ?_
    refine g_cM1Pv (pc := 14) C cs_X2_81 (k_X2_goesWell h13 0 (by omega)) ⟨Nat.le_of_ble_eq_true rfl, Nat.le_of_ble_eq_true rfl⟩ (by omega) (Nat.le_of_ble_eq_true rfl) ⟨Nat.le_of_ble_eq_true rfl, Nat.le_of_ble_eq_true rfl⟩ dX2_greatestFree_14 ?_
    refine g_if_ne (pc := 17) (tgt := 22) C dX2_greatestFree_17 (by decide) (by omega) (fun _ => ?_) (fun h17 => absurd h17 (by omega))
    obtain ⟨U, hUU⟩ : ∃ U, U = mst T 4 0 0 := ⟨_, rfl⟩
    rw [← hUU] at e65 e55 ef hVU ⊢
    refine g_aload_0 (pc := 22) C dX2_greatestFree_22 ?_
    refine g_get_X2_13 (pc := 23) C (by omega) dX2_greatestFree_23 ?_
    refine g_iload_1 (pc := 26) C dX2_greatestFree_26 ?_
    first | refine g_aldn_6 (pc := 27) C (by omega) (by omega) dX2_greatestFree_27 ?_ | refine g_ald_6 (pc := 27) C (by omega) (by omega) dX2_greatestFree_27 ?_
    rw [e65]
    obtain ⟨z, hz⟩ : ∃ z, z = T 6 a.toNat := ⟨_, rfl⟩
    rw [← hz] at hs ⊢
    refine g_iconst (pc := 28) C dX2_greatestFree_28 ?_
    refine g_idiv (pc := 29) C dX2_greatestFree_29 (by omega) (by omega) ?_
    refine g_istore_2 (pc := 30) C dX2_greatestFree_30 ?_
    refine g_eq (lv2 := [some (.ref (ad 4)), some (.int (zI a)), some (.int (zI (hf2 z (0 + 1)))), none]) rfl rfl rfl ?_
    refine g_loop (σ := Option Value) (Tf := fun _ _ => U) (lvf := fun i w => [some (.ref (ad 4)), some (.int (zI a)), some (.int (zI (hf2 z (i + 1)))), w]) (inv := fun i _ => ∀ i' k' : Nat, i' < i → 0 < hf2 z (i' + 1) → (k' : Int) * hf2 z (i' + 1) < z → ¬ frM T a (T 5 a.toNat + k' * hf2 z (i' + 1)) (hf2 z (i' + 1))) (N := 12) 0 none (fun i' k' h => absurd h (by omega)) (by omega) (fun i w hi hN ih => ?_)
    have hb := hf2_b (z := z) (by omega) (i + 1)
    have hb2 := hf2_b (z := z) (by omega) (i + 1 + 1)
    have e7 : hf2 z (i + 1 + 1) = hf2 z (i + 1) / 2 := rfl
    refine g_iload_2 (pc := 31) C dX2_greatestFree_31 ?_
    refine g_if_le (pc := 32) (tgt := 85) C dX2_greatestFree_32 (by decide) (by omega) (fun h32 => ?_) (fun h32 => ?_)
    · refine g_iconst (pc := 85) C dX2_greatestFree_85 ?_
      refine g_iret (pc := 86) C (Nat.le_of_ble_eq_true rfl) (Nat.le_of_ble_eq_true rfl) dX2_greatestFree_86 ?_
      refine ⟨0, _, rfl, Or.inl ⟨hM, Or.inl ⟨rfl, fun i' k' h1 h2 => ?_⟩, Int.le_refl _, by decide, rfl⟩, rfl⟩
      rw [← hz] at h1 h2 ⊢
      refine hi i' k' ?_ h1 h2
      by_cases e : i' < i
      · exact e
      · exfalso
        have h9 : ∀ d, hf2 z (i + 1 + d) = 0 := by
          intro d
          induction d with
          | zero => show hf2 z (i + 1) = 0; omega
          | succ d ihd => show hf2 z (i + 1 + d) / 2 = 0; rw [ihd]; rfl
        have := h9 (i' - i)
        rw [show i + 1 + (i' - i) = i' + 1 by omega] at this
        omega
    · generalize hB : hf2 z (i + 1) = B at *
      refine g_aload_0 (pc := 35) C dX2_greatestFree_35 ?_
      refine g_get_X2_7 (pc := 36) C (by omega) dX2_greatestFree_36 ?_
      refine g_iload_1 (pc := 39) C dX2_greatestFree_39 ?_
      first | refine g_aldn_5 (pc := 40) C (by omega) (by omega) dX2_greatestFree_40 ?_ | refine g_ald_5 (pc := 40) C (by omega) (by omega) dX2_greatestFree_40 ?_
      rw [e55]
      refine g_istore_3 (pc := 41) C dX2_greatestFree_41 ?_
      refine g_eq (lv2 := [some (.ref (ad 4)), some (.int (zI a)), some (.int (zI B)), some (.int (zI (T 5 a.toNat + (0 : Nat) * B)))]) rfl (by simp) rfl ?_
      refine g_loop (σ := Unit) (Tf := fun _ _ => U) (lvf := fun k _ => [some (.ref (ad 4)), some (.int (zI a)), some (.int (zI B)), some (.int (zI (T 5 a.toNat + (k : Int) * B)))]) (inv := fun k _ => (k : Int) * B ≤ 8192 ∧ ∀ k' : Nat, k' < k → (k' : Int) * B < z → ¬ frM T a (T 5 a.toNat + k' * B) B) (N := 8192) 0 () ⟨by simp, fun k' h => absurd h (by omega)⟩ (by omega) (fun k _ hk hK ihk => ?_)
      obtain ⟨hk, hr⟩ := hk
      have hk3 : (k : Int) ≤ (k : Int) * B := by
        have := Int.mul_le_mul_of_nonneg_left (a := 1) (b := B) (c := (k : Int)) (by omega) (by omega)
        omega
      have e8 : T 5 a.toNat + (k : Int) * B + B = T 5 a.toNat + ((k + 1 : Nat) : Int) * B := by
        rw [Int.natCast_add, Int.add_mul, Int.natCast_one, Int.one_mul, Int.add_assoc]
      refine g_iload_3 (pc := 42) C dX2_greatestFree_42 ?_
      refine g_aload_0 (pc := 43) C dX2_greatestFree_43 ?_
      refine g_get_X2_7 (pc := 44) C (by omega) dX2_greatestFree_44 ?_
      refine g_iload_1 (pc := 47) C dX2_greatestFree_47 ?_
      first | refine g_aldn_5 (pc := 48) C (by omega) (by omega) dX2_greatestFree_48 ?_ | refine g_ald_5 (pc := 48) C (by omega) (by omega) dX2_greatestFree_48 ?_
      rw [e55]
      refine g_aload_0 (pc := 49) C dX2_greatestFree_49 ?_
      refine g_get_X2_13 (pc := 50) C (by omega) dX2_greatestFree_50 ?_
      refine g_iload_1 (pc := 53) C dX2_greatestFree_53 ?_
      first | refine g_aldn_6 (pc := 54) C (by omega) (by omega) dX2_greatestFree_54 ?_ | refine g_ald_6 (pc := 54) C (by omega) (by omega) dX2_greatestFree_54 ?_
      rw [e65, ← hz]
      refine g_iadd (pc := 55) C dX2_greatestFree_55 ?_
      refine g_icmp_ge (pc := 56) (tgt := 78) C dX2_greatestFree_56 (by decide) (by omega) (by omega) (fun h56 => ?_) (fun h56 => ?_)
      · refine g_iload_2 (pc := 78) C dX2_greatestFree_78 ?_
        refine g_iconst (pc := 79) C dX2_greatestFree_79 ?_
        refine g_idiv (pc := 80) C dX2_greatestFree_80 (by omega) (by omega) ?_
        refine g_eq (lv2 := [some (.ref (ad 4)), some (.int (zI a)), some (.int (zI B)), some (.int (zI (T 5 a.toNat + (k : Int) * B)))]) (st2 := [.int (zI (hf2 z (i + 1 + 1)))]) rfl rfl (by rw [e7]) ?_
        refine g_istore_2 (pc := 81) C dX2_greatestFree_81 ?_
        refine g_goto (pc := 82) (tgt := 31) C dX2_greatestFree_82 (by decide) ?_
        refine ih _ (by omega) (fun i' k' h1 h2 h3 => ?_)
        by_cases e : i' < i
        · exact hi i' k' e h2 h3
        · obtain rfl : i' = i := by omega
          rw [hB] at h2 h3 ⊢
          refine hr k' ?_ h3
          by_cases e2 : k' < k
          · exact e2
          · have h9 : (k : Int) * B ≤ (k' : Int) * B := Int.mul_le_mul_of_nonneg_right (by omega) (by omega)
            omega
      · have hkk : ((k + 1 : Nat) : Int) * B ≤ 8192 := by
          rw [Int.natCast_add, Int.add_mul, Int.natCast_one, Int.one_mul]; omega
        refine g_aload_0 (pc := 59) C dX2_greatestFree_59 ?_
        refine g_iload_1 (pc := 60) C dX2_greatestFree_60 ?_
        refine g_iload_3 (pc := 61) C dX2_greatestFree_61 ?_
        refine g_iload_2 (pc := 62) C dX2_greatestFree_62 ?_
        refine g_cM3Pv (pc := 63) C cs_X2_50 (k_X2_isFree h13 hVU a (T 5 a.toNat + (k : Int) * B) B (by omega) (by omega)) ⟨Nat.le_of_ble_eq_true rfl, Nat.le_of_ble_eq_true rfl⟩ (by omega) (Nat.le_of_ble_eq_true rfl) ⟨Nat.le_of_ble_eq_true rfl, Nat.le_of_ble_eq_true rfl⟩ dX2_greatestFree_63 ?_
        rw [ef]
        refine g_if_eq (pc := 66) (tgt := 71) C dX2_greatestFree_66 (by decide) (bz_rg _) (fun h66 => ?_) (fun h66 => ?_)
        · refine g_iload_3 (pc := 71) C dX2_greatestFree_71 ?_
          refine g_iload_2 (pc := 72) C dX2_greatestFree_72 ?_
          refine g_iadd (pc := 73) C dX2_greatestFree_73 ?_
          refine g_istore_3 (pc := 74) C dX2_greatestFree_74 ?_
          refine g_goto (pc := 75) (tgt := 42) C dX2_greatestFree_75 (by decide) ?_
          rw [e8]
          refine ihk () (by omega) ⟨hkk, fun k' h1 h2 => ?_⟩
          by_cases e : k' = k
          · subst e; exact bz_0 h66
          · exact hr k' (by omega) h2
        · refine g_iload_2 (pc := 69) C dX2_greatestFree_69 ?_
          refine g_iret (pc := 70) C (Nat.le_of_ble_eq_true rfl) (Nat.le_of_ble_eq_true rfl) dX2_greatestFree_70 ?_
          refine ⟨B, _, rfl, Or.inl ⟨hM, Or.inr ⟨i, k, by omega, by rw [← hz, hB], by rw [← hz]; omega, bz_1 h66, fun i' k' h1 h2 h3 => ?_⟩, by omega, by omega, rfl⟩, rfl⟩
          rw [← hz] at h2 h3 ⊢
          exact hi i' k' h1 h2 h3
  · have bM := bz_f hM
    refine g_aload_0 (pc := 0) C dX2_greatestFree_0 ?_
    refine g_aload_0 (pc := 1) C dX2_greatestFree_1 ?_
    refine g_iload_1 (pc := 2) C dX2_greatestFree_2 ?_
    refine g_cM1Pv (pc := 3) C cs_X2_70 (k_X2_isSpan h13 hV a ha) ⟨Nat.le_of_ble_eq_true rfl, Nat.le_of_ble_eq_true rfl⟩ (by omega) (Nat.le_of_ble_eq_true rfl) ⟨Nat.le_of_ble_eq_true rfl, Nat.le_of_ble_eq_true rfl⟩ dX2_greatestFree_3 ?_
    refine g_if_eq (pc := 6) (tgt := 13) C dX2_greatestFree_6 (by decide) (by omega) (fun _ => ?_) (fun h6 => absurd h6 (by omega))
    refine g_iconst (pc := 13) C dX2_greatestFree_13 ?_
    refine g_cM1Pv (pc := 14) C cs_X2_81 (k_X2_goesWell h13 1 (by omega)) ⟨Nat.le_of_ble_eq_true rfl, Nat.le_of_ble_eq_true rfl⟩ (by omega) (Nat.le_of_ble_eq_true rfl) ⟨Nat.le_of_ble_eq_true rfl, Nat.le_of_ble_eq_true rfl⟩ dX2_greatestFree_14 ?_
    refine g_if_ne (pc := 17) (tgt := 22) C dX2_greatestFree_17 (by decide) (by omega) (fun h17 => absurd h17 (by omega)) (fun _ => ?_)
    refine g_iconst (pc := 20) C dX2_greatestFree_20 ?_
    refine g_iret (pc := 21) C (Nat.le_of_ble_eq_true rfl) (Nat.le_of_ble_eq_true rfl) dX2_greatestFree_21 ?_
    exact ⟨0, _, rfl, Or.inr ⟨hM, rfl, rfl⟩, rfl⟩
