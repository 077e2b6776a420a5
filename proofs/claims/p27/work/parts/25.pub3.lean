theorem k_X1_remove {l : Launch} {cs : CSt} {np : Nat} {ad : Nat → Nat} {T : MT} (hV : VC np T) (hA : VA T) (a : Int) (ha : -2147483648 ≤ a ∧ a < 2147483648) : KD l cs yX1_remove (Cond.code yX1_remove cX1_remove 3 (some .int) :: GW) 7 8 48 [.ref (ad 0), .int (zI a)] np ad T (if fsp T a < 0 then 1 else if 0 ≤ T 14 a.toNat ∧ cntC T a (T 15 a.toNat) (T 16 a.toNat) 60 ≤ 0 ∧ lnt (T 2) (T 15 a.toNat).toNat (T 16 a.toNat).toNat ≤ 0 then 0 else 3) (some (.int (zI (T 16 a.toNat)))) (np, ad, mst (mst T 1 a.toNat 0) 0 7 0) := by
  have hV0 := hV.1
  refine KC_of (cc := cX1_remove) (nL := 3) (rt := (some .int)) (by decide) (by simp [grf_cat, cat_int, cat_ref]) (by simp) ?_
  intro p e s m args below meth c A C hE hin
  refine g_eq (lv2 := [some (.ref (ad 0)), some (.int (zI a)), none]) rfl rfl rfl ?_
  refine g_aload_0 (pc := 0) C dX1_remove_0 ?_
  refine g_iload_1 (pc := 1) C dX1_remove_1 ?_
  refine g_cY1Dv (pc := 2) C hE cs_X1_43 (k_X1_spanOf a (by omega) ha) ⟨Nat.le_of_ble_eq_true rfl, Nat.le_of_ble_eq_true rfl⟩ (by omega) (Nat.le_of_ble_eq_true rfl) ⟨Nat.le_of_ble_eq_true rfl, Nat.le_of_ble_eq_true rfl⟩ ⟨Nat.le_of_ble_eq_true rfl, Nat.le_of_ble_eq_true rfl⟩ (fun hx2 => ?_) dX1_remove_2 (fun hn2 => ?_)
  · have h2 := exq_ne hx2
    exact dEx_of (c := 1) (by rw [if_pos (by omega)]) (by decide) (by rw [exq_f h2])
  · have h2 := exq_eq hn2 (by decide)
    rcases fsp_or T a with ⟨q1, q2⟩ | ⟨q1, q2⟩
    · omega
    have hV1 := hV.s q2
    rw [q1]
    have hcb := cntC_bd T a (T 15 a.toNat) (T 16 a.toNat) 60
    have hlb := lnt_bd (T 2) (T 15 a.toNat).toNat (T 16 a.toNat).toNat
    have e1 : T 15 a.toNat + T 16 a.toNat - T 15 a.toNat = T 16 a.toNat := by omega
    refine g_sstore_2 (pc := 5) C dX1_remove_5 ?_
    refine g_sload_2 (pc := 6) C dX1_remove_6 ?_
    first | refine g_getn_X1_94 (pc := 7) C (by omega) dX1_remove_7 ?_ | refine g_get_X1_94 (pc := 7) C (by omega) dX1_remove_7 ?_
    refine g_ifnull (pc := 10) (tgt := 36) C dX1_remove_10 (by decide) (fun h10 => ?_) (fun h10 => ?_)
    · refine g_throw_3 (pc := 36) C hE (text := "the span cannot be removed") (by decide) dX1_remove_36 dX1_remove_39 dX1_remove_40 dX1_remove_42 dX1_remove_45 ⟨Nat.le_of_ble_eq_true rfl, Nat.le_of_ble_eq_true rfl, Nat.le_of_ble_eq_true rfl, Nat.le_of_ble_eq_true rfl⟩ ⟨Nat.le_of_ble_eq_true rfl, Nat.le_of_ble_eq_true rfl⟩ ?_
      exact dEx_of (c := 3) (by rw [if_neg (by omega), if_neg (by omega)]) (by decide) rfl
    · refine g_aload_0 (pc := 13) C dX1_remove_13 ?_
      refine g_sload_2 (pc := 14) C dX1_remove_14 ?_
      refine g_cY1Pv (pc := 15) C cs_X1_97 (k_X1_hasChildren hV a q2) ⟨Nat.le_of_ble_eq_true rfl, Nat.le_of_ble_eq_true rfl⟩ (by omega) (Nat.le_of_ble_eq_true rfl) ⟨Nat.le_of_ble_eq_true rfl, Nat.le_of_ble_eq_true rfl⟩ dX1_remove_15 ?_
      refine g_if_ne (pc := 18) (tgt := 36) C dX1_remove_18 (by decide) (by split <;> omega) (fun h18 => ?_) (fun h18 => ?_)
      · refine g_throw_3 (pc := 36) C hE (text := "the span cannot be removed") (by decide) dX1_remove_36 dX1_remove_39 dX1_remove_40 dX1_remove_42 dX1_remove_45 ⟨Nat.le_of_ble_eq_true rfl, Nat.le_of_ble_eq_true rfl, Nat.le_of_ble_eq_true rfl, Nat.le_of_ble_eq_true rfl⟩ ⟨Nat.le_of_ble_eq_true rfl, Nat.le_of_ble_eq_true rfl⟩ ?_
        have h19 : cntC T a (T 15 a.toNat) (T 16 a.toNat) 60 > 0 := by split at h18 <;> omega
        exact dEx_of (c := 3) (by rw [if_neg (by omega), if_neg (by omega)]) (by decide) rfl
      · have h19 : ¬ cntC T a (T 15 a.toNat) (T 16 a.toNat) 60 > 0 := by split at h18 <;> omega
        refine g_aload_0 (pc := 21) C dX1_remove_21 ?_
        refine g_sload_2 (pc := 22) C dX1_remove_22 ?_
        first | refine g_getn_X1_101 (pc := 23) C (by omega) dX1_remove_23 ?_ | refine g_get_X1_101 (pc := 23) C (by omega) dX1_remove_23 ?_
        refine g_sload_2 (pc := 26) C dX1_remove_26 ?_
        refine g_cS0Pv (pc := 27) C cs_X1_104 (k_X0_end a (by omega)) ⟨Nat.le_of_ble_eq_true rfl, Nat.le_of_ble_eq_true rfl⟩ (by omega) (Nat.le_of_ble_eq_true rfl) ⟨Nat.le_of_ble_eq_true rfl, Nat.le_of_ble_eq_true rfl⟩ dX1_remove_27 ?_
        refine g_cY2Pv (pc := 30) C cs_X1_108 (k_X1_countLent (by omega) hA _ _ (by omega)) ⟨Nat.le_of_ble_eq_true rfl, Nat.le_of_ble_eq_true rfl⟩ (by omega) (Nat.le_of_ble_eq_true rfl) ⟨Nat.le_of_ble_eq_true rfl, Nat.le_of_ble_eq_true rfl⟩ dX1_remove_30 ?_
        rw [e1]
        refine g_if_le (pc := 33) (tgt := 46) C dX1_remove_33 (by decide) (by omega) (fun h33 => ?_) (fun h33 => ?_)
        · refine g_aload_0 (pc := 46) C dX1_remove_46 ?_
          refine g_get_X1_18 (pc := 47) C (by omega) dX1_remove_47 ?_
          refine g_iload_1 (pc := 50) C dX1_remove_50 ?_
          refine g_snull (pc := 51) C dX1_remove_51 ?_
          refine g_aastS (pc := 52) C (by omega) (by omega) dX1_remove_52 ?_
          refine g_aload_0 (pc := 53) C dX1_remove_53 ?_
          refine g_iconst (pc := 54) C dX1_remove_54 ?_
          refine g_put_X1_39 (pc := 55) C (by omega) (by omega) dX1_remove_55 ?_
          refine g_sload_2 (pc := 58) C dX1_remove_58 ?_
          first | refine g_getn_X1_114 (pc := 59) C (by omega) dX1_remove_59 ?_ | refine g_get_X1_114 (pc := 59) C (by omega) dX1_remove_59 ?_
          rw [mst_r (by decide), mst_r (by decide)]
          refine g_iret (pc := 62) C (Nat.le_of_ble_eq_true rfl) (Nat.le_of_ble_eq_true rfl) dX1_remove_62 ?_
          exact ⟨by rw [if_neg (by omega), if_pos (by omega)], rfl, rfl⟩
        · refine g_throw_3 (pc := 36) C hE (text := "the span cannot be removed") (by decide) dX1_remove_36 dX1_remove_39 dX1_remove_40 dX1_remove_42 dX1_remove_45 ⟨Nat.le_of_ble_eq_true rfl, Nat.le_of_ble_eq_true rfl, Nat.le_of_ble_eq_true rfl, Nat.le_of_ble_eq_true rfl⟩ ⟨Nat.le_of_ble_eq_true rfl, Nat.le_of_ble_eq_true rfl⟩ ?_
          exact dEx_of (c := 3) (by rw [if_neg (by omega), if_neg (by omega)]) (by decide) rfl
def grB (T : MT) (a : Int) : Int := T 15 a.toNat - T 15 a.toNat % (2 * T 16 a.toNat)
theorem k_X1_grow {l : Launch} {cs : CSt} {np : Nat} {ad : Nat → Nat} {T : MT} (hV : VC np T) (hT : VT T) (a : Int) (ha : -2147483648 ≤ a ∧ a < 2147483648) (hz : isS T a → 2 * T 16 a.toNat = 2 ∨ 2 * T 16 a.toNat = 4 ∨ 2 * T 16 a.toNat = 8 ∨ 2 * T 16 a.toNat = 16 ∨ 2 * T 16 a.toNat = 32 ∨ 2 * T 16 a.toNat = 64 ∨ 2 * T 16 a.toNat = 128 ∨ 2 * T 16 a.toNat = 256 ∨ 2 * T 16 a.toNat = 512 ∨ 2 * T 16 a.toNat = 1024 ∨ 2 * T 16 a.toNat = 2048 ∨ 2 * T 16 a.toNat = 4096 ∨ 2 * T 16 a.toNat = 8192) : KD l cs yX1_grow (Cond.code yX1_grow cX1_grow 6 (some .int) :: GW) 7 8 48 [.ref (ad 0), .int (zI a)] np ad T (if fsp T a < 0 then 1 else if 0 ≤ T 14 a.toNat ∧ 2 * T 16 a.toNat < T 16 (T 14 a.toNat).toNat ∧ cntC T (T 14 a.toNat) (grB T a) (2 * T 16 a.toNat) 60 ≤ 1 then 0 else 3) (some (.int (zI (grB T a)))) (np, ad, mst (mst (mst T 15 a.toNat (grB T a)) 16 a.toNat (2 * T 16 a.toNat)) 0 7 0) := by
  have hV0 := hV.1
  refine KC_of (cc := cX1_grow) (nL := 6) (rt := (some .int)) (by decide) (by simp [grf_cat, cat_int, cat_ref]) (by simp) ?_
  intro p e s m args below meth c A C hE hin
  refine g_eq (lv2 := [some (.ref (ad 0)), some (.int (zI a)), none, none, none, none]) rfl rfl rfl ?_
  refine g_aload_0 (pc := 0) C dX1_grow_0 ?_
  refine g_iload_1 (pc := 1) C dX1_grow_1 ?_
  refine g_cY1Dv (pc := 2) C hE cs_X1_43 (k_X1_spanOf a (by omega) ha) ⟨Nat.le_of_ble_eq_true rfl, Nat.le_of_ble_eq_true rfl⟩ (by omega) (Nat.le_of_ble_eq_true rfl) ⟨Nat.le_of_ble_eq_true rfl, Nat.le_of_ble_eq_true rfl⟩ ⟨Nat.le_of_ble_eq_true rfl, Nat.le_of_ble_eq_true rfl⟩ (fun hx2 => ?_) dX1_grow_2 (fun hn2 => ?_)
  · have h2 := exq_ne hx2
    exact dEx_of (c := 1) (by rw [if_pos (by omega)]) (by decide) (by rw [exq_f h2])
  · have h2 := exq_eq hn2 (by decide)
    rcases fsp_or T a with ⟨q1, q2⟩ | ⟨q1, q2⟩
    · omega
    have hV1 := hV.s q2
    rw [q1]
    refine g_sstore_2 (pc := 5) C dX1_grow_5 ?_
    refine g_sload_2 (pc := 6) C dX1_grow_6 ?_
    first | refine g_getn_X1_94 (pc := 7) C (by omega) dX1_grow_7 ?_ | refine g_get_X1_94 (pc := 7) C (by omega) dX1_grow_7 ?_
    refine g_sstore_3 (pc := 10) C dX1_grow_10 ?_
    refine g_iconst (pc := 11) C dX1_grow_11 ?_
    refine g_sload_2 (pc := 12) C dX1_grow_12 ?_
    first | refine g_getn_X1_114 (pc := 13) C (by omega) dX1_grow_13 ?_ | refine g_get_X1_114 (pc := 13) C (by omega) dX1_grow_13 ?_
    refine g_imul (pc := 16) C dX1_grow_16 ?_
    refine g_istore_4 (pc := 17) C dX1_grow_17 ?_
    refine g_sload_3 (pc := 19) C dX1_grow_19 ?_
    refine g_ifnull (pc := 20) (tgt := 32) C dX1_grow_20 (by decide) (fun h20 => ?_) (fun h20 => ?_)
    · refine g_throw_3 (pc := 32) C hE (text := "the span cannot be doubled in its parent") (by decide) dX1_grow_32 dX1_grow_35 dX1_grow_36 dX1_grow_38 dX1_grow_41 ⟨Nat.le_of_ble_eq_true rfl, Nat.le_of_ble_eq_true rfl, Nat.le_of_ble_eq_true rfl, Nat.le_of_ble_eq_true rfl⟩ ⟨Nat.le_of_ble_eq_true rfl, Nat.le_of_ble_eq_true rfl⟩ ?_
      exact dEx_of (c := 3) (by rw [if_neg (by omega), if_neg (by omega)]) (by decide) rfl
    · have hp := hV.s (x := T 14 a.toNat) ⟨h20, by omega, hT a.toNat (by omega) q2.2.2 h20⟩
      have hcb := cntC_bd T (T 14 a.toNat) (grB T a) (2 * T 16 a.toNat) 60
      have hm1 := Int.emod_nonneg (T 15 a.toNat) (b := 2 * T 16 a.toNat) (by omega)
      have hm2 : T 15 a.toNat % (2 * T 16 a.toNat) ≤ T 15 a.toNat := by
        have h8 := Int.ediv_nonneg (a := T 15 a.toNat) (b := 2 * T 16 a.toNat) (by omega) (by omega)
        have h9 := Int.mul_ediv_add_emod (T 15 a.toNat) (2 * T 16 a.toNat)
        have h10 : 0 ≤ 2 * T 16 a.toNat * (T 15 a.toNat / (2 * T 16 a.toNat)) := Int.mul_nonneg (by omega) h8
        omega
      have hgb : 0 ≤ grB T a ∧ grB T a ≤ 4096 := by unfold grB; omega
      refine g_iload_4 (pc := 23) C dX1_grow_23 ?_
      refine g_sload_3 (pc := 25) C dX1_grow_25 ?_
      first | refine g_getn_X1_114 (pc := 26) C (by omega) dX1_grow_26 ?_ | refine g_get_X1_114 (pc := 26) C (by omega) dX1_grow_26 ?_
      refine g_icmp_lt (pc := 29) (tgt := 42) C dX1_grow_29 (by decide) (by omega) (by omega) (fun h29 => ?_) (fun h29 => ?_)
      · refine g_sload_2 (pc := 42) C dX1_grow_42 ?_
        first | refine g_getn_X1_101 (pc := 43) C (by omega) dX1_grow_43 ?_ | refine g_get_X1_101 (pc := 43) C (by omega) dX1_grow_43 ?_
        refine g_iload_4 (pc := 46) C dX1_grow_46 ?_
        refine g_ineg (pc := 48) C dX1_grow_48 ?_
        refine g_iandz (pc := 49) C dX1_grow_49 (and_neg (by omega) (hz q2)) ?_
        refine g_istore_5 (pc := 50) C dX1_grow_50 ?_
        refine g_aload_0 (pc := 52) C dX1_grow_52 ?_
        refine g_sload_3 (pc := 53) C dX1_grow_53 ?_
        refine g_iload_5 (pc := 54) C dX1_grow_54 ?_
        refine g_iload_4 (pc := 56) C dX1_grow_56 ?_
        refine g_cY3Pv (pc := 58) C cs_X1_88 (k_X1_countChildren hV _ _ _ (by omega) (by unfold grB at hgb; omega)) ⟨Nat.le_of_ble_eq_true rfl, Nat.le_of_ble_eq_true rfl⟩ (by omega) (Nat.le_of_ble_eq_true rfl) ⟨Nat.le_of_ble_eq_true rfl, Nat.le_of_ble_eq_true rfl⟩ dX1_grow_58 ?_
        rw [show T 15 a.toNat - T 15 a.toNat % (2 * T 16 a.toNat) = grB T a from rfl]
        refine g_iconst (pc := 61) C dX1_grow_61 ?_
        refine g_icmp_le (pc := 62) (tgt := 75) C dX1_grow_62 (by decide) (by omega) (by omega) (fun h62 => ?_) (fun h62 => ?_)
        · refine g_sload_2 (pc := 75) C dX1_grow_75 ?_
          refine g_iload_5 (pc := 76) C dX1_grow_76 ?_
          refine g_put_X1_101 (pc := 78) C (by omega) dX1_grow_78 ?_
          refine g_sload_2 (pc := 81) C dX1_grow_81 ?_
          refine g_iload_4 (pc := 82) C dX1_grow_82 ?_
          refine g_put_X1_114 (pc := 84) C (by omega) dX1_grow_84 ?_
          refine g_aload_0 (pc := 87) C dX1_grow_87 ?_
          refine g_iconst (pc := 88) C dX1_grow_88 ?_
          refine g_put_X1_39 (pc := 89) C (by omega) (by omega) dX1_grow_89 ?_
          refine g_iload_5 (pc := 92) C dX1_grow_92 ?_
          refine g_iret (pc := 94) C (Nat.le_of_ble_eq_true rfl) (Nat.le_of_ble_eq_true rfl) dX1_grow_94 ?_
          exact ⟨by rw [if_neg (by omega), if_pos (by omega)], rfl, rfl⟩
        · refine g_throw_3 (pc := 65) C hE (text := "another span is in the way") (by decide) dX1_grow_65 dX1_grow_68 dX1_grow_69 dX1_grow_71 dX1_grow_74 ⟨Nat.le_of_ble_eq_true rfl, Nat.le_of_ble_eq_true rfl, Nat.le_of_ble_eq_true rfl, Nat.le_of_ble_eq_true rfl⟩ ⟨Nat.le_of_ble_eq_true rfl, Nat.le_of_ble_eq_true rfl⟩ ?_
          exact dEx_of (c := 3) (by rw [if_neg (by omega), if_neg (by omega)]) (by decide) rfl
      · refine g_throw_3 (pc := 32) C hE (text := "the span cannot be doubled in its parent") (by decide) dX1_grow_32 dX1_grow_35 dX1_grow_36 dX1_grow_38 dX1_grow_41 ⟨Nat.le_of_ble_eq_true rfl, Nat.le_of_ble_eq_true rfl, Nat.le_of_ble_eq_true rfl, Nat.le_of_ble_eq_true rfl⟩ ⟨Nat.le_of_ble_eq_true rfl, Nat.le_of_ble_eq_true rfl⟩ ?_
        exact dEx_of (c := 3) (by rw [if_neg (by omega), if_neg (by omega)]) (by decide) rfl
theorem k_X1_halve {l : Launch} {cs : CSt} {np : Nat} {ad : Nat → Nat} {T : MT} (hV : VC np T) (hA : VA T) (a : Int) (ha : -2147483648 ≤ a ∧ a < 2147483648) (hz : isS T a → T 16 a.toNat = 1 ∨ T 16 a.toNat % 2 = 0) : KD l cs yX1_halve (Cond.code yX1_halve cX1_halve 5 (some .int) :: GW) 7 8 48 [.ref (ad 0), .int (zI a)] np ad T (if fsp T a < 0 then 1 else if 0 ≤ T 14 a.toNat ∧ T 16 a.toNat / 2 ≠ 0 ∧ cntC T a (T 15 a.toNat + T 16 a.toNat / 2) (T 16 a.toNat / 2) 60 ≤ 0 ∧ lnt (T 2) (T 15 a.toNat + T 16 a.toNat / 2).toNat (T 16 a.toNat / 2).toNat ≤ 0 then 0 else 3) (some (.int (zI (T 16 a.toNat / 2)))) (np, ad, mst (mst T 16 a.toNat (T 16 a.toNat / 2)) 0 7 0) := by
  have hV0 := hV.1
  refine KC_of (cc := cX1_halve) (nL := 5) (rt := (some .int)) (by decide) (by simp [grf_cat, cat_int, cat_ref]) (by simp) ?_
  intro p e s m args below meth c A C hE hin
  refine g_eq (lv2 := [some (.ref (ad 0)), some (.int (zI a)), none, none, none]) rfl rfl rfl ?_
  refine g_aload_0 (pc := 0) C dX1_halve_0 ?_
  refine g_iload_1 (pc := 1) C dX1_halve_1 ?_
  refine g_cY1Dv (pc := 2) C hE cs_X1_43 (k_X1_spanOf a (by omega) ha) ⟨Nat.le_of_ble_eq_true rfl, Nat.le_of_ble_eq_true rfl⟩ (by omega) (Nat.le_of_ble_eq_true rfl) ⟨Nat.le_of_ble_eq_true rfl, Nat.le_of_ble_eq_true rfl⟩ ⟨Nat.le_of_ble_eq_true rfl, Nat.le_of_ble_eq_true rfl⟩ (fun hx2 => ?_) dX1_halve_2 (fun hn2 => ?_)
  · have h2 := exq_ne hx2
    exact dEx_of (c := 1) (by rw [if_pos (by omega)]) (by decide) (by rw [exq_f h2])
  · have h2 := exq_eq hn2 (by decide)
    rcases fsp_or T a with ⟨q1, q2⟩ | ⟨q1, q2⟩
    · omega
    have hV1 := hV.s q2
    rw [q1]
    have hz1 := hz q2
    have hcb := cntC_bd T a (T 15 a.toNat + T 16 a.toNat / 2) (T 16 a.toNat / 2) 60
    have hlb := lnt_bd (T 2) (T 15 a.toNat + T 16 a.toNat / 2).toNat (T 16 a.toNat / 2).toNat
    refine g_sstore_2 (pc := 5) C dX1_halve_5 ?_
    refine g_sload_2 (pc := 6) C dX1_halve_6 ?_
    first | refine g_getn_X1_114 (pc := 7) C (by omega) dX1_halve_7 ?_ | refine g_get_X1_114 (pc := 7) C (by omega) dX1_halve_7 ?_
    refine g_iconst (pc := 10) C dX1_halve_10 ?_
    refine g_idiv (pc := 11) C dX1_halve_11 (by omega) (by omega) ?_
    refine g_istore_3 (pc := 12) C dX1_halve_12 ?_
    refine g_sload_2 (pc := 13) C dX1_halve_13 ?_
    first | refine g_getn_X1_101 (pc := 14) C (by omega) dX1_halve_14 ?_ | refine g_get_X1_101 (pc := 14) C (by omega) dX1_halve_14 ?_
    refine g_iload_3 (pc := 17) C dX1_halve_17 ?_
    refine g_iadd (pc := 18) C dX1_halve_18 ?_
    refine g_istore_4 (pc := 19) C dX1_halve_19 ?_
    refine g_sload_2 (pc := 21) C dX1_halve_21 ?_
    first | refine g_getn_X1_94 (pc := 22) C (by omega) dX1_halve_22 ?_ | refine g_get_X1_94 (pc := 22) C (by omega) dX1_halve_22 ?_
    refine g_ifnull (pc := 25) (tgt := 32) C dX1_halve_25 (by decide) (fun h25 => ?_) (fun h25 => ?_)
    · refine g_throw_3 (pc := 32) C hE (text := "the whole, or a single address") (by decide) dX1_halve_32 dX1_halve_35 dX1_halve_36 dX1_halve_38 dX1_halve_41 ⟨Nat.le_of_ble_eq_true rfl, Nat.le_of_ble_eq_true rfl, Nat.le_of_ble_eq_true rfl, Nat.le_of_ble_eq_true rfl⟩ ⟨Nat.le_of_ble_eq_true rfl, Nat.le_of_ble_eq_true rfl⟩ ?_
      exact dEx_of (c := 3) (by rw [if_neg (by omega), if_neg (by omega)]) (by decide) rfl
    · refine g_iload_3 (pc := 28) C dX1_halve_28 ?_
      refine g_if_ne (pc := 29) (tgt := 42) C dX1_halve_29 (by decide) (by omega) (fun h29 => ?_) (fun h29 => ?_)
      · have e1 : T 15 a.toNat + T 16 a.toNat - (T 15 a.toNat + T 16 a.toNat / 2) = T 16 a.toNat / 2 := by omega
        refine g_aload_0 (pc := 42) C dX1_halve_42 ?_
        refine g_sload_2 (pc := 43) C dX1_halve_43 ?_
        refine g_iload_4 (pc := 44) C dX1_halve_44 ?_
        refine g_iload_3 (pc := 46) C dX1_halve_46 ?_
        refine g_cY3Pv (pc := 47) C cs_X1_88 (k_X1_countChildren hV _ _ _ (by omega) (by omega)) ⟨Nat.le_of_ble_eq_true rfl, Nat.le_of_ble_eq_true rfl⟩ (by omega) (Nat.le_of_ble_eq_true rfl) ⟨Nat.le_of_ble_eq_true rfl, Nat.le_of_ble_eq_true rfl⟩ dX1_halve_47 ?_
        refine g_if_gt (pc := 50) (tgt := 66) C dX1_halve_50 (by decide) (by omega) (fun h50 => ?_) (fun h50 => ?_)
        · refine g_throw_3 (pc := 66) C hE (text := "the second half is in use") (by decide) dX1_halve_66 dX1_halve_69 dX1_halve_70 dX1_halve_72 dX1_halve_75 ⟨Nat.le_of_ble_eq_true rfl, Nat.le_of_ble_eq_true rfl, Nat.le_of_ble_eq_true rfl, Nat.le_of_ble_eq_true rfl⟩ ⟨Nat.le_of_ble_eq_true rfl, Nat.le_of_ble_eq_true rfl⟩ ?_
          exact dEx_of (c := 3) (by rw [if_neg (by omega), if_neg (by omega)]) (by decide) rfl
        · refine g_aload_0 (pc := 53) C dX1_halve_53 ?_
          refine g_iload_4 (pc := 54) C dX1_halve_54 ?_
          refine g_sload_2 (pc := 56) C dX1_halve_56 ?_
          refine g_cS0Pv (pc := 57) C cs_X1_104 (k_X0_end a (by omega)) ⟨Nat.le_of_ble_eq_true rfl, Nat.le_of_ble_eq_true rfl⟩ (by omega) (Nat.le_of_ble_eq_true rfl) ⟨Nat.le_of_ble_eq_true rfl, Nat.le_of_ble_eq_true rfl⟩ dX1_halve_57 ?_
          refine g_cY2Pv (pc := 60) C cs_X1_108 (k_X1_countLent (by omega) hA _ _ (by omega)) ⟨Nat.le_of_ble_eq_true rfl, Nat.le_of_ble_eq_true rfl⟩ (by omega) (Nat.le_of_ble_eq_true rfl) ⟨Nat.le_of_ble_eq_true rfl, Nat.le_of_ble_eq_true rfl⟩ dX1_halve_60 ?_
          rw [e1]
          refine g_if_le (pc := 63) (tgt := 76) C dX1_halve_63 (by decide) (by omega) (fun h63 => ?_) (fun h63 => ?_)
          · refine g_sload_2 (pc := 76) C dX1_halve_76 ?_
            refine g_iload_3 (pc := 77) C dX1_halve_77 ?_
            refine g_put_X1_114 (pc := 78) C (by omega) dX1_halve_78 ?_
            refine g_aload_0 (pc := 81) C dX1_halve_81 ?_
            refine g_iconst (pc := 82) C dX1_halve_82 ?_
            refine g_put_X1_39 (pc := 83) C (by omega) (by omega) dX1_halve_83 ?_
            refine g_iload_3 (pc := 86) C dX1_halve_86 ?_
            refine g_iret (pc := 87) C (Nat.le_of_ble_eq_true rfl) (Nat.le_of_ble_eq_true rfl) dX1_halve_87 ?_
            exact ⟨by rw [if_neg (by omega), if_pos (by omega)], rfl, rfl⟩
          · refine g_throw_3 (pc := 66) C hE (text := "the second half is in use") (by decide) dX1_halve_66 dX1_halve_69 dX1_halve_70 dX1_halve_72 dX1_halve_75 ⟨Nat.le_of_ble_eq_true rfl, Nat.le_of_ble_eq_true rfl, Nat.le_of_ble_eq_true rfl, Nat.le_of_ble_eq_true rfl⟩ ⟨Nat.le_of_ble_eq_true rfl, Nat.le_of_ble_eq_true rfl⟩ ?_
            exact dEx_of (c := 3) (by rw [if_neg (by omega), if_neg (by omega)]) (by decide) rfl
      · refine g_throw_3 (pc := 32) C hE (text := "the whole, or a single address") (by decide) dX1_halve_32 dX1_halve_35 dX1_halve_36 dX1_halve_38 dX1_halve_41 ⟨Nat.le_of_ble_eq_true rfl, Nat.le_of_ble_eq_true rfl, Nat.le_of_ble_eq_true rfl, Nat.le_of_ble_eq_true rfl⟩ ⟨Nat.le_of_ble_eq_true rfl, Nat.le_of_ble_eq_true rfl⟩ ?_
        exact dEx_of (c := 3) (by rw [if_neg (by omega), if_neg (by omega)]) (by decide) rfl
theorem lwf_bd (f : Nat → Int) (s n : Nat) : lwf f s n = -1 ∨ ((s : Int) ≤ lwf f s n ∧ lwf f s n < (s : Int) + n) := by
  induction n with
  | zero => exact Or.inl rfl
  | succ n ih =>
    unfold lwf
    split
    · omega
    · split <;> omega
noncomputable def lwC (T : MT) (x : Int) : Int := hid (lwf (T 2) (T 15 x.toNat).toNat (T 16 x.toNat).toNat)
theorem lwC_eq (T : MT) (x : Int) : lwC T x = lwf (T 2) (T 15 x.toNat).toNat (T 16 x.toNat).toNat := hid_eq _
theorem k_X1_lend {l : Launch} {cs : CSt} {np : Nat} {ad : Nat → Nat} {T : MT} (hV : VC np T) (hA : VA T) (a d : Int) (ha : -2147483648 ≤ a ∧ a < 2147483648) (hd : -2147483648 ≤ d ∧ d < 2147483648) : KD l cs yX1_lend (Cond.code yX1_lend cX1_lend 5 (some .int) :: GW) 7 8 48 [.ref (ad 0), .int (zI a), .int (zI d)] np ad T (if fsp T a < 0 then 1 else if ¬ (0 ≤ d ∧ d ≤ 100) then 2 else if T 0 4 < 200 ∧ ¬ cntC T a (T 15 a.toNat) (T 16 a.toNat) 60 > 0 ∧ 0 ≤ lwC T a then 0 else 3) (some (.int (zI (lwC T a)))) (np, ad, mst (mst T 2 (lwC T a).toNat (if d = 0 then -1 else T 0 5 + d)) 0 4 (T 0 4 + 1)) := by
  have hV0 := hV.1
  have hA0 := hA.1
  refine KC_of (cc := cX1_lend) (nL := 5) (rt := (some .int)) (by decide) (by simp [grf_cat, cat_int, cat_ref]) (by simp) ?_
  intro p e s m args below meth c A C hE hin
  refine g_eq (lv2 := [some (.ref (ad 0)), some (.int (zI a)), some (.int (zI d)), none, none]) rfl rfl rfl ?_
  refine g_aload_0 (pc := 0) C dX1_lend_0 ?_
  refine g_iload_1 (pc := 1) C dX1_lend_1 ?_
  refine g_cY1Dv (pc := 2) C hE cs_X1_43 (k_X1_spanOf a (by omega) ha) ⟨Nat.le_of_ble_eq_true rfl, Nat.le_of_ble_eq_true rfl⟩ (by omega) (Nat.le_of_ble_eq_true rfl) ⟨Nat.le_of_ble_eq_true rfl, Nat.le_of_ble_eq_true rfl⟩ ⟨Nat.le_of_ble_eq_true rfl, Nat.le_of_ble_eq_true rfl⟩ (fun hx2 => ?_) dX1_lend_2 (fun hn2 => ?_)
  · have h2 := exq_ne hx2
    exact dEx_of (c := 1) (by rw [if_pos (by omega)]) (by decide) (by rw [exq_f h2])
  · have h2 := exq_eq hn2 (by decide)
    rcases fsp_or T a with ⟨q1, q2⟩ | ⟨q1, q2⟩
    · omega
    have hV1 := hV.s q2
    rw [q1]
    have hcb := cntC_bd T a (T 15 a.toNat) (T 16 a.toNat) 60
    have hlb : -1 ≤ lwC T a ∧ lwC T a < 4096 := by
      rw [lwC_eq]
      have := lwf_bd (T 2) (T 15 a.toNat).toNat (T 16 a.toNat).toNat
      omega
    refine g_sstore_3 (pc := 5) C dX1_lend_5 ?_
    refine g_iload_2 (pc := 6) C dX1_lend_6 ?_
    refine g_if_lt (pc := 7) (tgt := 16) C dX1_lend_7 (by decide) (by omega) (fun h7 => ?_) (fun h7 => ?_)
    · refine g_throw_2 (pc := 16) C hE (text := "the days are not 0 to 100") (by decide) dX1_lend_16 dX1_lend_19 dX1_lend_20 dX1_lend_22 dX1_lend_25 ⟨Nat.le_of_ble_eq_true rfl, Nat.le_of_ble_eq_true rfl, Nat.le_of_ble_eq_true rfl, Nat.le_of_ble_eq_true rfl⟩ ⟨Nat.le_of_ble_eq_true rfl, Nat.le_of_ble_eq_true rfl⟩ ?_
      exact dEx_of (c := 2) (by rw [if_neg (by omega), if_pos (by omega)]) (by decide) rfl
    · refine g_iload_2 (pc := 10) C dX1_lend_10 ?_
      refine g_bipush (pc := 11) C dX1_lend_11 (by decide) ?_
      refine g_icmp_le (pc := 13) (tgt := 26) C dX1_lend_13 (by decide) (by omega) (by omega) (fun h13 => ?_) (fun h13 => ?_)
      · refine g_aload_0 (pc := 26) C dX1_lend_26 ?_
        refine g_get_X1_30 (pc := 27) C (by omega) dX1_lend_27 ?_
        refine g_sipush (pc := 30) C dX1_lend_30 (by decide) ?_
        refine g_icmp_ge (pc := 33) (tgt := 44) C dX1_lend_33 (by decide) (by omega) (by omega) (fun h33 => ?_) (fun h33 => ?_)
        · refine g_throw_3 (pc := 44) C hE (text := "200 are lent, or there are spans in the span") (by decide) dX1_lend_44 dX1_lend_47 dX1_lend_48 dX1_lend_50 dX1_lend_53 ⟨Nat.le_of_ble_eq_true rfl, Nat.le_of_ble_eq_true rfl, Nat.le_of_ble_eq_true rfl, Nat.le_of_ble_eq_true rfl⟩ ⟨Nat.le_of_ble_eq_true rfl, Nat.le_of_ble_eq_true rfl⟩ ?_
          exact dEx_of (c := 3) (by rw [if_neg (by omega), if_neg (by omega), if_neg (by omega)]) (by decide) rfl
        · refine g_aload_0 (pc := 36) C dX1_lend_36 ?_
          refine g_sload_3 (pc := 37) C dX1_lend_37 ?_
          refine g_cY1Pv (pc := 38) C cs_X1_97 (k_X1_hasChildren hV a q2) ⟨Nat.le_of_ble_eq_true rfl, Nat.le_of_ble_eq_true rfl⟩ (by omega) (Nat.le_of_ble_eq_true rfl) ⟨Nat.le_of_ble_eq_true rfl, Nat.le_of_ble_eq_true rfl⟩ dX1_lend_38 ?_
          refine g_if_eq (pc := 41) (tgt := 54) C dX1_lend_41 (by decide) (by split <;> omega) (fun h41 => ?_) (fun h41 => ?_)
          · have h42 : ¬ cntC T a (T 15 a.toNat) (T 16 a.toNat) 60 > 0 := by split at h41 <;> omega
            refine g_aload_0 (pc := 54) C dX1_lend_54 ?_
            refine g_sload_3 (pc := 55) C dX1_lend_55 ?_
            refine g_cY1Pv (pc := 56) C cs_X1_132 (k_X1_lowestFree hV hA a q2) ⟨Nat.le_of_ble_eq_true rfl, Nat.le_of_ble_eq_true rfl⟩ (by omega) (Nat.le_of_ble_eq_true rfl) ⟨Nat.le_of_ble_eq_true rfl, Nat.le_of_ble_eq_true rfl⟩ dX1_lend_56 ?_
            rw [← lwC_eq]
            refine g_istore_4 (pc := 59) C dX1_lend_59 ?_
            refine g_iload_4 (pc := 61) C dX1_lend_61 ?_
            refine g_cT1Pv (pc := 63) C cs_X1_136 (k_X1_isAddress _ (by omega)) ⟨Nat.le_of_ble_eq_true rfl, Nat.le_of_ble_eq_true rfl⟩ (Nat.le_of_ble_eq_true rfl) ⟨Nat.le_of_ble_eq_true rfl, Nat.le_of_ble_eq_true rfl⟩ dX1_lend_63 ?_
            refine g_if_ne (pc := 66) (tgt := 79) C dX1_lend_66 (by decide) (by split <;> omega) (fun h66 => ?_) (fun h66 => ?_)
            · have h67 : 0 ≤ lwC T a := by split at h66 <;> omega
              refine g_aload_0 (pc := 79) C dX1_lend_79 ?_
              refine g_get_X1_26 (pc := 80) C (by omega) dX1_lend_80 ?_
              refine g_iload_4 (pc := 83) C dX1_lend_83 ?_
              refine g_iload_2 (pc := 85) C dX1_lend_85 ?_
              refine g_if_ne (pc := 86) (tgt := 93) C dX1_lend_86 (by decide) (by omega) (fun h86 => ?_) (fun h86 => ?_)
              · refine g_aload_0 (pc := 93) C dX1_lend_93 ?_
                refine g_get_X1_33 (pc := 94) C (by omega) dX1_lend_94 ?_
                refine g_iload_2 (pc := 97) C dX1_lend_97 ?_
                refine g_iadd (pc := 98) C dX1_lend_98 ?_
                first | refine g_astn_2 (pc := 99) C (by omega) (by omega) dX1_lend_99 ?_ | refine g_ast_2 (pc := 99) C (by omega) (by omega) dX1_lend_99 ?_
                refine g_aload_0 (pc := 100) C dX1_lend_100 ?_
                refine g_dup (pc := 101) C dX1_lend_101 rfl ?_
                refine g_get_X1_30 (pc := 102) C (by omega) dX1_lend_102 ?_
                rw [mst_r (by decide)]
                refine g_iconst (pc := 105) C dX1_lend_105 ?_
                refine g_iadd (pc := 106) C dX1_lend_106 ?_
                refine g_put_X1_30 (pc := 107) C (by omega) dX1_lend_107 ?_
                refine g_iload_4 (pc := 110) C dX1_lend_110 ?_
                refine g_iret (pc := 112) C (Nat.le_of_ble_eq_true rfl) (Nat.le_of_ble_eq_true rfl) dX1_lend_112 ?_
                exact ⟨by rw [if_neg (by omega), if_neg (by omega), if_pos (by omega)], rfl, by rw [if_neg h86]⟩
              · refine g_iconst (pc := 89) C dX1_lend_89 ?_
                refine g_goto (pc := 90) (tgt := 99) C dX1_lend_90 (by decide) ?_
                first | refine g_astn_2 (pc := 99) C (by omega) (by omega) dX1_lend_99 ?_ | refine g_ast_2 (pc := 99) C (by omega) (by omega) dX1_lend_99 ?_
                refine g_aload_0 (pc := 100) C dX1_lend_100 ?_
                refine g_dup (pc := 101) C dX1_lend_101 rfl ?_
                refine g_get_X1_30 (pc := 102) C (by omega) dX1_lend_102 ?_
                rw [mst_r (by decide)]
                refine g_iconst (pc := 105) C dX1_lend_105 ?_
                refine g_iadd (pc := 106) C dX1_lend_106 ?_
                refine g_put_X1_30 (pc := 107) C (by omega) dX1_lend_107 ?_
                refine g_iload_4 (pc := 110) C dX1_lend_110 ?_
                refine g_iret (pc := 112) C (Nat.le_of_ble_eq_true rfl) (Nat.le_of_ble_eq_true rfl) dX1_lend_112 ?_
                exact ⟨by rw [if_neg (by omega), if_neg (by omega), if_pos (by omega)], rfl, by rw [if_pos h86]⟩
            · have h67 : ¬ 0 ≤ lwC T a := by split at h66 <;> omega
              refine g_throw_3 (pc := 69) C hE (text := "no address of the span is free") (by decide) dX1_lend_69 dX1_lend_72 dX1_lend_73 dX1_lend_75 dX1_lend_78 ⟨Nat.le_of_ble_eq_true rfl, Nat.le_of_ble_eq_true rfl, Nat.le_of_ble_eq_true rfl, Nat.le_of_ble_eq_true rfl⟩ ⟨Nat.le_of_ble_eq_true rfl, Nat.le_of_ble_eq_true rfl⟩ ?_
              exact dEx_of (c := 3) (by rw [if_neg (by omega), if_neg (by omega), if_neg (by omega)]) (by decide) rfl
          · have h42 : cntC T a (T 15 a.toNat) (T 16 a.toNat) 60 > 0 := by split at h41 <;> omega
            refine g_throw_3 (pc := 44) C hE (text := "200 are lent, or there are spans in the span") (by decide) dX1_lend_44 dX1_lend_47 dX1_lend_48 dX1_lend_50 dX1_lend_53 ⟨Nat.le_of_ble_eq_true rfl, Nat.le_of_ble_eq_true rfl, Nat.le_of_ble_eq_true rfl, Nat.le_of_ble_eq_true rfl⟩ ⟨Nat.le_of_ble_eq_true rfl, Nat.le_of_ble_eq_true rfl⟩ ?_
            exact dEx_of (c := 3) (by rw [if_neg (by omega), if_neg (by omega), if_neg (by omega)]) (by decide) rfl
      · refine g_throw_2 (pc := 16) C hE (text := "the days are not 0 to 100") (by decide) dX1_lend_16 dX1_lend_19 dX1_lend_20 dX1_lend_22 dX1_lend_25 ⟨Nat.le_of_ble_eq_true rfl, Nat.le_of_ble_eq_true rfl, Nat.le_of_ble_eq_true rfl, Nat.le_of_ble_eq_true rfl⟩ ⟨Nat.le_of_ble_eq_true rfl, Nat.le_of_ble_eq_true rfl⟩ ?_
        exact dEx_of (c := 2) (by rw [if_neg (by omega), if_pos (by omega)]) (by decide) rfl
