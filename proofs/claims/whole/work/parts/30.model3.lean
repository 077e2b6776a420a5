/-! the model: carve, carveAt -/
noncomputable def exMc (T : MT) (a S o w : Int) : Int := if ¬ isM T a then 1 else if ¬ (szp S ∧ (0 ≤ o ∧ o < 8) ∧ (0 ≤ w ∧ w ≤ 2)) then 2 else if clM T a S then 3 else 0
def cvPm (T : MT) (a S o w r : Int) (U : MT) : Prop := (exMc T a S o w ≠ 0 ∧ r = 0 ∧ U = mst T 4 0 (exMc T a S o w)) ∨ (exMc T a S o w = 0 ∧ ∃ q, fndP T a S w q ∧ -1 ≤ q ∧ q ≤ 8192 ∧ ((q = -1 ∧ r = 0 ∧ U = mst T 4 0 3) ∨ (q ≠ -1 ∧ r = T 4 6 ∧ U = mkM (mst T 4 0 0) (T 4 6).toNat a q S o)))
theorem k_X2_carve {l : Launch} {cs : CSt} {np : Nat} {ad : Nat → Nat} {T : MT} (h13 : 13 ≤ np) (hV : VM T) (a S o w : Int) (ha : -2147483648 ≤ a ∧ a < 2147483648) (hS : -2147483648 ≤ S ∧ S < 2147483648) (ho : -2147483648 ≤ o ∧ o < 2147483648) (hw : -2147483648 ≤ w ∧ w < 2147483648) : KE l cs yX2_carve (Cond.code yX2_carve cX2_carve 8 (some .int) :: GW) 4 0 0 [.ref (ad 4), .int (zI a), .int (zI S), .int (zI o), .int (zI w)] np ad T (fun r U => cvPm T a S o w r U) := by
  have hV0 := hV.1
  have b10 : bz ((1 : Int) = 0) = 0 := bz_f (by decide)
  have b20 : bz ((2 : Int) = 0) = 0 := bz_f (by decide)
  have b30 : bz ((3 : Int) = 0) = 0 := bz_f (by decide)
  have b00 : bz ((0 : Int) = 0) = 1 := bz_t (by decide)
  refine KC_of (cc := cX2_carve) (nL := 8) (rt := (some .int)) (by decide) (by simp [grf_cat, cat_int, cat_ref]) (by simp) ?_
  intro p e s m args below meth c A C hE hin
  refine g_eq (lv2 := [some (.ref (ad 4)), some (.int (zI a)), some (.int (zI S)), some (.int (zI o)), some (.int (zI w)), none, none, none]) rfl rfl rfl ?_
  by_cases qS : szp S
  · have bS := bz_t qS
    by_cases qo : 0 ≤ o ∧ o < 8
    · have bo := bz_t qo
      by_cases qw : 0 ≤ w ∧ w ≤ 2
      · have bw := bz_t qw
        by_cases hM : isM T a
        · have bM := bz_t hM
          by_cases hC : clM T a S
          · have bC := bz_t hC
            refine g_iload_2 (pc := 0) C dX2_carve_0 ?_
            refine g_cT1Pv (pc := 1) C cs_X2_64 (k_X2_isSize S hS) ⟨Nat.le_of_ble_eq_true rfl, Nat.le_of_ble_eq_true rfl⟩ (Nat.le_of_ble_eq_true rfl) ⟨Nat.le_of_ble_eq_true rfl, Nat.le_of_ble_eq_true rfl⟩ dX2_carve_1 ?_
            refine g_if_eq (pc := 4) (tgt := 28) C dX2_carve_4 (by decide) (by omega) (fun h4 => absurd h4 (by omega)) (fun _ => ?_)
            refine g_iload_3 (pc := 7) C dX2_carve_7 ?_
            refine g_cT1Pv (pc := 8) C cs_X2_67 (k_X2_isOwner o ho) ⟨Nat.le_of_ble_eq_true rfl, Nat.le_of_ble_eq_true rfl⟩ (Nat.le_of_ble_eq_true rfl) ⟨Nat.le_of_ble_eq_true rfl, Nat.le_of_ble_eq_true rfl⟩ dX2_carve_8 ?_
            refine g_if_eq (pc := 11) (tgt := 28) C dX2_carve_11 (by decide) (by omega) (fun h11 => absurd h11 (by omega)) (fun _ => ?_)
            refine g_iload_4 (pc := 14) C dX2_carve_14 ?_
            refine g_iconst (pc := 16) C dX2_carve_16 ?_
            refine g_iconst (pc := 17) C dX2_carve_17 ?_
            refine g_cT3Pv (pc := 18) C cs_X2_39 (k_X2_in w 0 2 hw (by omega) (by omega)) ⟨Nat.le_of_ble_eq_true rfl, Nat.le_of_ble_eq_true rfl⟩ (Nat.le_of_ble_eq_true rfl) ⟨Nat.le_of_ble_eq_true rfl, Nat.le_of_ble_eq_true rfl⟩ dX2_carve_18 ?_
            refine g_if_eq (pc := 21) (tgt := 28) C dX2_carve_21 (by decide) (by omega) (fun h21 => absurd h21 (by omega)) (fun _ => ?_)
            refine g_iconst (pc := 24) C dX2_carve_24 ?_
            refine g_goto (pc := 25) (tgt := 29) C dX2_carve_25 (by decide) ?_
            refine g_istore_5 (pc := 29) C dX2_carve_29 ?_
            refine g_aload_0 (pc := 31) C dX2_carve_31 ?_
            refine g_iload_1 (pc := 32) C dX2_carve_32 ?_
            refine g_cM1Pv (pc := 33) C cs_X2_70 (k_X2_isSpan h13 hV a ha) ⟨Nat.le_of_ble_eq_true rfl, Nat.le_of_ble_eq_true rfl⟩ (by omega) (Nat.le_of_ble_eq_true rfl) ⟨Nat.le_of_ble_eq_true rfl, Nat.le_of_ble_eq_true rfl⟩ dX2_carve_33 ?_
            refine g_if_eq (pc := 36) (tgt := 57) C dX2_carve_36 (by decide) (by omega) (fun h36 => absurd h36 (by omega)) (fun _ => ?_)
            refine g_iload_5 (pc := 39) C dX2_carve_39 ?_
            refine g_if_eq (pc := 41) (tgt := 57) C dX2_carve_41 (by decide) (by omega) (fun h41 => absurd h41 (by omega)) (fun _ => ?_)
            refine g_aload_0 (pc := 44) C dX2_carve_44 ?_
            refine g_iload_1 (pc := 45) C dX2_carve_45 ?_
            refine g_iload_2 (pc := 46) C dX2_carve_46 ?_
            refine g_cM2Pv (pc := 47) C cs_X2_73 (k_X2_isClosed h13 hV a S (by omega) hS) ⟨Nat.le_of_ble_eq_true rfl, Nat.le_of_ble_eq_true rfl⟩ (by omega) (Nat.le_of_ble_eq_true rfl) ⟨Nat.le_of_ble_eq_true rfl, Nat.le_of_ble_eq_true rfl⟩ dX2_carve_47 ?_
            refine g_if_ne (pc := 50) (tgt := 57) C dX2_carve_50 (by decide) (by omega) (fun _ => ?_) (fun h50 => absurd h50 (by omega))
            refine g_iconst (pc := 57) C dX2_carve_57 ?_
            refine g_istore_6 (pc := 58) C dX2_carve_58 ?_
            refine g_iload_6 (pc := 60) C dX2_carve_60 ?_
            refine g_if_eq (pc := 62) (tgt := 76) C dX2_carve_62 (by decide) (by omega) (fun _ => ?_) (fun h62 => absurd h62 (by omega))
            refine g_iconst (pc := 76) C dX2_carve_76 ?_
            refine g_istore_7 (pc := 77) C dX2_carve_77 ?_
            refine g_aload_0 (pc := 79) C dX2_carve_79 ?_
            refine g_aload_0 (pc := 80) C dX2_carve_80 ?_
            refine g_iload_1 (pc := 81) C dX2_carve_81 ?_
            refine g_cM1Pv (pc := 82) C cs_X2_70 (k_X2_isSpan h13 hV a ha) ⟨Nat.le_of_ble_eq_true rfl, Nat.le_of_ble_eq_true rfl⟩ (by omega) (Nat.le_of_ble_eq_true rfl) ⟨Nat.le_of_ble_eq_true rfl, Nat.le_of_ble_eq_true rfl⟩ dX2_carve_82 ?_
            refine g_if_ne (pc := 85) (tgt := 92) C dX2_carve_85 (by decide) (by omega) (fun _ => ?_) (fun h85 => absurd h85 (by omega))
            refine g_iload_5 (pc := 92) C dX2_carve_92 ?_
            refine g_if_ne (pc := 94) (tgt := 101) C dX2_carve_94 (by decide) (by omega) (fun _ => ?_) (fun h94 => absurd h94 (by omega))
            refine g_iload_7 (pc := 101) C dX2_carve_101 ?_
            refine g_iconst (pc := 103) C dX2_carve_103 ?_
            refine g_icmp_ne (pc := 104) (tgt := 111) C dX2_carve_104 (by decide) (by omega) (by omega) (fun h104 => absurd h104 (by omega)) (fun _ => ?_)
            refine g_iconst (pc := 107) C dX2_carve_107 ?_
            refine g_goto (pc := 108) (tgt := 112) C dX2_carve_108 (by decide) ?_
            refine g_cM1Pv (pc := 112) C cs_X2_81 (k_X2_goesWell h13 3 (by omega)) ⟨Nat.le_of_ble_eq_true rfl, Nat.le_of_ble_eq_true rfl⟩ (by omega) (Nat.le_of_ble_eq_true rfl) ⟨Nat.le_of_ble_eq_true rfl, Nat.le_of_ble_eq_true rfl⟩ dX2_carve_112 ?_
            refine g_if_ne (pc := 115) (tgt := 120) C dX2_carve_115 (by decide) (by omega) (fun h115 => absurd h115 (by omega)) (fun _ => ?_)
            refine g_iconst (pc := 118) C dX2_carve_118 ?_
            refine g_iret (pc := 119) C (Nat.le_of_ble_eq_true rfl) (Nat.le_of_ble_eq_true rfl) dX2_carve_119 ?_
            have hex : exMc T a S o w = 3 := by rw [exMc, if_neg (fun h => h hM), if_neg (fun h => h ⟨qS, qo, qw⟩), if_pos hC]
            exact ⟨0, _, rfl, Or.inl ⟨by rw [hex]; decide, rfl, by rw [hex]⟩, rfl⟩
          · have bC := bz_f hC
            have hex : exMc T a S o w = 0 := by rw [exMc, if_neg (fun h => h hM), if_neg (fun h => h ⟨qS, qo, qw⟩), if_neg hC]
            refine g_iload_2 (pc := 0) C dX2_carve_0 ?_
            refine g_cT1Pv (pc := 1) C cs_X2_64 (k_X2_isSize S hS) ⟨Nat.le_of_ble_eq_true rfl, Nat.le_of_ble_eq_true rfl⟩ (Nat.le_of_ble_eq_true rfl) ⟨Nat.le_of_ble_eq_true rfl, Nat.le_of_ble_eq_true rfl⟩ dX2_carve_1 ?_
            refine g_if_eq (pc := 4) (tgt := 28) C dX2_carve_4 (by decide) (by omega) (fun h4 => absurd h4 (by omega)) (fun _ => ?_)
            refine g_iload_3 (pc := 7) C dX2_carve_7 ?_
            refine g_cT1Pv (pc := 8) C cs_X2_67 (k_X2_isOwner o ho) ⟨Nat.le_of_ble_eq_true rfl, Nat.le_of_ble_eq_true rfl⟩ (Nat.le_of_ble_eq_true rfl) ⟨Nat.le_of_ble_eq_true rfl, Nat.le_of_ble_eq_true rfl⟩ dX2_carve_8 ?_
            refine g_if_eq (pc := 11) (tgt := 28) C dX2_carve_11 (by decide) (by omega) (fun h11 => absurd h11 (by omega)) (fun _ => ?_)
            refine g_iload_4 (pc := 14) C dX2_carve_14 ?_
            refine g_iconst (pc := 16) C dX2_carve_16 ?_
            refine g_iconst (pc := 17) C dX2_carve_17 ?_
            refine g_cT3Pv (pc := 18) C cs_X2_39 (k_X2_in w 0 2 hw (by omega) (by omega)) ⟨Nat.le_of_ble_eq_true rfl, Nat.le_of_ble_eq_true rfl⟩ (Nat.le_of_ble_eq_true rfl) ⟨Nat.le_of_ble_eq_true rfl, Nat.le_of_ble_eq_true rfl⟩ dX2_carve_18 ?_
            refine g_if_eq (pc := 21) (tgt := 28) C dX2_carve_21 (by decide) (by omega) (fun h21 => absurd h21 (by omega)) (fun _ => ?_)
            refine g_iconst (pc := 24) C dX2_carve_24 ?_
            refine g_goto (pc := 25) (tgt := 29) C dX2_carve_25 (by decide) ?_
            refine g_istore_5 (pc := 29) C dX2_carve_29 ?_
            refine g_aload_0 (pc := 31) C dX2_carve_31 ?_
            refine g_iload_1 (pc := 32) C dX2_carve_32 ?_
            refine g_cM1Pv (pc := 33) C cs_X2_70 (k_X2_isSpan h13 hV a ha) ⟨Nat.le_of_ble_eq_true rfl, Nat.le_of_ble_eq_true rfl⟩ (by omega) (Nat.le_of_ble_eq_true rfl) ⟨Nat.le_of_ble_eq_true rfl, Nat.le_of_ble_eq_true rfl⟩ dX2_carve_33 ?_
            refine g_if_eq (pc := 36) (tgt := 57) C dX2_carve_36 (by decide) (by omega) (fun h36 => absurd h36 (by omega)) (fun _ => ?_)
            refine g_iload_5 (pc := 39) C dX2_carve_39 ?_
            refine g_if_eq (pc := 41) (tgt := 57) C dX2_carve_41 (by decide) (by omega) (fun h41 => absurd h41 (by omega)) (fun _ => ?_)
            refine g_aload_0 (pc := 44) C dX2_carve_44 ?_
            refine g_iload_1 (pc := 45) C dX2_carve_45 ?_
            refine g_iload_2 (pc := 46) C dX2_carve_46 ?_
            refine g_cM2Pv (pc := 47) C cs_X2_73 (k_X2_isClosed h13 hV a S (by omega) hS) ⟨Nat.le_of_ble_eq_true rfl, Nat.le_of_ble_eq_true rfl⟩ (by omega) (Nat.le_of_ble_eq_true rfl) ⟨Nat.le_of_ble_eq_true rfl, Nat.le_of_ble_eq_true rfl⟩ dX2_carve_47 ?_
            refine g_if_ne (pc := 50) (tgt := 57) C dX2_carve_50 (by decide) (by omega) (fun h50 => absurd h50 (by omega)) (fun _ => ?_)
            refine g_iconst (pc := 53) C dX2_carve_53 ?_
            refine g_goto (pc := 54) (tgt := 58) C dX2_carve_54 (by decide) ?_
            refine g_istore_6 (pc := 58) C dX2_carve_58 ?_
            refine g_iload_6 (pc := 60) C dX2_carve_60 ?_
            refine g_if_eq (pc := 62) (tgt := 76) C dX2_carve_62 (by decide) (by omega) (fun h62 => absurd h62 (by omega)) (fun _ => ?_)
            refine g_aload_0 (pc := 65) C dX2_carve_65 ?_
            refine g_iload_1 (pc := 66) C dX2_carve_66 ?_
            refine g_iload_2 (pc := 67) C dX2_carve_67 ?_
            refine g_iload_4 (pc := 68) C dX2_carve_68 ?_
            refine g_cM3E (pc := 70) C cs_X2_77 (k_X2_find h13 hV a S w (by omega) qS qw) ⟨Nat.le_of_ble_eq_true rfl, Nat.le_of_ble_eq_true rfl⟩ (by omega) (Nat.le_of_ble_eq_true rfl) ⟨Nat.le_of_ble_eq_true rfl, Nat.le_of_ble_eq_true rfl⟩ dX2_carve_70 (fun r70 U70 p70 => ?_)
            obtain ⟨hU, p1, p2, p3⟩ := p70
            rw [hU]
            by_cases hq : r70 = -1
            · refine g_goto (pc := 73) (tgt := 77) C dX2_carve_73 (by decide) ?_
              refine g_istore_7 (pc := 77) C dX2_carve_77 ?_
              refine g_aload_0 (pc := 79) C dX2_carve_79 ?_
              refine g_aload_0 (pc := 80) C dX2_carve_80 ?_
              refine g_iload_1 (pc := 81) C dX2_carve_81 ?_
              refine g_cM1Pv (pc := 82) C cs_X2_70 (k_X2_isSpan h13 hV a ha) ⟨Nat.le_of_ble_eq_true rfl, Nat.le_of_ble_eq_true rfl⟩ (by omega) (Nat.le_of_ble_eq_true rfl) ⟨Nat.le_of_ble_eq_true rfl, Nat.le_of_ble_eq_true rfl⟩ dX2_carve_82 ?_
              refine g_if_ne (pc := 85) (tgt := 92) C dX2_carve_85 (by decide) (by omega) (fun _ => ?_) (fun h85 => absurd h85 (by omega))
              refine g_iload_5 (pc := 92) C dX2_carve_92 ?_
              refine g_if_ne (pc := 94) (tgt := 101) C dX2_carve_94 (by decide) (by omega) (fun _ => ?_) (fun h94 => absurd h94 (by omega))
              refine g_iload_7 (pc := 101) C dX2_carve_101 ?_
              refine g_iconst (pc := 103) C dX2_carve_103 ?_
              refine g_icmp_ne (pc := 104) (tgt := 111) C dX2_carve_104 (by decide) (by omega) (by omega) (fun h104 => absurd h104 (by omega)) (fun _ => ?_)
              refine g_iconst (pc := 107) C dX2_carve_107 ?_
              refine g_goto (pc := 108) (tgt := 112) C dX2_carve_108 (by decide) ?_
              refine g_cM1Pv (pc := 112) C cs_X2_81 (k_X2_goesWell h13 3 (by omega)) ⟨Nat.le_of_ble_eq_true rfl, Nat.le_of_ble_eq_true rfl⟩ (by omega) (Nat.le_of_ble_eq_true rfl) ⟨Nat.le_of_ble_eq_true rfl, Nat.le_of_ble_eq_true rfl⟩ dX2_carve_112 ?_
              refine g_if_ne (pc := 115) (tgt := 120) C dX2_carve_115 (by decide) (by omega) (fun h115 => absurd h115 (by omega)) (fun _ => ?_)
              refine g_iconst (pc := 118) C dX2_carve_118 ?_
              refine g_iret (pc := 119) C (Nat.le_of_ble_eq_true rfl) (Nat.le_of_ble_eq_true rfl) dX2_carve_119 ?_
              exact ⟨0, _, rfl, Or.inr ⟨hex, r70, p1, p2, p3, Or.inl ⟨hq, rfl, rfl⟩⟩, rfl⟩
            · have hm : T 4 6 < 60 := by unfold clM at hC; omega
              have e6 : mst T 4 0 0 4 6 = T 4 6 := mst_i (by decide)
              refine g_goto (pc := 73) (tgt := 77) C dX2_carve_73 (by decide) ?_
              refine g_istore_7 (pc := 77) C dX2_carve_77 ?_
              refine g_aload_0 (pc := 79) C dX2_carve_79 ?_
              refine g_aload_0 (pc := 80) C dX2_carve_80 ?_
              refine g_iload_1 (pc := 81) C dX2_carve_81 ?_
              refine g_cM1Pv (pc := 82) C cs_X2_70 (k_X2_isSpan h13 hV a ha) ⟨Nat.le_of_ble_eq_true rfl, Nat.le_of_ble_eq_true rfl⟩ (by omega) (Nat.le_of_ble_eq_true rfl) ⟨Nat.le_of_ble_eq_true rfl, Nat.le_of_ble_eq_true rfl⟩ dX2_carve_82 ?_
              refine g_if_ne (pc := 85) (tgt := 92) C dX2_carve_85 (by decide) (by omega) (fun _ => ?_) (fun h85 => absurd h85 (by omega))
              refine g_iload_5 (pc := 92) C dX2_carve_92 ?_
              refine g_if_ne (pc := 94) (tgt := 101) C dX2_carve_94 (by decide) (by omega) (fun _ => ?_) (fun h94 => absurd h94 (by omega))
              refine g_iload_7 (pc := 101) C dX2_carve_101 ?_
              refine g_iconst (pc := 103) C dX2_carve_103 ?_
              refine g_icmp_ne (pc := 104) (tgt := 111) C dX2_carve_104 (by decide) (by omega) (by omega) (fun _ => ?_) (fun h104 => absurd h104 (by omega))
              refine g_iconst (pc := 111) C dX2_carve_111 ?_
              refine g_cM1Pv (pc := 112) C cs_X2_81 (k_X2_goesWell h13 0 (by omega)) ⟨Nat.le_of_ble_eq_true rfl, Nat.le_of_ble_eq_true rfl⟩ (by omega) (Nat.le_of_ble_eq_true rfl) ⟨Nat.le_of_ble_eq_true rfl, Nat.le_of_ble_eq_true rfl⟩ dX2_carve_112 ?_
              refine g_if_ne (pc := 115) (tgt := 120) C dX2_carve_115 (by decide) (by omega) (fun _ => ?_) (fun h115 => absurd h115 (by omega))
              refine g_aload_0 (pc := 120) C dX2_carve_120 ?_
              refine g_iload_1 (pc := 121) C dX2_carve_121 ?_
              refine g_iload_7 (pc := 122) C dX2_carve_122 ?_
              refine g_iload_2 (pc := 124) C dX2_carve_124 ?_
              refine g_iload_3 (pc := 125) C dX2_carve_125 ?_
              refine g_cM4Pv (pc := 126) C cs_X2_84 (k_X2_make h13 (hV.th 0) a r70 S o (by omega)) ⟨Nat.le_of_ble_eq_true rfl, Nat.le_of_ble_eq_true rfl⟩ (by omega) (Nat.le_of_ble_eq_true rfl) ⟨Nat.le_of_ble_eq_true rfl, Nat.le_of_ble_eq_true rfl⟩ dX2_carve_126 ?_
              refine g_iret (pc := 129) C (Nat.le_of_ble_eq_true rfl) (Nat.le_of_ble_eq_true rfl) dX2_carve_129 ?_
              exact ⟨T 4 6, _, by rw [e6], Or.inr ⟨hex, r70, p1, p2, p3, Or.inr ⟨hq, rfl, by rw [e6]⟩⟩, rfl⟩
        · have bM := bz_f hM
          refine g_iload_2 (pc := 0) C dX2_carve_0 ?_
          refine g_cT1Pv (pc := 1) C cs_X2_64 (k_X2_isSize S hS) ⟨Nat.le_of_ble_eq_true rfl, Nat.le_of_ble_eq_true rfl⟩ (Nat.le_of_ble_eq_true rfl) ⟨Nat.le_of_ble_eq_true rfl, Nat.le_of_ble_eq_true rfl⟩ dX2_carve_1 ?_
          refine g_if_eq (pc := 4) (tgt := 28) C dX2_carve_4 (by decide) (by omega) (fun h4 => absurd h4 (by omega)) (fun _ => ?_)
          refine g_iload_3 (pc := 7) C dX2_carve_7 ?_
          refine g_cT1Pv (pc := 8) C cs_X2_67 (k_X2_isOwner o ho) ⟨Nat.le_of_ble_eq_true rfl, Nat.le_of_ble_eq_true rfl⟩ (Nat.le_of_ble_eq_true rfl) ⟨Nat.le_of_ble_eq_true rfl, Nat.le_of_ble_eq_true rfl⟩ dX2_carve_8 ?_
          refine g_if_eq (pc := 11) (tgt := 28) C dX2_carve_11 (by decide) (by omega) (fun h11 => absurd h11 (by omega)) (fun _ => ?_)
          refine g_iload_4 (pc := 14) C dX2_carve_14 ?_
          refine g_iconst (pc := 16) C dX2_carve_16 ?_
          refine g_iconst (pc := 17) C dX2_carve_17 ?_
          refine g_cT3Pv (pc := 18) C cs_X2_39 (k_X2_in w 0 2 hw (by omega) (by omega)) ⟨Nat.le_of_ble_eq_true rfl, Nat.le_of_ble_eq_true rfl⟩ (Nat.le_of_ble_eq_true rfl) ⟨Nat.le_of_ble_eq_true rfl, Nat.le_of_ble_eq_true rfl⟩ dX2_carve_18 ?_
          refine g_if_eq (pc := 21) (tgt := 28) C dX2_carve_21 (by decide) (by omega) (fun h21 => absurd h21 (by omega)) (fun _ => ?_)
          refine g_iconst (pc := 24) C dX2_carve_24 ?_
          refine g_goto (pc := 25) (tgt := 29) C dX2_carve_25 (by decide) ?_
          refine g_istore_5 (pc := 29) C dX2_carve_29 ?_
          refine g_aload_0 (pc := 31) C dX2_carve_31 ?_
          refine g_iload_1 (pc := 32) C dX2_carve_32 ?_
          refine g_cM1Pv (pc := 33) C cs_X2_70 (k_X2_isSpan h13 hV a ha) ⟨Nat.le_of_ble_eq_true rfl, Nat.le_of_ble_eq_true rfl⟩ (by omega) (Nat.le_of_ble_eq_true rfl) ⟨Nat.le_of_ble_eq_true rfl, Nat.le_of_ble_eq_true rfl⟩ dX2_carve_33 ?_
          refine g_if_eq (pc := 36) (tgt := 57) C dX2_carve_36 (by decide) (by omega) (fun _ => ?_) (fun h36 => absurd h36 (by omega))
          refine g_iconst (pc := 57) C dX2_carve_57 ?_
          refine g_istore_6 (pc := 58) C dX2_carve_58 ?_
          refine g_iload_6 (pc := 60) C dX2_carve_60 ?_
          refine g_if_eq (pc := 62) (tgt := 76) C dX2_carve_62 (by decide) (by omega) (fun _ => ?_) (fun h62 => absurd h62 (by omega))
          refine g_iconst (pc := 76) C dX2_carve_76 ?_
          refine g_istore_7 (pc := 77) C dX2_carve_77 ?_
          refine g_aload_0 (pc := 79) C dX2_carve_79 ?_
          refine g_aload_0 (pc := 80) C dX2_carve_80 ?_
          refine g_iload_1 (pc := 81) C dX2_carve_81 ?_
          refine g_cM1Pv (pc := 82) C cs_X2_70 (k_X2_isSpan h13 hV a ha) ⟨Nat.le_of_ble_eq_true rfl, Nat.le_of_ble_eq_true rfl⟩ (by omega) (Nat.le_of_ble_eq_true rfl) ⟨Nat.le_of_ble_eq_true rfl, Nat.le_of_ble_eq_true rfl⟩ dX2_carve_82 ?_
          refine g_if_ne (pc := 85) (tgt := 92) C dX2_carve_85 (by decide) (by omega) (fun h85 => absurd h85 (by omega)) (fun _ => ?_)
          refine g_iconst (pc := 88) C dX2_carve_88 ?_
          refine g_goto (pc := 89) (tgt := 112) C dX2_carve_89 (by decide) ?_
          refine g_cM1Pv (pc := 112) C cs_X2_81 (k_X2_goesWell h13 1 (by omega)) ⟨Nat.le_of_ble_eq_true rfl, Nat.le_of_ble_eq_true rfl⟩ (by omega) (Nat.le_of_ble_eq_true rfl) ⟨Nat.le_of_ble_eq_true rfl, Nat.le_of_ble_eq_true rfl⟩ dX2_carve_112 ?_
          refine g_if_ne (pc := 115) (tgt := 120) C dX2_carve_115 (by decide) (by omega) (fun h115 => absurd h115 (by omega)) (fun _ => ?_)
          refine g_iconst (pc := 118) C dX2_carve_118 ?_
          refine g_iret (pc := 119) C (Nat.le_of_ble_eq_true rfl) (Nat.le_of_ble_eq_true rfl) dX2_carve_119 ?_
          have hex : exMc T a S o w = 1 := by rw [exMc, if_pos hM]
          exact ⟨0, _, rfl, Or.inl ⟨by rw [hex]; decide, rfl, by rw [hex]⟩, rfl⟩
      · have bw := bz_f qw
        have hrg : ¬ (szp S ∧ (0 ≤ o ∧ o < 8) ∧ (0 ≤ w ∧ w ≤ 2)) := fun h => qw h.2.2
        refine g_iload_2 (pc := 0) C dX2_carve_0 ?_
        refine g_cT1Pv (pc := 1) C cs_X2_64 (k_X2_isSize S hS) ⟨Nat.le_of_ble_eq_true rfl, Nat.le_of_ble_eq_true rfl⟩ (Nat.le_of_ble_eq_true rfl) ⟨Nat.le_of_ble_eq_true rfl, Nat.le_of_ble_eq_true rfl⟩ dX2_carve_1 ?_
        refine g_if_eq (pc := 4) (tgt := 28) C dX2_carve_4 (by decide) (by omega) (fun h4 => absurd h4 (by omega)) (fun _ => ?_)
        refine g_iload_3 (pc := 7) C dX2_carve_7 ?_
        refine g_cT1Pv (pc := 8) C cs_X2_67 (k_X2_isOwner o ho) ⟨Nat.le_of_ble_eq_true rfl, Nat.le_of_ble_eq_true rfl⟩ (Nat.le_of_ble_eq_true rfl) ⟨Nat.le_of_ble_eq_true rfl, Nat.le_of_ble_eq_true rfl⟩ dX2_carve_8 ?_
        refine g_if_eq (pc := 11) (tgt := 28) C dX2_carve_11 (by decide) (by omega) (fun h11 => absurd h11 (by omega)) (fun _ => ?_)
        refine g_iload_4 (pc := 14) C dX2_carve_14 ?_
        refine g_iconst (pc := 16) C dX2_carve_16 ?_
        refine g_iconst (pc := 17) C dX2_carve_17 ?_
        refine g_cT3Pv (pc := 18) C cs_X2_39 (k_X2_in w 0 2 hw (by omega) (by omega)) ⟨Nat.le_of_ble_eq_true rfl, Nat.le_of_ble_eq_true rfl⟩ (Nat.le_of_ble_eq_true rfl) ⟨Nat.le_of_ble_eq_true rfl, Nat.le_of_ble_eq_true rfl⟩ dX2_carve_18 ?_
        refine g_if_eq (pc := 21) (tgt := 28) C dX2_carve_21 (by decide) (by omega) (fun _ => ?_) (fun h21 => absurd h21 (by omega))
        by_cases hM : isM T a
        · have bM := bz_t hM
          refine g_iconst (pc := 28) C dX2_carve_28 ?_
          refine g_istore_5 (pc := 29) C dX2_carve_29 ?_
          refine g_aload_0 (pc := 31) C dX2_carve_31 ?_
          refine g_iload_1 (pc := 32) C dX2_carve_32 ?_
          refine g_cM1Pv (pc := 33) C cs_X2_70 (k_X2_isSpan h13 hV a ha) ⟨Nat.le_of_ble_eq_true rfl, Nat.le_of_ble_eq_true rfl⟩ (by omega) (Nat.le_of_ble_eq_true rfl) ⟨Nat.le_of_ble_eq_true rfl, Nat.le_of_ble_eq_true rfl⟩ dX2_carve_33 ?_
          refine g_if_eq (pc := 36) (tgt := 57) C dX2_carve_36 (by decide) (by omega) (fun h36 => absurd h36 (by omega)) (fun _ => ?_)
          refine g_iload_5 (pc := 39) C dX2_carve_39 ?_
          refine g_if_eq (pc := 41) (tgt := 57) C dX2_carve_41 (by decide) (by omega) (fun _ => ?_) (fun h41 => absurd h41 (by omega))
          refine g_iconst (pc := 57) C dX2_carve_57 ?_
          refine g_istore_6 (pc := 58) C dX2_carve_58 ?_
          refine g_iload_6 (pc := 60) C dX2_carve_60 ?_
          refine g_if_eq (pc := 62) (tgt := 76) C dX2_carve_62 (by decide) (by omega) (fun _ => ?_) (fun h62 => absurd h62 (by omega))
          refine g_iconst (pc := 76) C dX2_carve_76 ?_
          refine g_istore_7 (pc := 77) C dX2_carve_77 ?_
          refine g_aload_0 (pc := 79) C dX2_carve_79 ?_
          refine g_aload_0 (pc := 80) C dX2_carve_80 ?_
          refine g_iload_1 (pc := 81) C dX2_carve_81 ?_
          refine g_cM1Pv (pc := 82) C cs_X2_70 (k_X2_isSpan h13 hV a ha) ⟨Nat.le_of_ble_eq_true rfl, Nat.le_of_ble_eq_true rfl⟩ (by omega) (Nat.le_of_ble_eq_true rfl) ⟨Nat.le_of_ble_eq_true rfl, Nat.le_of_ble_eq_true rfl⟩ dX2_carve_82 ?_
          refine g_if_ne (pc := 85) (tgt := 92) C dX2_carve_85 (by decide) (by omega) (fun _ => ?_) (fun h85 => absurd h85 (by omega))
          refine g_iload_5 (pc := 92) C dX2_carve_92 ?_
          refine g_if_ne (pc := 94) (tgt := 101) C dX2_carve_94 (by decide) (by omega) (fun h94 => absurd h94 (by omega)) (fun _ => ?_)
          refine g_iconst (pc := 97) C dX2_carve_97 ?_
          refine g_goto (pc := 98) (tgt := 112) C dX2_carve_98 (by decide) ?_
          refine g_cM1Pv (pc := 112) C cs_X2_81 (k_X2_goesWell h13 2 (by omega)) ⟨Nat.le_of_ble_eq_true rfl, Nat.le_of_ble_eq_true rfl⟩ (by omega) (Nat.le_of_ble_eq_true rfl) ⟨Nat.le_of_ble_eq_true rfl, Nat.le_of_ble_eq_true rfl⟩ dX2_carve_112 ?_
          refine g_if_ne (pc := 115) (tgt := 120) C dX2_carve_115 (by decide) (by omega) (fun h115 => absurd h115 (by omega)) (fun _ => ?_)
          refine g_iconst (pc := 118) C dX2_carve_118 ?_
          refine g_iret (pc := 119) C (Nat.le_of_ble_eq_true rfl) (Nat.le_of_ble_eq_true rfl) dX2_carve_119 ?_
          have hex : exMc T a S o w = 2 := by rw [exMc, if_neg (fun h => h hM), if_pos (fun h => hrg h)]
          exact ⟨0, _, rfl, Or.inl ⟨by rw [hex]; decide, rfl, by rw [hex]⟩, rfl⟩
        · have bM := bz_f hM
          refine g_iconst (pc := 28) C dX2_carve_28 ?_
          refine g_istore_5 (pc := 29) C dX2_carve_29 ?_
          refine g_aload_0 (pc := 31) C dX2_carve_31 ?_
          refine g_iload_1 (pc := 32) C dX2_carve_32 ?_
          refine g_cM1Pv (pc := 33) C cs_X2_70 (k_X2_isSpan h13 hV a ha) ⟨Nat.le_of_ble_eq_true rfl, Nat.le_of_ble_eq_true rfl⟩ (by omega) (Nat.le_of_ble_eq_true rfl) ⟨Nat.le_of_ble_eq_true rfl, Nat.le_of_ble_eq_true rfl⟩ dX2_carve_33 ?_
          refine g_if_eq (pc := 36) (tgt := 57) C dX2_carve_36 (by decide) (by omega) (fun _ => ?_) (fun h36 => absurd h36 (by omega))
          refine g_iconst (pc := 57) C dX2_carve_57 ?_
          refine g_istore_6 (pc := 58) C dX2_carve_58 ?_
          refine g_iload_6 (pc := 60) C dX2_carve_60 ?_
          refine g_if_eq (pc := 62) (tgt := 76) C dX2_carve_62 (by decide) (by omega) (fun _ => ?_) (fun h62 => absurd h62 (by omega))
          refine g_iconst (pc := 76) C dX2_carve_76 ?_
          refine g_istore_7 (pc := 77) C dX2_carve_77 ?_
          refine g_aload_0 (pc := 79) C dX2_carve_79 ?_
          refine g_aload_0 (pc := 80) C dX2_carve_80 ?_
          refine g_iload_1 (pc := 81) C dX2_carve_81 ?_
          refine g_cM1Pv (pc := 82) C cs_X2_70 (k_X2_isSpan h13 hV a ha) ⟨Nat.le_of_ble_eq_true rfl, Nat.le_of_ble_eq_true rfl⟩ (by omega) (Nat.le_of_ble_eq_true rfl) ⟨Nat.le_of_ble_eq_true rfl, Nat.le_of_ble_eq_true rfl⟩ dX2_carve_82 ?_
          refine g_if_ne (pc := 85) (tgt := 92) C dX2_carve_85 (by decide) (by omega) (fun h85 => absurd h85 (by omega)) (fun _ => ?_)
          refine g_iconst (pc := 88) C dX2_carve_88 ?_
          refine g_goto (pc := 89) (tgt := 112) C dX2_carve_89 (by decide) ?_
          refine g_cM1Pv (pc := 112) C cs_X2_81 (k_X2_goesWell h13 1 (by omega)) ⟨Nat.le_of_ble_eq_true rfl, Nat.le_of_ble_eq_true rfl⟩ (by omega) (Nat.le_of_ble_eq_true rfl) ⟨Nat.le_of_ble_eq_true rfl, Nat.le_of_ble_eq_true rfl⟩ dX2_carve_112 ?_
          refine g_if_ne (pc := 115) (tgt := 120) C dX2_carve_115 (by decide) (by omega) (fun h115 => absurd h115 (by omega)) (fun _ => ?_)
          refine g_iconst (pc := 118) C dX2_carve_118 ?_
          refine g_iret (pc := 119) C (Nat.le_of_ble_eq_true rfl) (Nat.le_of_ble_eq_true rfl) dX2_carve_119 ?_
          have hex : exMc T a S o w = 1 := by rw [exMc, if_pos hM]
          exact ⟨0, _, rfl, Or.inl ⟨by rw [hex]; decide, rfl, by rw [hex]⟩, rfl⟩
    · have bo := bz_f qo
      have hrg : ¬ (szp S ∧ (0 ≤ o ∧ o < 8) ∧ (0 ≤ w ∧ w ≤ 2)) := fun h => qo h.2.1
      refine g_iload_2 (pc := 0) C dX2_carve_0 ?_
      refine g_cT1Pv (pc := 1) C cs_X2_64 (k_X2_isSize S hS) ⟨Nat.le_of_ble_eq_true rfl, Nat.le_of_ble_eq_true rfl⟩ (Nat.le_of_ble_eq_true rfl) ⟨Nat.le_of_ble_eq_true rfl, Nat.le_of_ble_eq_true rfl⟩ dX2_carve_1 ?_
      refine g_if_eq (pc := 4) (tgt := 28) C dX2_carve_4 (by decide) (by omega) (fun h4 => absurd h4 (by omega)) (fun _ => ?_)
      refine g_iload_3 (pc := 7) C dX2_carve_7 ?_
      refine g_cT1Pv (pc := 8) C cs_X2_67 (k_X2_isOwner o ho) ⟨Nat.le_of_ble_eq_true rfl, Nat.le_of_ble_eq_true rfl⟩ (Nat.le_of_ble_eq_true rfl) ⟨Nat.le_of_ble_eq_true rfl, Nat.le_of_ble_eq_true rfl⟩ dX2_carve_8 ?_
      refine g_if_eq (pc := 11) (tgt := 28) C dX2_carve_11 (by decide) (by omega) (fun _ => ?_) (fun h11 => absurd h11 (by omega))
      by_cases hM : isM T a
      · have bM := bz_t hM
        refine g_iconst (pc := 28) C dX2_carve_28 ?_
        refine g_istore_5 (pc := 29) C dX2_carve_29 ?_
        refine g_aload_0 (pc := 31) C dX2_carve_31 ?_
        refine g_iload_1 (pc := 32) C dX2_carve_32 ?_
        refine g_cM1Pv (pc := 33) C cs_X2_70 (k_X2_isSpan h13 hV a ha) ⟨Nat.le_of_ble_eq_true rfl, Nat.le_of_ble_eq_true rfl⟩ (by omega) (Nat.le_of_ble_eq_true rfl) ⟨Nat.le_of_ble_eq_true rfl, Nat.le_of_ble_eq_true rfl⟩ dX2_carve_33 ?_
        refine g_if_eq (pc := 36) (tgt := 57) C dX2_carve_36 (by decide) (by omega) (fun h36 => absurd h36 (by omega)) (fun _ => ?_)
        refine g_iload_5 (pc := 39) C dX2_carve_39 ?_
        refine g_if_eq (pc := 41) (tgt := 57) C dX2_carve_41 (by decide) (by omega) (fun _ => ?_) (fun h41 => absurd h41 (by omega))
        refine g_iconst (pc := 57) C dX2_carve_57 ?_
        refine g_istore_6 (pc := 58) C dX2_carve_58 ?_
        refine g_iload_6 (pc := 60) C dX2_carve_60 ?_
        refine g_if_eq (pc := 62) (tgt := 76) C dX2_carve_62 (by decide) (by omega) (fun _ => ?_) (fun h62 => absurd h62 (by omega))
        refine g_iconst (pc := 76) C dX2_carve_76 ?_
        refine g_istore_7 (pc := 77) C dX2_carve_77 ?_
        refine g_aload_0 (pc := 79) C dX2_carve_79 ?_
        refine g_aload_0 (pc := 80) C dX2_carve_80 ?_
        refine g_iload_1 (pc := 81) C dX2_carve_81 ?_
        refine g_cM1Pv (pc := 82) C cs_X2_70 (k_X2_isSpan h13 hV a ha) ⟨Nat.le_of_ble_eq_true rfl, Nat.le_of_ble_eq_true rfl⟩ (by omega) (Nat.le_of_ble_eq_true rfl) ⟨Nat.le_of_ble_eq_true rfl, Nat.le_of_ble_eq_true rfl⟩ dX2_carve_82 ?_
        refine g_if_ne (pc := 85) (tgt := 92) C dX2_carve_85 (by decide) (by omega) (fun _ => ?_) (fun h85 => absurd h85 (by omega))
        refine g_iload_5 (pc := 92) C dX2_carve_92 ?_
        refine g_if_ne (pc := 94) (tgt := 101) C dX2_carve_94 (by decide) (by omega) (fun h94 => absurd h94 (by omega)) (fun _ => ?_)
        refine g_iconst (pc := 97) C dX2_carve_97 ?_
        refine g_goto (pc := 98) (tgt := 112) C dX2_carve_98 (by decide) ?_
        refine g_cM1Pv (pc := 112) C cs_X2_81 (k_X2_goesWell h13 2 (by omega)) ⟨Nat.le_of_ble_eq_true rfl, Nat.le_of_ble_eq_true rfl⟩ (by omega) (Nat.le_of_ble_eq_true rfl) ⟨Nat.le_of_ble_eq_true rfl, Nat.le_of_ble_eq_true rfl⟩ dX2_carve_112 ?_
        refine g_if_ne (pc := 115) (tgt := 120) C dX2_carve_115 (by decide) (by omega) (fun h115 => absurd h115 (by omega)) (fun _ => ?_)
        refine g_iconst (pc := 118) C dX2_carve_118 ?_
        refine g_iret (pc := 119) C (Nat.le_of_ble_eq_true rfl) (Nat.le_of_ble_eq_true rfl) dX2_carve_119 ?_
        have hex : exMc T a S o w = 2 := by rw [exMc, if_neg (fun h => h hM), if_pos (fun h => hrg h)]
        exact ⟨0, _, rfl, Or.inl ⟨by rw [hex]; decide, rfl, by rw [hex]⟩, rfl⟩
      · have bM := bz_f hM
        refine g_iconst (pc := 28) C dX2_carve_28 ?_
        refine g_istore_5 (pc := 29) C dX2_carve_29 ?_
        refine g_aload_0 (pc := 31) C dX2_carve_31 ?_
        refine g_iload_1 (pc := 32) C dX2_carve_32 ?_
        refine g_cM1Pv (pc := 33) C cs_X2_70 (k_X2_isSpan h13 hV a ha) ⟨Nat.le_of_ble_eq_true rfl, Nat.le_of_ble_eq_true rfl⟩ (by omega) (Nat.le_of_ble_eq_true rfl) ⟨Nat.le_of_ble_eq_true rfl, Nat.le_of_ble_eq_true rfl⟩ dX2_carve_33 ?_
        refine g_if_eq (pc := 36) (tgt := 57) C dX2_carve_36 (by decide) (by omega) (fun _ => ?_) (fun h36 => absurd h36 (by omega))
        refine g_iconst (pc := 57) C dX2_carve_57 ?_
        refine g_istore_6 (pc := 58) C dX2_carve_58 ?_
        refine g_iload_6 (pc := 60) C dX2_carve_60 ?_
        refine g_if_eq (pc := 62) (tgt := 76) C dX2_carve_62 (by decide) (by omega) (fun _ => ?_) (fun h62 => absurd h62 (by omega))
        refine g_iconst (pc := 76) C dX2_carve_76 ?_
        refine g_istore_7 (pc := 77) C dX2_carve_77 ?_
        refine g_aload_0 (pc := 79) C dX2_carve_79 ?_
        refine g_aload_0 (pc := 80) C dX2_carve_80 ?_
        refine g_iload_1 (pc := 81) C dX2_carve_81 ?_
        refine g_cM1Pv (pc := 82) C cs_X2_70 (k_X2_isSpan h13 hV a ha) ⟨Nat.le_of_ble_eq_true rfl, Nat.le_of_ble_eq_true rfl⟩ (by omega) (Nat.le_of_ble_eq_true rfl) ⟨Nat.le_of_ble_eq_true rfl, Nat.le_of_ble_eq_true rfl⟩ dX2_carve_82 ?_
        refine g_if_ne (pc := 85) (tgt := 92) C dX2_carve_85 (by decide) (by omega) (fun h85 => absurd h85 (by omega)) (fun _ => ?_)
        refine g_iconst (pc := 88) C dX2_carve_88 ?_
        refine g_goto (pc := 89) (tgt := 112) C dX2_carve_89 (by decide) ?_
        refine g_cM1Pv (pc := 112) C cs_X2_81 (k_X2_goesWell h13 1 (by omega)) ⟨Nat.le_of_ble_eq_true rfl, Nat.le_of_ble_eq_true rfl⟩ (by omega) (Nat.le_of_ble_eq_true rfl) ⟨Nat.le_of_ble_eq_true rfl, Nat.le_of_ble_eq_true rfl⟩ dX2_carve_112 ?_
        refine g_if_ne (pc := 115) (tgt := 120) C dX2_carve_115 (by decide) (by omega) (fun h115 => absurd h115 (by omega)) (fun _ => ?_)
        refine g_iconst (pc := 118) C dX2_carve_118 ?_
        refine g_iret (pc := 119) C (Nat.le_of_ble_eq_true rfl) (Nat.le_of_ble_eq_true rfl) dX2_carve_119 ?_
        have hex : exMc T a S o w = 1 := by rw [exMc, if_pos hM]
        exact ⟨0, _, rfl, Or.inl ⟨by rw [hex]; decide, rfl, by rw [hex]⟩, rfl⟩
  · have bS := bz_f qS
    have hrg : ¬ (szp S ∧ (0 ≤ o ∧ o < 8) ∧ (0 ≤ w ∧ w ≤ 2)) := fun h => qS h.1
    refine g_iload_2 (pc := 0) C dX2_carve_0 ?_
    refine g_cT1Pv (pc := 1) C cs_X2_64 (k_X2_isSize S hS) ⟨Nat.le_of_ble_eq_true rfl, Nat.le_of_ble_eq_true rfl⟩ (Nat.le_of_ble_eq_true rfl) ⟨Nat.le_of_ble_eq_true rfl, Nat.le_of_ble_eq_true rfl⟩ dX2_carve_1 ?_
    refine g_if_eq (pc := 4) (tgt := 28) C dX2_carve_4 (by decide) (by omega) (fun _ => ?_) (fun h4 => absurd h4 (by omega))
    by_cases hM : isM T a
    · have bM := bz_t hM
      refine g_iconst (pc := 28) C dX2_carve_28 ?_
      refine g_istore_5 (pc := 29) C dX2_carve_29 ?_
      refine g_aload_0 (pc := 31) C dX2_carve_31 ?_
      refine g_iload_1 (pc := 32) C dX2_carve_32 ?_
      refine g_cM1Pv (pc := 33) C cs_X2_70 (k_X2_isSpan h13 hV a ha) ⟨Nat.le_of_ble_eq_true rfl, Nat.le_of_ble_eq_true rfl⟩ (by omega) (Nat.le_of_ble_eq_true rfl) ⟨Nat.le_of_ble_eq_true rfl, Nat.le_of_ble_eq_true rfl⟩ dX2_carve_33 ?_
      refine g_if_eq (pc := 36) (tgt := 57) C dX2_carve_36 (by decide) (by omega) (fun h36 => absurd h36 (by omega)) (fun _ => ?_)
      refine g_iload_5 (pc := 39) C dX2_carve_39 ?_
      refine g_if_eq (pc := 41) (tgt := 57) C dX2_carve_41 (by decide) (by omega) (fun _ => ?_) (fun h41 => absurd h41 (by omega))
      refine g_iconst (pc := 57) C dX2_carve_57 ?_
      refine g_istore_6 (pc := 58) C dX2_carve_58 ?_
      refine g_iload_6 (pc := 60) C dX2_carve_60 ?_
      refine g_if_eq (pc := 62) (tgt := 76) C dX2_carve_62 (by decide) (by omega) (fun _ => ?_) (fun h62 => absurd h62 (by omega))
      refine g_iconst (pc := 76) C dX2_carve_76 ?_
      refine g_istore_7 (pc := 77) C dX2_carve_77 ?_
      refine g_aload_0 (pc := 79) C dX2_carve_79 ?_
      refine g_aload_0 (pc := 80) C dX2_carve_80 ?_
      refine g_iload_1 (pc := 81) C dX2_carve_81 ?_
      refine g_cM1Pv (pc := 82) C cs_X2_70 (k_X2_isSpan h13 hV a ha) ⟨Nat.le_of_ble_eq_true rfl, Nat.le_of_ble_eq_true rfl⟩ (by omega) (Nat.le_of_ble_eq_true rfl) ⟨Nat.le_of_ble_eq_true rfl, Nat.le_of_ble_eq_true rfl⟩ dX2_carve_82 ?_
      refine g_if_ne (pc := 85) (tgt := 92) C dX2_carve_85 (by decide) (by omega) (fun _ => ?_) (fun h85 => absurd h85 (by omega))
      refine g_iload_5 (pc := 92) C dX2_carve_92 ?_
      refine g_if_ne (pc := 94) (tgt := 101) C dX2_carve_94 (by decide) (by omega) (fun h94 => absurd h94 (by omega)) (fun _ => ?_)
      refine g_iconst (pc := 97) C dX2_carve_97 ?_
      refine g_goto (pc := 98) (tgt := 112) C dX2_carve_98 (by decide) ?_
      refine g_cM1Pv (pc := 112) C cs_X2_81 (k_X2_goesWell h13 2 (by omega)) ⟨Nat.le_of_ble_eq_true rfl, Nat.le_of_ble_eq_true rfl⟩ (by omega) (Nat.le_of_ble_eq_true rfl) ⟨Nat.le_of_ble_eq_true rfl, Nat.le_of_ble_eq_true rfl⟩ dX2_carve_112 ?_
      refine g_if_ne (pc := 115) (tgt := 120) C dX2_carve_115 (by decide) (by omega) (fun h115 => absurd h115 (by omega)) (fun _ => ?_)
      refine g_iconst (pc := 118) C dX2_carve_118 ?_
      refine g_iret (pc := 119) C (Nat.le_of_ble_eq_true rfl) (Nat.le_of_ble_eq_true rfl) dX2_carve_119 ?_
      have hex : exMc T a S o w = 2 := by rw [exMc, if_neg (fun h => h hM), if_pos (fun h => hrg h)]
      exact ⟨0, _, rfl, Or.inl ⟨by rw [hex]; decide, rfl, by rw [hex]⟩, rfl⟩
    · have bM := bz_f hM
      refine g_iconst (pc := 28) C dX2_carve_28 ?_
      refine g_istore_5 (pc := 29) C dX2_carve_29 ?_
      refine g_aload_0 (pc := 31) C dX2_carve_31 ?_
      refine g_iload_1 (pc := 32) C dX2_carve_32 ?_
      refine g_cM1Pv (pc := 33) C cs_X2_70 (k_X2_isSpan h13 hV a ha) ⟨Nat.le_of_ble_eq_true rfl, Nat.le_of_ble_eq_true rfl⟩ (by omega) (Nat.le_of_ble_eq_true rfl) ⟨Nat.le_of_ble_eq_true rfl, Nat.le_of_ble_eq_true rfl⟩ dX2_carve_33 ?_
      refine g_if_eq (pc := 36) (tgt := 57) C dX2_carve_36 (by decide) (by omega) (fun _ => ?_) (fun h36 => absurd h36 (by omega))
      refine g_iconst (pc := 57) C dX2_carve_57 ?_
      refine g_istore_6 (pc := 58) C dX2_carve_58 ?_
      refine g_iload_6 (pc := 60) C dX2_carve_60 ?_
      refine g_if_eq (pc := 62) (tgt := 76) C dX2_carve_62 (by decide) (by omega) (fun _ => ?_) (fun h62 => absurd h62 (by omega))
      refine g_iconst (pc := 76) C dX2_carve_76 ?_
      refine g_istore_7 (pc := 77) C dX2_carve_77 ?_
      refine g_aload_0 (pc := 79) C dX2_carve_79 ?_
      refine g_aload_0 (pc := 80) C dX2_carve_80 ?_
      refine g_iload_1 (pc := 81) C dX2_carve_81 ?_
      refine g_cM1Pv (pc := 82) C cs_X2_70 (k_X2_isSpan h13 hV a ha) ⟨Nat.le_of_ble_eq_true rfl, Nat.le_of_ble_eq_true rfl⟩ (by omega) (Nat.le_of_ble_eq_true rfl) ⟨Nat.le_of_ble_eq_true rfl, Nat.le_of_ble_eq_true rfl⟩ dX2_carve_82 ?_
      refine g_if_ne (pc := 85) (tgt := 92) C dX2_carve_85 (by decide) (by omega) (fun h85 => absurd h85 (by omega)) (fun _ => ?_)
      refine g_iconst (pc := 88) C dX2_carve_88 ?_
      refine g_goto (pc := 89) (tgt := 112) C dX2_carve_89 (by decide) ?_
      refine g_cM1Pv (pc := 112) C cs_X2_81 (k_X2_goesWell h13 1 (by omega)) ⟨Nat.le_of_ble_eq_true rfl, Nat.le_of_ble_eq_true rfl⟩ (by omega) (Nat.le_of_ble_eq_true rfl) ⟨Nat.le_of_ble_eq_true rfl, Nat.le_of_ble_eq_true rfl⟩ dX2_carve_112 ?_
      refine g_if_ne (pc := 115) (tgt := 120) C dX2_carve_115 (by decide) (by omega) (fun h115 => absurd h115 (by omega)) (fun _ => ?_)
      refine g_iconst (pc := 118) C dX2_carve_118 ?_
      refine g_iret (pc := 119) C (Nat.le_of_ble_eq_true rfl) (Nat.le_of_ble_eq_true rfl) dX2_carve_119 ?_
      have hex : exMc T a S o w = 1 := by rw [exMc, if_pos hM]
      exact ⟨0, _, rfl, Or.inl ⟨by rw [hex]; decide, rfl, by rw [hex]⟩, rfl⟩
noncomputable def exMa (T : MT) (a B S o : Int) : Int := if ¬ isM T a then 1 else if ¬ (szp S ∧ (0 ≤ o ∧ o < 8) ∧ (0 ≤ B ∧ B % S = 0)) then 2 else if clM T a S ∨ 4096 ≤ B ∨ ¬ frM T a B S then 3 else 0
theorem k_X2_carveAt {l : Launch} {cs : CSt} {np : Nat} {ad : Nat → Nat} {T : MT} (h13 : 13 ≤ np) (hV : VM T) (a B S o : Int) (ha : -2147483648 ≤ a ∧ a < 2147483648) (hB : -2147483648 ≤ B ∧ B < 2147483648) (hS : -2147483648 ≤ S ∧ S < 2147483648) (ho : -2147483648 ≤ o ∧ o < 2147483648) : KD l cs yX2_carveAt (Cond.code yX2_carveAt cX2_carveAt 7 (some .int) :: GW) 4 0 0 [.ref (ad 4), .int (zI a), .int (zI B), .int (zI S), .int (zI o)] np ad T 0 (some (.int (zI (if exMa T a B S o = 0 then T 4 6 else 0)))) (np, ad, if exMa T a B S o = 0 then mkM (mst T 4 0 0) (T 4 6).toNat a B S o else mst T 4 0 (exMa T a B S o)) := by
  have hV0 := hV.1
  have b10 : bz ((1 : Int) = 0) = 0 := bz_f (by decide)
  have b20 : bz ((2 : Int) = 0) = 0 := bz_f (by decide)
  have b30 : bz ((3 : Int) = 0) = 0 := bz_f (by decide)
  have b00 : bz ((0 : Int) = 0) = 1 := bz_t (by decide)
  refine KC_of (cc := cX2_carveAt) (nL := 7) (rt := (some .int)) (by decide) (by simp [grf_cat, cat_int, cat_ref]) (by simp) ?_
  intro p e s m args below meth c A C hE hin
  refine g_eq (lv2 := [some (.ref (ad 4)), some (.int (zI a)), some (.int (zI B)), some (.int (zI S)), some (.int (zI o)), none, none]) rfl rfl rfl ?_
  by_cases qS : szp S
  · have bS := bz_t qS
    have hS1 : 1 ≤ S ∧ S ≤ 2048 := by unfold szp at qS; omega
    by_cases qo : 0 ≤ o ∧ o < 8
    · have bo := bz_t qo
      refine g_iload_3 (pc := 0) C dX2_carveAt_0 ?_
      refine g_cT1Pv (pc := 1) C cs_X2_64 (k_X2_isSize S hS) ⟨Nat.le_of_ble_eq_true rfl, Nat.le_of_ble_eq_true rfl⟩ (Nat.le_of_ble_eq_true rfl) ⟨Nat.le_of_ble_eq_true rfl, Nat.le_of_ble_eq_true rfl⟩ dX2_carveAt_1 ?_
      refine g_if_eq (pc := 4) (tgt := 29) C dX2_carveAt_4 (by decide) (by omega) (fun h4 => absurd h4 (by omega)) (fun _ => ?_)
      refine g_iload_4 (pc := 7) C dX2_carveAt_7 ?_
      refine g_cT1Pv (pc := 9) C cs_X2_67 (k_X2_isOwner o ho) ⟨Nat.le_of_ble_eq_true rfl, Nat.le_of_ble_eq_true rfl⟩ (Nat.le_of_ble_eq_true rfl) ⟨Nat.le_of_ble_eq_true rfl, Nat.le_of_ble_eq_true rfl⟩ dX2_carveAt_9 ?_
      refine g_if_eq (pc := 12) (tgt := 29) C dX2_carveAt_12 (by decide) (by omega) (fun h12 => absurd h12 (by omega)) (fun _ => ?_)
      refine g_iload_2 (pc := 15) C dX2_carveAt_15 ?_
      refine g_if_lt (pc := 16) (tgt := 29) C dX2_carveAt_16 (by decide) (by omega) (fun h16 => ?_) (fun h16 => ?_)
      · have hrg : ¬ (szp S ∧ (0 ≤ o ∧ o < 8) ∧ (0 ≤ B ∧ B % S = 0)) := fun h => by have := h.2.2.1; omega
        by_cases hM : isM T a
        · have bM := bz_t hM
          have hex : exMa T a B S o = 2 := by rw [exMa, if_neg (fun h => h hM), if_pos hrg]
          refine g_iconst (pc := 29) C dX2_carveAt_29 ?_
          refine g_istore_5 (pc := 30) C dX2_carveAt_30 ?_
          refine g_aload_0 (pc := 32) C dX2_carveAt_32 ?_
          refine g_iload_1 (pc := 33) C dX2_carveAt_33 ?_
          refine g_cM1Pv (pc := 34) C cs_X2_70 (k_X2_isSpan h13 hV a ha) ⟨Nat.le_of_ble_eq_true rfl, Nat.le_of_ble_eq_true rfl⟩ (by omega) (Nat.le_of_ble_eq_true rfl) ⟨Nat.le_of_ble_eq_true rfl, Nat.le_of_ble_eq_true rfl⟩ dX2_carveAt_34 ?_
          refine g_if_eq (pc := 37) (tgt := 79) C dX2_carveAt_37 (by decide) (by omega) (fun h37 => absurd h37 (by omega)) (fun _ => ?_)
          refine g_iload_5 (pc := 40) C dX2_carveAt_40 ?_
          refine g_if_eq (pc := 42) (tgt := 79) C dX2_carveAt_42 (by decide) (by omega) (fun _ => ?_) (fun h42 => absurd h42 (by omega))
          refine g_iconst (pc := 79) C dX2_carveAt_79 ?_
          refine g_istore_6 (pc := 80) C dX2_carveAt_80 ?_
          refine g_aload_0 (pc := 82) C dX2_carveAt_82 ?_
          refine g_aload_0 (pc := 83) C dX2_carveAt_83 ?_
          refine g_iload_1 (pc := 84) C dX2_carveAt_84 ?_
          refine g_cM1Pv (pc := 85) C cs_X2_70 (k_X2_isSpan h13 hV a ha) ⟨Nat.le_of_ble_eq_true rfl, Nat.le_of_ble_eq_true rfl⟩ (by omega) (Nat.le_of_ble_eq_true rfl) ⟨Nat.le_of_ble_eq_true rfl, Nat.le_of_ble_eq_true rfl⟩ dX2_carveAt_85 ?_
          refine g_if_ne (pc := 88) (tgt := 95) C dX2_carveAt_88 (by decide) (by omega) (fun _ => ?_) (fun h88 => absurd h88 (by omega))
          refine g_iload_5 (pc := 95) C dX2_carveAt_95 ?_
          refine g_if_ne (pc := 97) (tgt := 104) C dX2_carveAt_97 (by decide) (by omega) (fun h97 => absurd h97 (by omega)) (fun _ => ?_)
          refine g_iconst (pc := 100) C dX2_carveAt_100 ?_
          refine g_goto (pc := 101) (tgt := 114) C dX2_carveAt_101 (by decide) ?_
          refine g_cM1Pv (pc := 114) C cs_X2_81 (k_X2_goesWell h13 2 (by omega)) ⟨Nat.le_of_ble_eq_true rfl, Nat.le_of_ble_eq_true rfl⟩ (by omega) (Nat.le_of_ble_eq_true rfl) ⟨Nat.le_of_ble_eq_true rfl, Nat.le_of_ble_eq_true rfl⟩ dX2_carveAt_114 ?_
          refine g_if_ne (pc := 117) (tgt := 122) C dX2_carveAt_117 (by decide) (by omega) (fun h117 => absurd h117 (by omega)) (fun _ => ?_)
          refine g_iconst (pc := 120) C dX2_carveAt_120 ?_
          refine g_iret (pc := 121) C (Nat.le_of_ble_eq_true rfl) (Nat.le_of_ble_eq_true rfl) dX2_carveAt_121 ?_
          exact ⟨rfl, by rw [hex]; rfl, by rw [hex]; rfl⟩
        · have bM := bz_f hM
          have hex : exMa T a B S o = 1 := by rw [exMa, if_pos hM]
          refine g_iconst (pc := 29) C dX2_carveAt_29 ?_
          refine g_istore_5 (pc := 30) C dX2_carveAt_30 ?_
          refine g_aload_0 (pc := 32) C dX2_carveAt_32 ?_
          refine g_iload_1 (pc := 33) C dX2_carveAt_33 ?_
          refine g_cM1Pv (pc := 34) C cs_X2_70 (k_X2_isSpan h13 hV a ha) ⟨Nat.le_of_ble_eq_true rfl, Nat.le_of_ble_eq_true rfl⟩ (by omega) (Nat.le_of_ble_eq_true rfl) ⟨Nat.le_of_ble_eq_true rfl, Nat.le_of_ble_eq_true rfl⟩ dX2_carveAt_34 ?_
          refine g_if_eq (pc := 37) (tgt := 79) C dX2_carveAt_37 (by decide) (by omega) (fun _ => ?_) (fun h37 => absurd h37 (by omega))
          refine g_iconst (pc := 79) C dX2_carveAt_79 ?_
          refine g_istore_6 (pc := 80) C dX2_carveAt_80 ?_
          refine g_aload_0 (pc := 82) C dX2_carveAt_82 ?_
          refine g_aload_0 (pc := 83) C dX2_carveAt_83 ?_
          refine g_iload_1 (pc := 84) C dX2_carveAt_84 ?_
          refine g_cM1Pv (pc := 85) C cs_X2_70 (k_X2_isSpan h13 hV a ha) ⟨Nat.le_of_ble_eq_true rfl, Nat.le_of_ble_eq_true rfl⟩ (by omega) (Nat.le_of_ble_eq_true rfl) ⟨Nat.le_of_ble_eq_true rfl, Nat.le_of_ble_eq_true rfl⟩ dX2_carveAt_85 ?_
          refine g_if_ne (pc := 88) (tgt := 95) C dX2_carveAt_88 (by decide) (by omega) (fun h88 => absurd h88 (by omega)) (fun _ => ?_)
          refine g_iconst (pc := 91) C dX2_carveAt_91 ?_
          refine g_goto (pc := 92) (tgt := 114) C dX2_carveAt_92 (by decide) ?_
          refine g_cM1Pv (pc := 114) C cs_X2_81 (k_X2_goesWell h13 1 (by omega)) ⟨Nat.le_of_ble_eq_true rfl, Nat.le_of_ble_eq_true rfl⟩ (by omega) (Nat.le_of_ble_eq_true rfl) ⟨Nat.le_of_ble_eq_true rfl, Nat.le_of_ble_eq_true rfl⟩ dX2_carveAt_114 ?_
          refine g_if_ne (pc := 117) (tgt := 122) C dX2_carveAt_117 (by decide) (by omega) (fun h117 => absurd h117 (by omega)) (fun _ => ?_)
          refine g_iconst (pc := 120) C dX2_carveAt_120 ?_
          refine g_iret (pc := 121) C (Nat.le_of_ble_eq_true rfl) (Nat.le_of_ble_eq_true rfl) dX2_carveAt_121 ?_
          exact ⟨rfl, by rw [hex]; rfl, by rw [hex]; rfl⟩
      · have hm := Int.emod_nonneg B (b := S) (by omega)
        have hm2 := Int.emod_lt_of_pos B (b := S) (by omega)
        by_cases qm : B % S = 0
        · have hrg : szp S ∧ (0 ≤ o ∧ o < 8) ∧ (0 ≤ B ∧ B % S = 0) := ⟨qS, qo, by omega, qm⟩
          by_cases hM : isM T a
          · have bM := bz_t hM
            by_cases hC : clM T a S
            · have bC := bz_t hC
              have h3 : clM T a S ∨ 4096 ≤ B ∨ ¬ frM T a B S := Or.inl hC
              refine g_iload_2 (pc := 19) C dX2_carveAt_19 ?_
              refine g_iload_3 (pc := 20) C dX2_carveAt_20 ?_
              refine g_irem (pc := 21) C dX2_carveAt_21 (by omega) (by omega) ?_
              refine g_if_ne (pc := 22) (tgt := 29) C dX2_carveAt_22 (by decide) (by omega) (fun h22 => absurd h22 (by omega)) (fun _ => ?_)
              refine g_iconst (pc := 25) C dX2_carveAt_25 ?_
              refine g_goto (pc := 26) (tgt := 30) C dX2_carveAt_26 (by decide) ?_
              refine g_istore_5 (pc := 30) C dX2_carveAt_30 ?_
              refine g_aload_0 (pc := 32) C dX2_carveAt_32 ?_
              refine g_iload_1 (pc := 33) C dX2_carveAt_33 ?_
              refine g_cM1Pv (pc := 34) C cs_X2_70 (k_X2_isSpan h13 hV a ha) ⟨Nat.le_of_ble_eq_true rfl, Nat.le_of_ble_eq_true rfl⟩ (by omega) (Nat.le_of_ble_eq_true rfl) ⟨Nat.le_of_ble_eq_true rfl, Nat.le_of_ble_eq_true rfl⟩ dX2_carveAt_34 ?_
              refine g_if_eq (pc := 37) (tgt := 79) C dX2_carveAt_37 (by decide) (by omega) (fun h37 => absurd h37 (by omega)) (fun _ => ?_)
              refine g_iload_5 (pc := 40) C dX2_carveAt_40 ?_
              refine g_if_eq (pc := 42) (tgt := 79) C dX2_carveAt_42 (by decide) (by omega) (fun h42 => absurd h42 (by omega)) (fun _ => ?_)
              refine g_aload_0 (pc := 45) C dX2_carveAt_45 ?_
              refine g_iload_1 (pc := 46) C dX2_carveAt_46 ?_
              refine g_iload_3 (pc := 47) C dX2_carveAt_47 ?_
              refine g_cM2Pv (pc := 48) C cs_X2_73 (k_X2_isClosed h13 hV a S (by omega) hS) ⟨Nat.le_of_ble_eq_true rfl, Nat.le_of_ble_eq_true rfl⟩ (by omega) (Nat.le_of_ble_eq_true rfl) ⟨Nat.le_of_ble_eq_true rfl, Nat.le_of_ble_eq_true rfl⟩ dX2_carveAt_48 ?_
              refine g_if_ne (pc := 51) (tgt := 79) C dX2_carveAt_51 (by decide) (by omega) (fun _ => ?_) (fun h51 => absurd h51 (by omega))
              have hex : exMa T a B S o = 3 := by rw [exMa, if_neg (fun h => h hM), if_neg (fun h => h hrg), if_pos h3]
              refine g_iconst (pc := 79) C dX2_carveAt_79 ?_
              refine g_istore_6 (pc := 80) C dX2_carveAt_80 ?_
              refine g_aload_0 (pc := 82) C dX2_carveAt_82 ?_
              refine g_aload_0 (pc := 83) C dX2_carveAt_83 ?_
              refine g_iload_1 (pc := 84) C dX2_carveAt_84 ?_
              refine g_cM1Pv (pc := 85) C cs_X2_70 (k_X2_isSpan h13 hV a ha) ⟨Nat.le_of_ble_eq_true rfl, Nat.le_of_ble_eq_true rfl⟩ (by omega) (Nat.le_of_ble_eq_true rfl) ⟨Nat.le_of_ble_eq_true rfl, Nat.le_of_ble_eq_true rfl⟩ dX2_carveAt_85 ?_
              refine g_if_ne (pc := 88) (tgt := 95) C dX2_carveAt_88 (by decide) (by omega) (fun _ => ?_) (fun h88 => absurd h88 (by omega))
              refine g_iload_5 (pc := 95) C dX2_carveAt_95 ?_
              refine g_if_ne (pc := 97) (tgt := 104) C dX2_carveAt_97 (by decide) (by omega) (fun _ => ?_) (fun h97 => absurd h97 (by omega))
              refine g_iload_6 (pc := 104) C dX2_carveAt_104 ?_
              refine g_if_eq (pc := 106) (tgt := 113) C dX2_carveAt_106 (by decide) (by omega) (fun _ => ?_) (fun h106 => absurd h106 (by omega))
              refine g_iconst (pc := 113) C dX2_carveAt_113 ?_
              refine g_cM1Pv (pc := 114) C cs_X2_81 (k_X2_goesWell h13 3 (by omega)) ⟨Nat.le_of_ble_eq_true rfl, Nat.le_of_ble_eq_true rfl⟩ (by omega) (Nat.le_of_ble_eq_true rfl) ⟨Nat.le_of_ble_eq_true rfl, Nat.le_of_ble_eq_true rfl⟩ dX2_carveAt_114 ?_
              refine g_if_ne (pc := 117) (tgt := 122) C dX2_carveAt_117 (by decide) (by omega) (fun h117 => absurd h117 (by omega)) (fun _ => ?_)
              refine g_iconst (pc := 120) C dX2_carveAt_120 ?_
              refine g_iret (pc := 121) C (Nat.le_of_ble_eq_true rfl) (Nat.le_of_ble_eq_true rfl) dX2_carveAt_121 ?_
              exact ⟨rfl, by rw [hex]; rfl, by rw [hex]; rfl⟩
            · have bC := bz_f hC
              by_cases qB : 4096 ≤ B
              · have bB : bz (0 ≤ B ∧ B ≤ 4095) = 0 := bz_f (by omega)
                have h3 : clM T a S ∨ 4096 ≤ B ∨ ¬ frM T a B S := Or.inr (Or.inl qB)
                refine g_iload_2 (pc := 19) C dX2_carveAt_19 ?_
                refine g_iload_3 (pc := 20) C dX2_carveAt_20 ?_
                refine g_irem (pc := 21) C dX2_carveAt_21 (by omega) (by omega) ?_
                refine g_if_ne (pc := 22) (tgt := 29) C dX2_carveAt_22 (by decide) (by omega) (fun h22 => absurd h22 (by omega)) (fun _ => ?_)
                refine g_iconst (pc := 25) C dX2_carveAt_25 ?_
                refine g_goto (pc := 26) (tgt := 30) C dX2_carveAt_26 (by decide) ?_
                refine g_istore_5 (pc := 30) C dX2_carveAt_30 ?_
                refine g_aload_0 (pc := 32) C dX2_carveAt_32 ?_
                refine g_iload_1 (pc := 33) C dX2_carveAt_33 ?_
                refine g_cM1Pv (pc := 34) C cs_X2_70 (k_X2_isSpan h13 hV a ha) ⟨Nat.le_of_ble_eq_true rfl, Nat.le_of_ble_eq_true rfl⟩ (by omega) (Nat.le_of_ble_eq_true rfl) ⟨Nat.le_of_ble_eq_true rfl, Nat.le_of_ble_eq_true rfl⟩ dX2_carveAt_34 ?_
                refine g_if_eq (pc := 37) (tgt := 79) C dX2_carveAt_37 (by decide) (by omega) (fun h37 => absurd h37 (by omega)) (fun _ => ?_)
                refine g_iload_5 (pc := 40) C dX2_carveAt_40 ?_
                refine g_if_eq (pc := 42) (tgt := 79) C dX2_carveAt_42 (by decide) (by omega) (fun h42 => absurd h42 (by omega)) (fun _ => ?_)
                refine g_aload_0 (pc := 45) C dX2_carveAt_45 ?_
                refine g_iload_1 (pc := 46) C dX2_carveAt_46 ?_
                refine g_iload_3 (pc := 47) C dX2_carveAt_47 ?_
                refine g_cM2Pv (pc := 48) C cs_X2_73 (k_X2_isClosed h13 hV a S (by omega) hS) ⟨Nat.le_of_ble_eq_true rfl, Nat.le_of_ble_eq_true rfl⟩ (by omega) (Nat.le_of_ble_eq_true rfl) ⟨Nat.le_of_ble_eq_true rfl, Nat.le_of_ble_eq_true rfl⟩ dX2_carveAt_48 ?_
                refine g_if_ne (pc := 51) (tgt := 79) C dX2_carveAt_51 (by decide) (by omega) (fun h51 => absurd h51 (by omega)) (fun _ => ?_)
                refine g_iload_2 (pc := 54) C dX2_carveAt_54 ?_
                refine g_iconst (pc := 55) C dX2_carveAt_55 ?_
                refine g_sipush (pc := 56) C dX2_carveAt_56 (by decide) ?_
                refine g_cT3Pv (pc := 59) C cs_X2_39 (k_X2_in B 0 4095 hB (by omega) (by omega)) ⟨Nat.le_of_ble_eq_true rfl, Nat.le_of_ble_eq_true rfl⟩ (Nat.le_of_ble_eq_true rfl) ⟨Nat.le_of_ble_eq_true rfl, Nat.le_of_ble_eq_true rfl⟩ dX2_carveAt_59 ?_
                refine g_if_eq (pc := 62) (tgt := 79) C dX2_carveAt_62 (by decide) (by omega) (fun _ => ?_) (fun h62 => absurd h62 (by omega))
                have hex : exMa T a B S o = 3 := by rw [exMa, if_neg (fun h => h hM), if_neg (fun h => h hrg), if_pos h3]
                refine g_iconst (pc := 79) C dX2_carveAt_79 ?_
                refine g_istore_6 (pc := 80) C dX2_carveAt_80 ?_
                refine g_aload_0 (pc := 82) C dX2_carveAt_82 ?_
                refine g_aload_0 (pc := 83) C dX2_carveAt_83 ?_
                refine g_iload_1 (pc := 84) C dX2_carveAt_84 ?_
                refine g_cM1Pv (pc := 85) C cs_X2_70 (k_X2_isSpan h13 hV a ha) ⟨Nat.le_of_ble_eq_true rfl, Nat.le_of_ble_eq_true rfl⟩ (by omega) (Nat.le_of_ble_eq_true rfl) ⟨Nat.le_of_ble_eq_true rfl, Nat.le_of_ble_eq_true rfl⟩ dX2_carveAt_85 ?_
                refine g_if_ne (pc := 88) (tgt := 95) C dX2_carveAt_88 (by decide) (by omega) (fun _ => ?_) (fun h88 => absurd h88 (by omega))
                refine g_iload_5 (pc := 95) C dX2_carveAt_95 ?_
                refine g_if_ne (pc := 97) (tgt := 104) C dX2_carveAt_97 (by decide) (by omega) (fun _ => ?_) (fun h97 => absurd h97 (by omega))
                refine g_iload_6 (pc := 104) C dX2_carveAt_104 ?_
                refine g_if_eq (pc := 106) (tgt := 113) C dX2_carveAt_106 (by decide) (by omega) (fun _ => ?_) (fun h106 => absurd h106 (by omega))
                refine g_iconst (pc := 113) C dX2_carveAt_113 ?_
                refine g_cM1Pv (pc := 114) C cs_X2_81 (k_X2_goesWell h13 3 (by omega)) ⟨Nat.le_of_ble_eq_true rfl, Nat.le_of_ble_eq_true rfl⟩ (by omega) (Nat.le_of_ble_eq_true rfl) ⟨Nat.le_of_ble_eq_true rfl, Nat.le_of_ble_eq_true rfl⟩ dX2_carveAt_114 ?_
                refine g_if_ne (pc := 117) (tgt := 122) C dX2_carveAt_117 (by decide) (by omega) (fun h117 => absurd h117 (by omega)) (fun _ => ?_)
                refine g_iconst (pc := 120) C dX2_carveAt_120 ?_
                refine g_iret (pc := 121) C (Nat.le_of_ble_eq_true rfl) (Nat.le_of_ble_eq_true rfl) dX2_carveAt_121 ?_
                exact ⟨rfl, by rw [hex]; rfl, by rw [hex]; rfl⟩
              · have bB : bz (0 ≤ B ∧ B ≤ 4095) = 1 := bz_t (by omega)
                by_cases qF : frM T a B S
                · have bF := bz_t qF
                  have hex : exMa T a B S o = 0 := by rw [exMa, if_neg (fun h => h hM), if_neg (fun h => h hrg), if_neg (by rintro (h | h | h); exact hC h; exact qB h; exact h qF)]
                  have hm : T 4 6 < 60 := by unfold clM at hC; omega
                  have e6 : mst T 4 0 0 4 6 = T 4 6 := mst_i (by decide)
                  refine g_iload_2 (pc := 19) C dX2_carveAt_19 ?_
                  refine g_iload_3 (pc := 20) C dX2_carveAt_20 ?_
                  refine g_irem (pc := 21) C dX2_carveAt_21 (by omega) (by omega) ?_
                  refine g_if_ne (pc := 22) (tgt := 29) C dX2_carveAt_22 (by decide) (by omega) (fun h22 => absurd h22 (by omega)) (fun _ => ?_)
                  refine g_iconst (pc := 25) C dX2_carveAt_25 ?_
                  refine g_goto (pc := 26) (tgt := 30) C dX2_carveAt_26 (by decide) ?_
                  refine g_istore_5 (pc := 30) C dX2_carveAt_30 ?_
                  refine g_aload_0 (pc := 32) C dX2_carveAt_32 ?_
                  refine g_iload_1 (pc := 33) C dX2_carveAt_33 ?_
                  refine g_cM1Pv (pc := 34) C cs_X2_70 (k_X2_isSpan h13 hV a ha) ⟨Nat.le_of_ble_eq_true rfl, Nat.le_of_ble_eq_true rfl⟩ (by omega) (Nat.le_of_ble_eq_true rfl) ⟨Nat.le_of_ble_eq_true rfl, Nat.le_of_ble_eq_true rfl⟩ dX2_carveAt_34 ?_
                  refine g_if_eq (pc := 37) (tgt := 79) C dX2_carveAt_37 (by decide) (by omega) (fun h37 => absurd h37 (by omega)) (fun _ => ?_)
                  refine g_iload_5 (pc := 40) C dX2_carveAt_40 ?_
                  refine g_if_eq (pc := 42) (tgt := 79) C dX2_carveAt_42 (by decide) (by omega) (fun h42 => absurd h42 (by omega)) (fun _ => ?_)
                  refine g_aload_0 (pc := 45) C dX2_carveAt_45 ?_
                  refine g_iload_1 (pc := 46) C dX2_carveAt_46 ?_
                  refine g_iload_3 (pc := 47) C dX2_carveAt_47 ?_
                  refine g_cM2Pv (pc := 48) C cs_X2_73 (k_X2_isClosed h13 hV a S (by omega) hS) ⟨Nat.le_of_ble_eq_true rfl, Nat.le_of_ble_eq_true rfl⟩ (by omega) (Nat.le_of_ble_eq_true rfl) ⟨Nat.le_of_ble_eq_true rfl, Nat.le_of_ble_eq_true rfl⟩ dX2_carveAt_48 ?_
                  refine g_if_ne (pc := 51) (tgt := 79) C dX2_carveAt_51 (by decide) (by omega) (fun h51 => absurd h51 (by omega)) (fun _ => ?_)
                  refine g_iload_2 (pc := 54) C dX2_carveAt_54 ?_
                  refine g_iconst (pc := 55) C dX2_carveAt_55 ?_
                  refine g_sipush (pc := 56) C dX2_carveAt_56 (by decide) ?_
                  refine g_cT3Pv (pc := 59) C cs_X2_39 (k_X2_in B 0 4095 hB (by omega) (by omega)) ⟨Nat.le_of_ble_eq_true rfl, Nat.le_of_ble_eq_true rfl⟩ (Nat.le_of_ble_eq_true rfl) ⟨Nat.le_of_ble_eq_true rfl, Nat.le_of_ble_eq_true rfl⟩ dX2_carveAt_59 ?_
                  refine g_if_eq (pc := 62) (tgt := 79) C dX2_carveAt_62 (by decide) (by omega) (fun h62 => absurd h62 (by omega)) (fun _ => ?_)
                  refine g_aload_0 (pc := 65) C dX2_carveAt_65 ?_
                  refine g_iload_1 (pc := 66) C dX2_carveAt_66 ?_
                  refine g_iload_2 (pc := 67) C dX2_carveAt_67 ?_
                  refine g_iload_3 (pc := 68) C dX2_carveAt_68 ?_
                  refine g_cM3Pv (pc := 69) C cs_X2_50 (k_X2_isFree h13 hV a B S (by omega) (by omega)) ⟨Nat.le_of_ble_eq_true rfl, Nat.le_of_ble_eq_true rfl⟩ (by omega) (Nat.le_of_ble_eq_true rfl) ⟨Nat.le_of_ble_eq_true rfl, Nat.le_of_ble_eq_true rfl⟩ dX2_carveAt_69 ?_
                  refine g_if_eq (pc := 72) (tgt := 79) C dX2_carveAt_72 (by decide) (by omega) (fun h72 => absurd h72 (by omega)) (fun _ => ?_)
                  refine g_iconst (pc := 75) C dX2_carveAt_75 ?_
                  refine g_goto (pc := 76) (tgt := 80) C dX2_carveAt_76 (by decide) ?_
                  refine g_istore_6 (pc := 80) C dX2_carveAt_80 ?_
                  refine g_aload_0 (pc := 82) C dX2_carveAt_82 ?_
                  refine g_aload_0 (pc := 83) C dX2_carveAt_83 ?_
                  refine g_iload_1 (pc := 84) C dX2_carveAt_84 ?_
                  refine g_cM1Pv (pc := 85) C cs_X2_70 (k_X2_isSpan h13 hV a ha) ⟨Nat.le_of_ble_eq_true rfl, Nat.le_of_ble_eq_true rfl⟩ (by omega) (Nat.le_of_ble_eq_true rfl) ⟨Nat.le_of_ble_eq_true rfl, Nat.le_of_ble_eq_true rfl⟩ dX2_carveAt_85 ?_
                  refine g_if_ne (pc := 88) (tgt := 95) C dX2_carveAt_88 (by decide) (by omega) (fun _ => ?_) (fun h88 => absurd h88 (by omega))
                  refine g_iload_5 (pc := 95) C dX2_carveAt_95 ?_
                  refine g_if_ne (pc := 97) (tgt := 104) C dX2_carveAt_97 (by decide) (by omega) (fun _ => ?_) (fun h97 => absurd h97 (by omega))
                  refine g_iload_6 (pc := 104) C dX2_carveAt_104 ?_
                  refine g_if_eq (pc := 106) (tgt := 113) C dX2_carveAt_106 (by decide) (by omega) (fun h106 => absurd h106 (by omega)) (fun _ => ?_)
                  refine g_iconst (pc := 109) C dX2_carveAt_109 ?_
                  refine g_goto (pc := 110) (tgt := 114) C dX2_carveAt_110 (by decide) ?_
                  refine g_cM1Pv (pc := 114) C cs_X2_81 (k_X2_goesWell h13 0 (by omega)) ⟨Nat.le_of_ble_eq_true rfl, Nat.le_of_ble_eq_true rfl⟩ (by omega) (Nat.le_of_ble_eq_true rfl) ⟨Nat.le_of_ble_eq_true rfl, Nat.le_of_ble_eq_true rfl⟩ dX2_carveAt_114 ?_
                  refine g_if_ne (pc := 117) (tgt := 122) C dX2_carveAt_117 (by decide) (by omega) (fun _ => ?_) (fun h117 => absurd h117 (by omega))
                  refine g_aload_0 (pc := 122) C dX2_carveAt_122 ?_
                  refine g_iload_1 (pc := 123) C dX2_carveAt_123 ?_
                  refine g_iload_2 (pc := 124) C dX2_carveAt_124 ?_
                  refine g_iload_3 (pc := 125) C dX2_carveAt_125 ?_
                  refine g_iload_4 (pc := 126) C dX2_carveAt_126 ?_
                  refine g_cM4Pv (pc := 128) C cs_X2_84 (k_X2_make h13 (hV.th 0) a B S o (by omega)) ⟨Nat.le_of_ble_eq_true rfl, Nat.le_of_ble_eq_true rfl⟩ (by omega) (Nat.le_of_ble_eq_true rfl) ⟨Nat.le_of_ble_eq_true rfl, Nat.le_of_ble_eq_true rfl⟩ dX2_carveAt_128 ?_
                  refine g_iret (pc := 131) C (Nat.le_of_ble_eq_true rfl) (Nat.le_of_ble_eq_true rfl) dX2_carveAt_131 ?_
                  exact ⟨rfl, by rw [hex, e6]; rfl, by rw [hex, e6]; rfl⟩
                · have bF := bz_f qF
                  have h3 : clM T a S ∨ 4096 ≤ B ∨ ¬ frM T a B S := Or.inr (Or.inr qF)
                  refine g_iload_2 (pc := 19) C dX2_carveAt_19 ?_
                  refine g_iload_3 (pc := 20) C dX2_carveAt_20 ?_
                  refine g_irem (pc := 21) C dX2_carveAt_21 (by omega) (by omega) ?_
                  refine g_if_ne (pc := 22) (tgt := 29) C dX2_carveAt_22 (by decide) (by omega) (fun h22 => absurd h22 (by omega)) (fun _ => ?_)
                  refine g_iconst (pc := 25) C dX2_carveAt_25 ?_
                  refine g_goto (pc := 26) (tgt := 30) C dX2_carveAt_26 (by decide) ?_
                  refine g_istore_5 (pc := 30) C dX2_carveAt_30 ?_
                  refine g_aload_0 (pc := 32) C dX2_carveAt_32 ?_
                  refine g_iload_1 (pc := 33) C dX2_carveAt_33 ?_
                  refine g_cM1Pv (pc := 34) C cs_X2_70 (k_X2_isSpan h13 hV a ha) ⟨Nat.le_of_ble_eq_true rfl, Nat.le_of_ble_eq_true rfl⟩ (by omega) (Nat.le_of_ble_eq_true rfl) ⟨Nat.le_of_ble_eq_true rfl, Nat.le_of_ble_eq_true rfl⟩ dX2_carveAt_34 ?_
                  refine g_if_eq (pc := 37) (tgt := 79) C dX2_carveAt_37 (by decide) (by omega) (fun h37 => absurd h37 (by omega)) (fun _ => ?_)
                  refine g_iload_5 (pc := 40) C dX2_carveAt_40 ?_
                  refine g_if_eq (pc := 42) (tgt := 79) C dX2_carveAt_42 (by decide) (by omega) (fun h42 => absurd h42 (by omega)) (fun _ => ?_)
                  refine g_aload_0 (pc := 45) C dX2_carveAt_45 ?_
                  refine g_iload_1 (pc := 46) C dX2_carveAt_46 ?_
                  refine g_iload_3 (pc := 47) C dX2_carveAt_47 ?_
                  refine g_cM2Pv (pc := 48) C cs_X2_73 (k_X2_isClosed h13 hV a S (by omega) hS) ⟨Nat.le_of_ble_eq_true rfl, Nat.le_of_ble_eq_true rfl⟩ (by omega) (Nat.le_of_ble_eq_true rfl) ⟨Nat.le_of_ble_eq_true rfl, Nat.le_of_ble_eq_true rfl⟩ dX2_carveAt_48 ?_
                  refine g_if_ne (pc := 51) (tgt := 79) C dX2_carveAt_51 (by decide) (by omega) (fun h51 => absurd h51 (by omega)) (fun _ => ?_)
                  refine g_iload_2 (pc := 54) C dX2_carveAt_54 ?_
                  refine g_iconst (pc := 55) C dX2_carveAt_55 ?_
                  refine g_sipush (pc := 56) C dX2_carveAt_56 (by decide) ?_
                  refine g_cT3Pv (pc := 59) C cs_X2_39 (k_X2_in B 0 4095 hB (by omega) (by omega)) ⟨Nat.le_of_ble_eq_true rfl, Nat.le_of_ble_eq_true rfl⟩ (Nat.le_of_ble_eq_true rfl) ⟨Nat.le_of_ble_eq_true rfl, Nat.le_of_ble_eq_true rfl⟩ dX2_carveAt_59 ?_
                  refine g_if_eq (pc := 62) (tgt := 79) C dX2_carveAt_62 (by decide) (by omega) (fun h62 => absurd h62 (by omega)) (fun _ => ?_)
                  refine g_aload_0 (pc := 65) C dX2_carveAt_65 ?_
                  refine g_iload_1 (pc := 66) C dX2_carveAt_66 ?_
                  refine g_iload_2 (pc := 67) C dX2_carveAt_67 ?_
                  refine g_iload_3 (pc := 68) C dX2_carveAt_68 ?_
                  refine g_cM3Pv (pc := 69) C cs_X2_50 (k_X2_isFree h13 hV a B S (by omega) (by omega)) ⟨Nat.le_of_ble_eq_true rfl, Nat.le_of_ble_eq_true rfl⟩ (by omega) (Nat.le_of_ble_eq_true rfl) ⟨Nat.le_of_ble_eq_true rfl, Nat.le_of_ble_eq_true rfl⟩ dX2_carveAt_69 ?_
                  refine g_if_eq (pc := 72) (tgt := 79) C dX2_carveAt_72 (by decide) (by omega) (fun _ => ?_) (fun h72 => absurd h72 (by omega))
                  have hex : exMa T a B S o = 3 := by rw [exMa, if_neg (fun h => h hM), if_neg (fun h => h hrg), if_pos h3]
                  refine g_iconst (pc := 79) C dX2_carveAt_79 ?_
                  refine g_istore_6 (pc := 80) C dX2_carveAt_80 ?_
                  refine g_aload_0 (pc := 82) C dX2_carveAt_82 ?_
                  refine g_aload_0 (pc := 83) C dX2_carveAt_83 ?_
                  refine g_iload_1 (pc := 84) C dX2_carveAt_84 ?_
                  refine g_cM1Pv (pc := 85) C cs_X2_70 (k_X2_isSpan h13 hV a ha) ⟨Nat.le_of_ble_eq_true rfl, Nat.le_of_ble_eq_true rfl⟩ (by omega) (Nat.le_of_ble_eq_true rfl) ⟨Nat.le_of_ble_eq_true rfl, Nat.le_of_ble_eq_true rfl⟩ dX2_carveAt_85 ?_
                  refine g_if_ne (pc := 88) (tgt := 95) C dX2_carveAt_88 (by decide) (by omega) (fun _ => ?_) (fun h88 => absurd h88 (by omega))
                  refine g_iload_5 (pc := 95) C dX2_carveAt_95 ?_
                  refine g_if_ne (pc := 97) (tgt := 104) C dX2_carveAt_97 (by decide) (by omega) (fun _ => ?_) (fun h97 => absurd h97 (by omega))
                  refine g_iload_6 (pc := 104) C dX2_carveAt_104 ?_
                  refine g_if_eq (pc := 106) (tgt := 113) C dX2_carveAt_106 (by decide) (by omega) (fun _ => ?_) (fun h106 => absurd h106 (by omega))
                  refine g_iconst (pc := 113) C dX2_carveAt_113 ?_
                  refine g_cM1Pv (pc := 114) C cs_X2_81 (k_X2_goesWell h13 3 (by omega)) ⟨Nat.le_of_ble_eq_true rfl, Nat.le_of_ble_eq_true rfl⟩ (by omega) (Nat.le_of_ble_eq_true rfl) ⟨Nat.le_of_ble_eq_true rfl, Nat.le_of_ble_eq_true rfl⟩ dX2_carveAt_114 ?_
                  refine g_if_ne (pc := 117) (tgt := 122) C dX2_carveAt_117 (by decide) (by omega) (fun h117 => absurd h117 (by omega)) (fun _ => ?_)
                  refine g_iconst (pc := 120) C dX2_carveAt_120 ?_
                  refine g_iret (pc := 121) C (Nat.le_of_ble_eq_true rfl) (Nat.le_of_ble_eq_true rfl) dX2_carveAt_121 ?_
                  exact ⟨rfl, by rw [hex]; rfl, by rw [hex]; rfl⟩
          · have bM := bz_f hM
            have hex : exMa T a B S o = 1 := by rw [exMa, if_pos hM]
            refine g_iload_2 (pc := 19) C dX2_carveAt_19 ?_
            refine g_iload_3 (pc := 20) C dX2_carveAt_20 ?_
            refine g_irem (pc := 21) C dX2_carveAt_21 (by omega) (by omega) ?_
            refine g_if_ne (pc := 22) (tgt := 29) C dX2_carveAt_22 (by decide) (by omega) (fun h22 => absurd h22 (by omega)) (fun _ => ?_)
            refine g_iconst (pc := 25) C dX2_carveAt_25 ?_
            refine g_goto (pc := 26) (tgt := 30) C dX2_carveAt_26 (by decide) ?_
            refine g_istore_5 (pc := 30) C dX2_carveAt_30 ?_
            refine g_aload_0 (pc := 32) C dX2_carveAt_32 ?_
            refine g_iload_1 (pc := 33) C dX2_carveAt_33 ?_
            refine g_cM1Pv (pc := 34) C cs_X2_70 (k_X2_isSpan h13 hV a ha) ⟨Nat.le_of_ble_eq_true rfl, Nat.le_of_ble_eq_true rfl⟩ (by omega) (Nat.le_of_ble_eq_true rfl) ⟨Nat.le_of_ble_eq_true rfl, Nat.le_of_ble_eq_true rfl⟩ dX2_carveAt_34 ?_
            refine g_if_eq (pc := 37) (tgt := 79) C dX2_carveAt_37 (by decide) (by omega) (fun _ => ?_) (fun h37 => absurd h37 (by omega))
            refine g_iconst (pc := 79) C dX2_carveAt_79 ?_
            refine g_istore_6 (pc := 80) C dX2_carveAt_80 ?_
            refine g_aload_0 (pc := 82) C dX2_carveAt_82 ?_
            refine g_aload_0 (pc := 83) C dX2_carveAt_83 ?_
            refine g_iload_1 (pc := 84) C dX2_carveAt_84 ?_
            refine g_cM1Pv (pc := 85) C cs_X2_70 (k_X2_isSpan h13 hV a ha) ⟨Nat.le_of_ble_eq_true rfl, Nat.le_of_ble_eq_true rfl⟩ (by omega) (Nat.le_of_ble_eq_true rfl) ⟨Nat.le_of_ble_eq_true rfl, Nat.le_of_ble_eq_true rfl⟩ dX2_carveAt_85 ?_
            refine g_if_ne (pc := 88) (tgt := 95) C dX2_carveAt_88 (by decide) (by omega) (fun h88 => absurd h88 (by omega)) (fun _ => ?_)
            refine g_iconst (pc := 91) C dX2_carveAt_91 ?_
            refine g_goto (pc := 92) (tgt := 114) C dX2_carveAt_92 (by decide) ?_
            refine g_cM1Pv (pc := 114) C cs_X2_81 (k_X2_goesWell h13 1 (by omega)) ⟨Nat.le_of_ble_eq_true rfl, Nat.le_of_ble_eq_true rfl⟩ (by omega) (Nat.le_of_ble_eq_true rfl) ⟨Nat.le_of_ble_eq_true rfl, Nat.le_of_ble_eq_true rfl⟩ dX2_carveAt_114 ?_
            refine g_if_ne (pc := 117) (tgt := 122) C dX2_carveAt_117 (by decide) (by omega) (fun h117 => absurd h117 (by omega)) (fun _ => ?_)
            refine g_iconst (pc := 120) C dX2_carveAt_120 ?_
            refine g_iret (pc := 121) C (Nat.le_of_ble_eq_true rfl) (Nat.le_of_ble_eq_true rfl) dX2_carveAt_121 ?_
            exact ⟨rfl, by rw [hex]; rfl, by rw [hex]; rfl⟩
        · have hrg : ¬ (szp S ∧ (0 ≤ o ∧ o < 8) ∧ (0 ≤ B ∧ B % S = 0)) := fun h => qm h.2.2.2
          refine g_iload_2 (pc := 19) C dX2_carveAt_19 ?_
          refine g_iload_3 (pc := 20) C dX2_carveAt_20 ?_
          refine g_irem (pc := 21) C dX2_carveAt_21 (by omega) (by omega) ?_
          refine g_if_ne (pc := 22) (tgt := 29) C dX2_carveAt_22 (by decide) (by omega) (fun _ => ?_) (fun h22 => absurd h22 (by omega))
          by_cases hM : isM T a
          · have bM := bz_t hM
            have hex : exMa T a B S o = 2 := by rw [exMa, if_neg (fun h => h hM), if_pos hrg]
            refine g_iconst (pc := 29) C dX2_carveAt_29 ?_
            refine g_istore_5 (pc := 30) C dX2_carveAt_30 ?_
            refine g_aload_0 (pc := 32) C dX2_carveAt_32 ?_
            refine g_iload_1 (pc := 33) C dX2_carveAt_33 ?_
            refine g_cM1Pv (pc := 34) C cs_X2_70 (k_X2_isSpan h13 hV a ha) ⟨Nat.le_of_ble_eq_true rfl, Nat.le_of_ble_eq_true rfl⟩ (by omega) (Nat.le_of_ble_eq_true rfl) ⟨Nat.le_of_ble_eq_true rfl, Nat.le_of_ble_eq_true rfl⟩ dX2_carveAt_34 ?_
            refine g_if_eq (pc := 37) (tgt := 79) C dX2_carveAt_37 (by decide) (by omega) (fun h37 => absurd h37 (by omega)) (fun _ => ?_)
            refine g_iload_5 (pc := 40) C dX2_carveAt_40 ?_
            refine g_if_eq (pc := 42) (tgt := 79) C dX2_carveAt_42 (by decide) (by omega) (fun _ => ?_) (fun h42 => absurd h42 (by omega))
            refine g_iconst (pc := 79) C dX2_carveAt_79 ?_
            refine g_istore_6 (pc := 80) C dX2_carveAt_80 ?_
            refine g_aload_0 (pc := 82) C dX2_carveAt_82 ?_
            refine g_aload_0 (pc := 83) C dX2_carveAt_83 ?_
            refine g_iload_1 (pc := 84) C dX2_carveAt_84 ?_
            refine g_cM1Pv (pc := 85) C cs_X2_70 (k_X2_isSpan h13 hV a ha) ⟨Nat.le_of_ble_eq_true rfl, Nat.le_of_ble_eq_true rfl⟩ (by omega) (Nat.le_of_ble_eq_true rfl) ⟨Nat.le_of_ble_eq_true rfl, Nat.le_of_ble_eq_true rfl⟩ dX2_carveAt_85 ?_
            refine g_if_ne (pc := 88) (tgt := 95) C dX2_carveAt_88 (by decide) (by omega) (fun _ => ?_) (fun h88 => absurd h88 (by omega))
            refine g_iload_5 (pc := 95) C dX2_carveAt_95 ?_
            refine g_if_ne (pc := 97) (tgt := 104) C dX2_carveAt_97 (by decide) (by omega) (fun h97 => absurd h97 (by omega)) (fun _ => ?_)
            refine g_iconst (pc := 100) C dX2_carveAt_100 ?_
            refine g_goto (pc := 101) (tgt := 114) C dX2_carveAt_101 (by decide) ?_
            refine g_cM1Pv (pc := 114) C cs_X2_81 (k_X2_goesWell h13 2 (by omega)) ⟨Nat.le_of_ble_eq_true rfl, Nat.le_of_ble_eq_true rfl⟩ (by omega) (Nat.le_of_ble_eq_true rfl) ⟨Nat.le_of_ble_eq_true rfl, Nat.le_of_ble_eq_true rfl⟩ dX2_carveAt_114 ?_
            refine g_if_ne (pc := 117) (tgt := 122) C dX2_carveAt_117 (by decide) (by omega) (fun h117 => absurd h117 (by omega)) (fun _ => ?_)
            refine g_iconst (pc := 120) C dX2_carveAt_120 ?_
            refine g_iret (pc := 121) C (Nat.le_of_ble_eq_true rfl) (Nat.le_of_ble_eq_true rfl) dX2_carveAt_121 ?_
            exact ⟨rfl, by rw [hex]; rfl, by rw [hex]; rfl⟩
          · have bM := bz_f hM
            have hex : exMa T a B S o = 1 := by rw [exMa, if_pos hM]
            refine g_iconst (pc := 29) C dX2_carveAt_29 ?_
            refine g_istore_5 (pc := 30) C dX2_carveAt_30 ?_
            refine g_aload_0 (pc := 32) C dX2_carveAt_32 ?_
            refine g_iload_1 (pc := 33) C dX2_carveAt_33 ?_
            refine g_cM1Pv (pc := 34) C cs_X2_70 (k_X2_isSpan h13 hV a ha) ⟨Nat.le_of_ble_eq_true rfl, Nat.le_of_ble_eq_true rfl⟩ (by omega) (Nat.le_of_ble_eq_true rfl) ⟨Nat.le_of_ble_eq_true rfl, Nat.le_of_ble_eq_true rfl⟩ dX2_carveAt_34 ?_
            refine g_if_eq (pc := 37) (tgt := 79) C dX2_carveAt_37 (by decide) (by omega) (fun _ => ?_) (fun h37 => absurd h37 (by omega))
            refine g_iconst (pc := 79) C dX2_carveAt_79 ?_
            refine g_istore_6 (pc := 80) C dX2_carveAt_80 ?_
            refine g_aload_0 (pc := 82) C dX2_carveAt_82 ?_
            refine g_aload_0 (pc := 83) C dX2_carveAt_83 ?_
            refine g_iload_1 (pc := 84) C dX2_carveAt_84 ?_
            refine g_cM1Pv (pc := 85) C cs_X2_70 (k_X2_isSpan h13 hV a ha) ⟨Nat.le_of_ble_eq_true rfl, Nat.le_of_ble_eq_true rfl⟩ (by omega) (Nat.le_of_ble_eq_true rfl) ⟨Nat.le_of_ble_eq_true rfl, Nat.le_of_ble_eq_true rfl⟩ dX2_carveAt_85 ?_
            refine g_if_ne (pc := 88) (tgt := 95) C dX2_carveAt_88 (by decide) (by omega) (fun h88 => absurd h88 (by omega)) (fun _ => ?_)
            refine g_iconst (pc := 91) C dX2_carveAt_91 ?_
            refine g_goto (pc := 92) (tgt := 114) C dX2_carveAt_92 (by decide) ?_
            refine g_cM1Pv (pc := 114) C cs_X2_81 (k_X2_goesWell h13 1 (by omega)) ⟨Nat.le_of_ble_eq_true rfl, Nat.le_of_ble_eq_true rfl⟩ (by omega) (Nat.le_of_ble_eq_true rfl) ⟨Nat.le_of_ble_eq_true rfl, Nat.le_of_ble_eq_true rfl⟩ dX2_carveAt_114 ?_
            refine g_if_ne (pc := 117) (tgt := 122) C dX2_carveAt_117 (by decide) (by omega) (fun h117 => absurd h117 (by omega)) (fun _ => ?_)
            refine g_iconst (pc := 120) C dX2_carveAt_120 ?_
            refine g_iret (pc := 121) C (Nat.le_of_ble_eq_true rfl) (Nat.le_of_ble_eq_true rfl) dX2_carveAt_121 ?_
            exact ⟨rfl, by rw [hex]; rfl, by rw [hex]; rfl⟩
    · have bo := bz_f qo
      have hrg : ¬ (szp S ∧ (0 ≤ o ∧ o < 8) ∧ (0 ≤ B ∧ B % S = 0)) := fun h => qo h.2.1
      refine g_iload_3 (pc := 0) C dX2_carveAt_0 ?_
      refine g_cT1Pv (pc := 1) C cs_X2_64 (k_X2_isSize S hS) ⟨Nat.le_of_ble_eq_true rfl, Nat.le_of_ble_eq_true rfl⟩ (Nat.le_of_ble_eq_true rfl) ⟨Nat.le_of_ble_eq_true rfl, Nat.le_of_ble_eq_true rfl⟩ dX2_carveAt_1 ?_
      refine g_if_eq (pc := 4) (tgt := 29) C dX2_carveAt_4 (by decide) (by omega) (fun h4 => absurd h4 (by omega)) (fun _ => ?_)
      refine g_iload_4 (pc := 7) C dX2_carveAt_7 ?_
      refine g_cT1Pv (pc := 9) C cs_X2_67 (k_X2_isOwner o ho) ⟨Nat.le_of_ble_eq_true rfl, Nat.le_of_ble_eq_true rfl⟩ (Nat.le_of_ble_eq_true rfl) ⟨Nat.le_of_ble_eq_true rfl, Nat.le_of_ble_eq_true rfl⟩ dX2_carveAt_9 ?_
      refine g_if_eq (pc := 12) (tgt := 29) C dX2_carveAt_12 (by decide) (by omega) (fun _ => ?_) (fun h12 => absurd h12 (by omega))
      by_cases hM : isM T a
      · have bM := bz_t hM
        have hex : exMa T a B S o = 2 := by rw [exMa, if_neg (fun h => h hM), if_pos hrg]
        refine g_iconst (pc := 29) C dX2_carveAt_29 ?_
        refine g_istore_5 (pc := 30) C dX2_carveAt_30 ?_
        refine g_aload_0 (pc := 32) C dX2_carveAt_32 ?_
        refine g_iload_1 (pc := 33) C dX2_carveAt_33 ?_
        refine g_cM1Pv (pc := 34) C cs_X2_70 (k_X2_isSpan h13 hV a ha) ⟨Nat.le_of_ble_eq_true rfl, Nat.le_of_ble_eq_true rfl⟩ (by omega) (Nat.le_of_ble_eq_true rfl) ⟨Nat.le_of_ble_eq_true rfl, Nat.le_of_ble_eq_true rfl⟩ dX2_carveAt_34 ?_
        refine g_if_eq (pc := 37) (tgt := 79) C dX2_carveAt_37 (by decide) (by omega) (fun h37 => absurd h37 (by omega)) (fun _ => ?_)
        refine g_iload_5 (pc := 40) C dX2_carveAt_40 ?_
        refine g_if_eq (pc := 42) (tgt := 79) C dX2_carveAt_42 (by decide) (by omega) (fun _ => ?_) (fun h42 => absurd h42 (by omega))
        refine g_iconst (pc := 79) C dX2_carveAt_79 ?_
        refine g_istore_6 (pc := 80) C dX2_carveAt_80 ?_
        refine g_aload_0 (pc := 82) C dX2_carveAt_82 ?_
        refine g_aload_0 (pc := 83) C dX2_carveAt_83 ?_
        refine g_iload_1 (pc := 84) C dX2_carveAt_84 ?_
        refine g_cM1Pv (pc := 85) C cs_X2_70 (k_X2_isSpan h13 hV a ha) ⟨Nat.le_of_ble_eq_true rfl, Nat.le_of_ble_eq_true rfl⟩ (by omega) (Nat.le_of_ble_eq_true rfl) ⟨Nat.le_of_ble_eq_true rfl, Nat.le_of_ble_eq_true rfl⟩ dX2_carveAt_85 ?_
        refine g_if_ne (pc := 88) (tgt := 95) C dX2_carveAt_88 (by decide) (by omega) (fun _ => ?_) (fun h88 => absurd h88 (by omega))
        refine g_iload_5 (pc := 95) C dX2_carveAt_95 ?_
        refine g_if_ne (pc := 97) (tgt := 104) C dX2_carveAt_97 (by decide) (by omega) (fun h97 => absurd h97 (by omega)) (fun _ => ?_)
        refine g_iconst (pc := 100) C dX2_carveAt_100 ?_
        refine g_goto (pc := 101) (tgt := 114) C dX2_carveAt_101 (by decide) ?_
        refine g_cM1Pv (pc := 114) C cs_X2_81 (k_X2_goesWell h13 2 (by omega)) ⟨Nat.le_of_ble_eq_true rfl, Nat.le_of_ble_eq_true rfl⟩ (by omega) (Nat.le_of_ble_eq_true rfl) ⟨Nat.le_of_ble_eq_true rfl, Nat.le_of_ble_eq_true rfl⟩ dX2_carveAt_114 ?_
        refine g_if_ne (pc := 117) (tgt := 122) C dX2_carveAt_117 (by decide) (by omega) (fun h117 => absurd h117 (by omega)) (fun _ => ?_)
        refine g_iconst (pc := 120) C dX2_carveAt_120 ?_
        refine g_iret (pc := 121) C (Nat.le_of_ble_eq_true rfl) (Nat.le_of_ble_eq_true rfl) dX2_carveAt_121 ?_
        exact ⟨rfl, by rw [hex]; rfl, by rw [hex]; rfl⟩
      · have bM := bz_f hM
        have hex : exMa T a B S o = 1 := by rw [exMa, if_pos hM]
        refine g_iconst (pc := 29) C dX2_carveAt_29 ?_
        refine g_istore_5 (pc := 30) C dX2_carveAt_30 ?_
        refine g_aload_0 (pc := 32) C dX2_carveAt_32 ?_
        refine g_iload_1 (pc := 33) C dX2_carveAt_33 ?_
        refine g_cM1Pv (pc := 34) C cs_X2_70 (k_X2_isSpan h13 hV a ha) ⟨Nat.le_of_ble_eq_true rfl, Nat.le_of_ble_eq_true rfl⟩ (by omega) (Nat.le_of_ble_eq_true rfl) ⟨Nat.le_of_ble_eq_true rfl, Nat.le_of_ble_eq_true rfl⟩ dX2_carveAt_34 ?_
        refine g_if_eq (pc := 37) (tgt := 79) C dX2_carveAt_37 (by decide) (by omega) (fun _ => ?_) (fun h37 => absurd h37 (by omega))
        refine g_iconst (pc := 79) C dX2_carveAt_79 ?_
        refine g_istore_6 (pc := 80) C dX2_carveAt_80 ?_
        refine g_aload_0 (pc := 82) C dX2_carveAt_82 ?_
        refine g_aload_0 (pc := 83) C dX2_carveAt_83 ?_
        refine g_iload_1 (pc := 84) C dX2_carveAt_84 ?_
        refine g_cM1Pv (pc := 85) C cs_X2_70 (k_X2_isSpan h13 hV a ha) ⟨Nat.le_of_ble_eq_true rfl, Nat.le_of_ble_eq_true rfl⟩ (by omega) (Nat.le_of_ble_eq_true rfl) ⟨Nat.le_of_ble_eq_true rfl, Nat.le_of_ble_eq_true rfl⟩ dX2_carveAt_85 ?_
        refine g_if_ne (pc := 88) (tgt := 95) C dX2_carveAt_88 (by decide) (by omega) (fun h88 => absurd h88 (by omega)) (fun _ => ?_)
        refine g_iconst (pc := 91) C dX2_carveAt_91 ?_
        refine g_goto (pc := 92) (tgt := 114) C dX2_carveAt_92 (by decide) ?_
        refine g_cM1Pv (pc := 114) C cs_X2_81 (k_X2_goesWell h13 1 (by omega)) ⟨Nat.le_of_ble_eq_true rfl, Nat.le_of_ble_eq_true rfl⟩ (by omega) (Nat.le_of_ble_eq_true rfl) ⟨Nat.le_of_ble_eq_true rfl, Nat.le_of_ble_eq_true rfl⟩ dX2_carveAt_114 ?_
        refine g_if_ne (pc := 117) (tgt := 122) C dX2_carveAt_117 (by decide) (by omega) (fun h117 => absurd h117 (by omega)) (fun _ => ?_)
        refine g_iconst (pc := 120) C dX2_carveAt_120 ?_
        refine g_iret (pc := 121) C (Nat.le_of_ble_eq_true rfl) (Nat.le_of_ble_eq_true rfl) dX2_carveAt_121 ?_
        exact ⟨rfl, by rw [hex]; rfl, by rw [hex]; rfl⟩
  · have bS := bz_f qS
    have hrg : ¬ (szp S ∧ (0 ≤ o ∧ o < 8) ∧ (0 ≤ B ∧ B % S = 0)) := fun h => qS h.1
    refine g_iload_3 (pc := 0) C dX2_carveAt_0 ?_
    refine g_cT1Pv (pc := 1) C cs_X2_64 (k_X2_isSize S hS) ⟨Nat.le_of_ble_eq_true rfl, Nat.le_of_ble_eq_true rfl⟩ (Nat.le_of_ble_eq_true rfl) ⟨Nat.le_of_ble_eq_true rfl, Nat.le_of_ble_eq_true rfl⟩ dX2_carveAt_1 ?_
    refine g_if_eq (pc := 4) (tgt := 29) C dX2_carveAt_4 (by decide) (by omega) (fun _ => ?_) (fun h4 => absurd h4 (by omega))
    by_cases hM : isM T a
    · have bM := bz_t hM
      have hex : exMa T a B S o = 2 := by rw [exMa, if_neg (fun h => h hM), if_pos hrg]
      refine g_iconst (pc := 29) C dX2_carveAt_29 ?_
      refine g_istore_5 (pc := 30) C dX2_carveAt_30 ?_
      refine g_aload_0 (pc := 32) C dX2_carveAt_32 ?_
      refine g_iload_1 (pc := 33) C dX2_carveAt_33 ?_
      refine g_cM1Pv (pc := 34) C cs_X2_70 (k_X2_isSpan h13 hV a ha) ⟨Nat.le_of_ble_eq_true rfl, Nat.le_of_ble_eq_true rfl⟩ (by omega) (Nat.le_of_ble_eq_true rfl) ⟨Nat.le_of_ble_eq_true rfl, Nat.le_of_ble_eq_true rfl⟩ dX2_carveAt_34 ?_
      refine g_if_eq (pc := 37) (tgt := 79) C dX2_carveAt_37 (by decide) (by omega) (fun h37 => absurd h37 (by omega)) (fun _ => ?_)
      refine g_iload_5 (pc := 40) C dX2_carveAt_40 ?_
      refine g_if_eq (pc := 42) (tgt := 79) C dX2_carveAt_42 (by decide) (by omega) (fun _ => ?_) (fun h42 => absurd h42 (by omega))
      refine g_iconst (pc := 79) C dX2_carveAt_79 ?_
      refine g_istore_6 (pc := 80) C dX2_carveAt_80 ?_
      refine g_aload_0 (pc := 82) C dX2_carveAt_82 ?_
      refine g_aload_0 (pc := 83) C dX2_carveAt_83 ?_
      refine g_iload_1 (pc := 84) C dX2_carveAt_84 ?_
      refine g_cM1Pv (pc := 85) C cs_X2_70 (k_X2_isSpan h13 hV a ha) ⟨Nat.le_of_ble_eq_true rfl, Nat.le_of_ble_eq_true rfl⟩ (by omega) (Nat.le_of_ble_eq_true rfl) ⟨Nat.le_of_ble_eq_true rfl, Nat.le_of_ble_eq_true rfl⟩ dX2_carveAt_85 ?_
      refine g_if_ne (pc := 88) (tgt := 95) C dX2_carveAt_88 (by decide) (by omega) (fun _ => ?_) (fun h88 => absurd h88 (by omega))
      refine g_iload_5 (pc := 95) C dX2_carveAt_95 ?_
      refine g_if_ne (pc := 97) (tgt := 104) C dX2_carveAt_97 (by decide) (by omega) (fun h97 => absurd h97 (by omega)) (fun _ => ?_)
      refine g_iconst (pc := 100) C dX2_carveAt_100 ?_
      refine g_goto (pc := 101) (tgt := 114) C dX2_carveAt_101 (by decide) ?_
      refine g_cM1Pv (pc := 114) C cs_X2_81 (k_X2_goesWell h13 2 (by omega)) ⟨Nat.le_of_ble_eq_true rfl, Nat.le_of_ble_eq_true rfl⟩ (by omega) (Nat.le_of_ble_eq_true rfl) ⟨Nat.le_of_ble_eq_true rfl, Nat.le_of_ble_eq_true rfl⟩ dX2_carveAt_114 ?_
      refine g_if_ne (pc := 117) (tgt := 122) C dX2_carveAt_117 (by decide) (by omega) (fun h117 => absurd h117 (by omega)) (fun _ => ?_)
      refine g_iconst (pc := 120) C dX2_carveAt_120 ?_
      refine g_iret (pc := 121) C (Nat.le_of_ble_eq_true rfl) (Nat.le_of_ble_eq_true rfl) dX2_carveAt_121 ?_
      exact ⟨rfl, by rw [hex]; rfl, by rw [hex]; rfl⟩
    · have bM := bz_f hM
      have hex : exMa T a B S o = 1 := by rw [exMa, if_pos hM]
      refine g_iconst (pc := 29) C dX2_carveAt_29 ?_
      refine g_istore_5 (pc := 30) C dX2_carveAt_30 ?_
      refine g_aload_0 (pc := 32) C dX2_carveAt_32 ?_
      refine g_iload_1 (pc := 33) C dX2_carveAt_33 ?_
      refine g_cM1Pv (pc := 34) C cs_X2_70 (k_X2_isSpan h13 hV a ha) ⟨Nat.le_of_ble_eq_true rfl, Nat.le_of_ble_eq_true rfl⟩ (by omega) (Nat.le_of_ble_eq_true rfl) ⟨Nat.le_of_ble_eq_true rfl, Nat.le_of_ble_eq_true rfl⟩ dX2_carveAt_34 ?_
      refine g_if_eq (pc := 37) (tgt := 79) C dX2_carveAt_37 (by decide) (by omega) (fun _ => ?_) (fun h37 => absurd h37 (by omega))
      refine g_iconst (pc := 79) C dX2_carveAt_79 ?_
      refine g_istore_6 (pc := 80) C dX2_carveAt_80 ?_
      refine g_aload_0 (pc := 82) C dX2_carveAt_82 ?_
      refine g_aload_0 (pc := 83) C dX2_carveAt_83 ?_
      refine g_iload_1 (pc := 84) C dX2_carveAt_84 ?_
      refine g_cM1Pv (pc := 85) C cs_X2_70 (k_X2_isSpan h13 hV a ha) ⟨Nat.le_of_ble_eq_true rfl, Nat.le_of_ble_eq_true rfl⟩ (by omega) (Nat.le_of_ble_eq_true rfl) ⟨Nat.le_of_ble_eq_true rfl, Nat.le_of_ble_eq_true rfl⟩ dX2_carveAt_85 ?_
      refine g_if_ne (pc := 88) (tgt := 95) C dX2_carveAt_88 (by decide) (by omega) (fun h88 => absurd h88 (by omega)) (fun _ => ?_)
      refine g_iconst (pc := 91) C dX2_carveAt_91 ?_
      refine g_goto (pc := 92) (tgt := 114) C dX2_carveAt_92 (by decide) ?_
      refine g_cM1Pv (pc := 114) C cs_X2_81 (k_X2_goesWell h13 1 (by omega)) ⟨Nat.le_of_ble_eq_true rfl, Nat.le_of_ble_eq_true rfl⟩ (by omega) (Nat.le_of_ble_eq_true rfl) ⟨Nat.le_of_ble_eq_true rfl, Nat.le_of_ble_eq_true rfl⟩ dX2_carveAt_114 ?_
      refine g_if_ne (pc := 117) (tgt := 122) C dX2_carveAt_117 (by decide) (by omega) (fun h117 => absurd h117 (by omega)) (fun _ => ?_)
      refine g_iconst (pc := 120) C dX2_carveAt_120 ?_
      refine g_iret (pc := 121) C (Nat.le_of_ble_eq_true rfl) (Nat.le_of_ble_eq_true rfl) dX2_carveAt_121 ?_
      exact ⟨rfl, by rw [hex]; rfl, by rw [hex]; rfl⟩
