theorem k_X1_spans {l : Launch} {cs : CSt} {np : Nat} {ad : Nat → Nat} {T : MT} (hV : VC np T) : KD l cs yX1_spans (Cond.code yX1_spans cX1_spans 6 (some .int) :: GW) 7 0 0 [.ref (ad 0)] np ad T 0 (some (.int (zI (spN (T 1) 60)))) (np, ad, T) := by
  have hV0 := hV.1
  refine KC_of (cc := cX1_spans) (nL := 6) (rt := (some .int)) (by decide) (by simp [grf_cat, cat_int, cat_ref]) (by simp) ?_
  intro p e s m args below meth c A C hE hin
  refine g_eq (lv2 := [some (.ref (ad 0)), none, none, none, none, none]) rfl rfl rfl ?_
  refine g_iconst (pc := 0) C dX1_spans_0 ?_
  refine g_istore_1 (pc := 1) C dX1_spans_1 ?_
  refine g_aload_0 (pc := 2) C dX1_spans_2 ?_
  refine g_get_X1_18 (pc := 3) C (by omega) dX1_spans_3 ?_
  refine g_astore_2 (pc := 6) C dX1_spans_6 ?_
  refine g_aload_2 (pc := 7) C dX1_spans_7 ?_
  refine g_alen1 (pc := 8) C (by omega) dX1_spans_8 ?_
  refine g_istore_3 (pc := 9) C dX1_spans_9 ?_
  refine g_iconst (pc := 10) C dX1_spans_10 ?_
  refine g_istore_4 (pc := 11) C dX1_spans_11 ?_
  refine g_loop (σ := Option Value) (Tf := fun _ _ => T) (lvf := fun j z => [some (.ref (ad 0)), some (.int (zI (spN (T 1) j))), some (.ref (ad 1)), some (.int (zI 60)), some (.int (zI (j : Int))), z]) (inv := fun _ _ => True) (N := 60) 0 none trivial (by omega) (fun j z _ hN ih => ?_)
  refine g_iload_4 (pc := 13) C dX1_spans_13 ?_
  refine g_iload_3 (pc := 15) C dX1_spans_15 ?_
  refine g_icmp_ge (pc := 16) (tgt := 39) C dX1_spans_16 (by decide) (by omega) (by omega) (fun h16 => ?_) (fun h16 => ?_)
  · refine g_iload_1 (pc := 39) C dX1_spans_39 ?_
    refine g_iret (pc := 40) C (Nat.le_of_ble_eq_true rfl) (Nat.le_of_ble_eq_true rfl) dX1_spans_40 ?_
    obtain rfl : j = 60 := by omega
    exact ⟨rfl, rfl, rfl⟩
  · have e9 : spN (T 1) (j + 1) = spN (T 1) j + (if T 1 j ≠ 0 then 1 else 0) := rfl
    refine g_aload_2 (pc := 19) C dX1_spans_19 ?_
    refine g_iload_4 (pc := 20) C dX1_spans_20 ?_
    first | refine g_aaldn (pc := 22) C (by omega) (by omega) dX1_spans_22 ?_ | refine g_aald (pc := 22) C (by omega) (by omega) dX1_spans_22 ?_
    refine g_sstore_5 (pc := 23) C dX1_spans_23 ?_
    rcases mkd_or T j with ⟨m1, m2⟩ | ⟨m1, m2⟩
    · rw [m2]
      refine g_sload_5 (pc := 25) C dX1_spans_25 ?_
      refine g_ifnull (pc := 27) (tgt := 33) C dX1_spans_27 (by decide) (fun h27 => ?_) (fun h27 => ?_)
      · refine g_iinc_4 (pc := 33) C dX1_spans_33 ?_
        refine g_goto (pc := 36) (tgt := 13) C dX1_spans_36 (by decide) ?_
        rw [if_neg (by omega)] at e9
        exact g_eq rfl (by rw [e9, Int.add_zero]; rfl) rfl (ih _ (by omega) trivial)
      · omega
    · rw [m2]
      refine g_sload_5 (pc := 25) C dX1_spans_25 ?_
      refine g_ifnull (pc := 27) (tgt := 33) C dX1_spans_27 (by decide) (fun h27 => ?_) (fun h27 => ?_)
      · omega
      · refine g_iinc_1 (pc := 30) C dX1_spans_30 ?_
        refine g_iinc_4 (pc := 33) C dX1_spans_33 ?_
        refine g_goto (pc := 36) (tgt := 13) C dX1_spans_36 (by decide) ?_
        rw [if_pos m1] at e9
        exact g_eq rfl (by rw [e9]; rfl) rfl (ih _ (by omega) trivial)
theorem k_X1_inTheWay {l : Launch} {cs : CSt} {np : Nat} {ad : Nat → Nat} {T : MT} (hV : VC np T) (a S : Int) (ha : -2147483648 ≤ a ∧ a < 2147483648) (hS : -2147483648 ≤ S ∧ S < 2147483648) : KD l cs yX1_inTheWay (Cond.code yX1_inTheWay cX1_inTheWay 8 (some .int) :: GW) 7 8 48 [.ref (ad 0), .int (zI a), .int (zI S)] np ad T (if fsp T a < 0 then 1 else if szp S then 0 else 2) (some (.int (zI (if S < T 16 a.toNat then itwC T a S else -1)))) (np, ad, T) := by
  have hV0 := hV.1
  refine KC_of (cc := cX1_inTheWay) (nL := 8) (rt := (some .int)) (by decide) (by simp [grf_cat, cat_int, cat_ref]) (by simp) ?_
  intro p e s m args below meth c A C hE hin
  refine g_eq (lv2 := [some (.ref (ad 0)), some (.int (zI a)), some (.int (zI S)), none, none, none, none, none]) rfl rfl rfl ?_
  refine g_aload_0 (pc := 0) C dX1_inTheWay_0 ?_
  refine g_iload_1 (pc := 1) C dX1_inTheWay_1 ?_
  refine g_cY1Dv (pc := 2) C hE cs_X1_43 (k_X1_spanOf a (by omega) ha) ⟨Nat.le_of_ble_eq_true rfl, Nat.le_of_ble_eq_true rfl⟩ (by omega) (Nat.le_of_ble_eq_true rfl) ⟨Nat.le_of_ble_eq_true rfl, Nat.le_of_ble_eq_true rfl⟩ ⟨Nat.le_of_ble_eq_true rfl, Nat.le_of_ble_eq_true rfl⟩ (fun hx2 => ?_) dX1_inTheWay_2 (fun hn2 => ?_)
  · have h2 := exq_ne hx2
    exact dEx_of (c := 1) (by rw [if_pos (by omega)]) (by decide) (by rw [exq_f h2])
  · have h2 := exq_eq hn2 (by decide)
    rcases fsp_or T a with ⟨q1, q2⟩ | ⟨q1, q2⟩
    · omega
    have hV1 := hV.s q2
    rw [q1]
    refine g_sstore_3 (pc := 5) C dX1_inTheWay_5 ?_
    refine g_iload_2 (pc := 6) C dX1_inTheWay_6 ?_
    refine g_cT1Dn (pc := 7) C hE cs_X1_47 (k_X1_checkSize S hS) ⟨Nat.le_of_ble_eq_true rfl, Nat.le_of_ble_eq_true rfl⟩ (Nat.le_of_ble_eq_true rfl) ⟨Nat.le_of_ble_eq_true rfl, Nat.le_of_ble_eq_true rfl⟩ ⟨Nat.le_of_ble_eq_true rfl, Nat.le_of_ble_eq_true rfl⟩ (fun hx7 => ?_) dX1_inTheWay_7 (fun hn7 => ?_)
    · exact dEx_of (c := 2) (by rw [if_neg (by omega), if_neg (exq_ne hx7)]) (by decide) (by rw [exq_f (exq_ne hx7)])
    · have h3 := exq_eq hn7 (by decide)
      have h4 := szp_bd h3
      refine g_iload_2 (pc := 10) C dX1_inTheWay_10 ?_
      refine g_sload_3 (pc := 11) C dX1_inTheWay_11 ?_
      first | refine g_getn_X1_114 (pc := 12) C (by omega) dX1_inTheWay_12 ?_ | refine g_get_X1_114 (pc := 12) C (by omega) dX1_inTheWay_12 ?_
      refine g_icmp_lt (pc := 15) (tgt := 20) C dX1_inTheWay_15 (by decide) (by omega) (by omega) (fun h15 => ?_) (fun h15 => ?_)
      · refine g_bipush (pc := 20) C dX1_inTheWay_20 (by decide) ?_
        refine g_istore_4 (pc := 22) C dX1_inTheWay_22 ?_
        refine g_sload_3 (pc := 24) C dX1_inTheWay_24 ?_
        first | refine g_getn_X1_101 (pc := 25) C (by omega) dX1_inTheWay_25 ?_ | refine g_get_X1_101 (pc := 25) C (by omega) dX1_inTheWay_25 ?_
        refine g_istore_5 (pc := 28) C dX1_inTheWay_28 ?_
        refine g_iconst (pc := 30) C dX1_inTheWay_30 ?_
        refine g_istore_6 (pc := 31) C dX1_inTheWay_31 ?_
        refine g_loop (σ := (Int × Int) × Option Value) (Tf := fun _ _ => T) (lvf := fun j z => [some (.ref (ad 0)), some (.int (zI a)), some (.int (zI S)), some (grf ad a), some (.int (zI z.1.1)), some (.int (zI z.1.2)), some (.int (zI (j : Int))), z.2]) (inv := fun j z => itI T a S j = z.1 ∧ 0 ≤ z.1.1 ∧ z.1.1 ≤ 60 ∧ 0 ≤ z.1.2 ∧ z.1.2 ≤ 8192) (N := 4096) 0 ((60, T 15 a.toNat), none) ⟨rfl, by simp, by simp, hV1.2.2.2.2.2.2.2.1, by show T 15 a.toNat ≤ 8192; omega⟩ (by omega) (fun j z hi hN ih => ?_)
        obtain ⟨⟨le, at_⟩, z8⟩ := z
        dsimp only at hi ih ⊢
        obtain ⟨i1, i2, i3, i4, i5⟩ := hi
        have e9 : itI T a S (j + 1) = itS T a S (itI T a S j) := rfl
        rw [i1] at e9
        unfold itS at e9
        dsimp only at e9
        have hcn := cntC_bd T a at_ S 60
        refine g_iload_6 (pc := 33) C dX1_inTheWay_33 ?_
        refine g_sipush (pc := 35) C dX1_inTheWay_35 (by decide) ?_
        refine g_icmp_ge (pc := 38) (tgt := 113) C dX1_inTheWay_38 (by decide) (by omega) (by omega) (fun h38 => ?_) (fun h38 => ?_)
        · refine g_iload_4 (pc := 113) C dX1_inTheWay_113 ?_
          refine g_iret (pc := 115) C (Nat.le_of_ble_eq_true rfl) (Nat.le_of_ble_eq_true rfl) dX1_inTheWay_115 ?_
          obtain rfl : j = 4096 := by omega
          exact ⟨by rw [if_neg (by omega), if_pos h3], by rw [if_pos h15, itwC_eq, i1], rfl⟩
        · refine g_iload_5 (pc := 41) C dX1_inTheWay_41 ?_
          refine g_sload_3 (pc := 43) C dX1_inTheWay_43 ?_
          refine g_cS0Pv (pc := 44) C cs_X1_104 (k_X0_end a (by omega)) ⟨Nat.le_of_ble_eq_true rfl, Nat.le_of_ble_eq_true rfl⟩ (by omega) (Nat.le_of_ble_eq_true rfl) ⟨Nat.le_of_ble_eq_true rfl, Nat.le_of_ble_eq_true rfl⟩ dX1_inTheWay_44 ?_
          refine g_icmp_ge (pc := 47) (tgt := 113) C dX1_inTheWay_47 (by decide) (by omega) (by omega) (fun h47 => ?_) (fun h47 => ?_)
          · refine g_iload_4 (pc := 113) C dX1_inTheWay_113 ?_
            refine g_iret (pc := 115) C (Nat.le_of_ble_eq_true rfl) (Nat.le_of_ble_eq_true rfl) dX1_inTheWay_115 ?_
            have e10 := itI_fix T a S j (4096 - j) (by rw [i1]; exact Or.inl h47)
            rw [show j + (4096 - j) = 4096 by omega, i1] at e10
            exact ⟨by rw [if_neg (by omega), if_pos h3], by rw [if_pos h15, itwC_eq, e10], rfl⟩
          · refine g_iload_4 (pc := 50) C dX1_inTheWay_50 ?_
            refine g_if_le (pc := 52) (tgt := 113) C dX1_inTheWay_52 (by decide) (by omega) (fun h52 => ?_) (fun h52 => ?_)
            · refine g_iload_4 (pc := 113) C dX1_inTheWay_113 ?_
              refine g_iret (pc := 115) C (Nat.le_of_ble_eq_true rfl) (Nat.le_of_ble_eq_true rfl) dX1_inTheWay_115 ?_
              have e10 := itI_fix T a S j (4096 - j) (by rw [i1]; exact Or.inr h52)
              rw [show j + (4096 - j) = 4096 by omega, i1] at e10
              exact ⟨by rw [if_neg (by omega), if_pos h3], by rw [if_pos h15, itwC_eq, e10], rfl⟩
            · rw [if_neg (by omega)] at e9
              have hcb := chC_bd T a at_ 60
              refine g_iload_4 (pc := 55) C dX1_inTheWay_55 ?_
              refine g_aload_0 (pc := 57) C dX1_inTheWay_57 ?_
              refine g_sload_3 (pc := 58) C dX1_inTheWay_58 ?_
              refine g_iload_5 (pc := 59) C dX1_inTheWay_59 ?_
              refine g_iload_2 (pc := 61) C dX1_inTheWay_61 ?_
              refine g_cY3Pv (pc := 62) C cs_X1_88 (k_X1_countChildren hV a at_ S (by omega) (by omega)) ⟨Nat.le_of_ble_eq_true rfl, Nat.le_of_ble_eq_true rfl⟩ (by omega) (Nat.le_of_ble_eq_true rfl) ⟨Nat.le_of_ble_eq_true rfl, Nat.le_of_ble_eq_true rfl⟩ dX1_inTheWay_62 ?_
              refine g_min (pc := 65) C ml_X1_163 ini_java_lang_Math ⟨Nat.le_of_ble_eq_true rfl, Nat.le_of_ble_eq_true rfl, Nat.le_of_ble_eq_true rfl, Nat.le_of_ble_eq_true rfl⟩ (by omega) (by omega) dX1_inTheWay_65 ?_
              refine g_istore_4 (pc := 68) C dX1_inTheWay_68 ?_
              refine g_aload_0 (pc := 70) C dX1_inTheWay_70 ?_
              refine g_sload_3 (pc := 71) C dX1_inTheWay_71 ?_
              refine g_iload_5 (pc := 72) C dX1_inTheWay_72 ?_
              refine g_cY2Pv (pc := 74) C cs_X1_168 (k_X1_childAt hV a at_ (by omega) (by omega)) ⟨Nat.le_of_ble_eq_true rfl, Nat.le_of_ble_eq_true rfl⟩ (by omega) (Nat.le_of_ble_eq_true rfl) ⟨Nat.le_of_ble_eq_true rfl, Nat.le_of_ble_eq_true rfl⟩ dX1_inTheWay_74 ?_
              refine g_sstore_7 (pc := 77) C dX1_inTheWay_77 ?_
              refine g_sload_7 (pc := 79) C dX1_inTheWay_79 ?_
              refine g_ifnull (pc := 81) (tgt := 101) C dX1_inTheWay_81 (by decide) (fun h81 => ?_) (fun h81 => ?_)
              · refine g_iload_5 (pc := 101) C dX1_inTheWay_101 ?_
                refine g_iload_2 (pc := 103) C dX1_inTheWay_103 ?_
                refine g_iadd (pc := 104) C dX1_inTheWay_104 ?_
                refine g_istore_5 (pc := 105) C dX1_inTheWay_105 ?_
                refine g_iinc_6 (pc := 107) C dX1_inTheWay_107 ?_
                refine g_goto (pc := 110) (tgt := 33) C dX1_inTheWay_110 (by decide) ?_
                rw [if_neg (by omega)] at e9
                exact ih ((min le (cntC T a at_ S 60), at_ + S), _) (by omega) ⟨e9, (by omega : 0 ≤ min le (cntC T a at_ S 60)), (by omega : min le (cntC T a at_ S 60) ≤ 60), (by omega : 0 ≤ at_ + S), (by omega : at_ + S ≤ 8192)⟩
              · have hcc : isS T (chC T a at_ 60) := ⟨h81, by have := hcb.2.1; omega, (hcb.2.2 h81).1⟩
                have hcs := hV.s hcc
                refine g_sload_7 (pc := 84) C dX1_inTheWay_84 ?_
                first | refine g_getn_X1_114 (pc := 86) C (by omega) dX1_inTheWay_86 ?_ | refine g_get_X1_114 (pc := 86) C (by omega) dX1_inTheWay_86 ?_
                refine g_iload_2 (pc := 89) C dX1_inTheWay_89 ?_
                refine g_icmp_le (pc := 90) (tgt := 101) C dX1_inTheWay_90 (by decide) (by omega) (by omega) (fun h90 => ?_) (fun h90 => ?_)
                · refine g_iload_5 (pc := 101) C dX1_inTheWay_101 ?_
                  refine g_iload_2 (pc := 103) C dX1_inTheWay_103 ?_
                  refine g_iadd (pc := 104) C dX1_inTheWay_104 ?_
                  refine g_istore_5 (pc := 105) C dX1_inTheWay_105 ?_
                  refine g_iinc_6 (pc := 107) C dX1_inTheWay_107 ?_
                  refine g_goto (pc := 110) (tgt := 33) C dX1_inTheWay_110 (by decide) ?_
                  rw [if_neg (by omega)] at e9
                  exact ih ((min le (cntC T a at_ S 60), at_ + S), _) (by omega) ⟨e9, (by omega : 0 ≤ min le (cntC T a at_ S 60)), (by omega : min le (cntC T a at_ S 60) ≤ 60), (by omega : 0 ≤ at_ + S), (by omega : at_ + S ≤ 8192)⟩
                · refine g_sload_7 (pc := 93) C dX1_inTheWay_93 ?_
                  refine g_cS0Pv (pc := 95) C cs_X1_104 (k_X0_end _ (by omega)) ⟨Nat.le_of_ble_eq_true rfl, Nat.le_of_ble_eq_true rfl⟩ (by omega) (Nat.le_of_ble_eq_true rfl) ⟨Nat.le_of_ble_eq_true rfl, Nat.le_of_ble_eq_true rfl⟩ dX1_inTheWay_95 ?_
                  refine g_goto (pc := 98) (tgt := 105) C dX1_inTheWay_98 (by decide) ?_
                  refine g_istore_5 (pc := 105) C dX1_inTheWay_105 ?_
                  refine g_iinc_6 (pc := 107) C dX1_inTheWay_107 ?_
                  refine g_goto (pc := 110) (tgt := 33) C dX1_inTheWay_110 (by decide) ?_
                  rw [if_pos (by omega)] at e9
                  exact ih ((min le (cntC T a at_ S 60), T 15 (chC T a at_ 60).toNat + T 16 (chC T a at_ 60).toNat), _) (by omega) ⟨e9, (by omega : 0 ≤ min le (cntC T a at_ S 60)), (by omega : min le (cntC T a at_ S 60) ≤ 60), (by omega : 0 ≤ T 15 (chC T a at_ 60).toNat + T 16 (chC T a at_ 60).toNat), (by omega : T 15 (chC T a at_ 60).toNat + T 16 (chC T a at_ 60).toNat ≤ 8192)⟩
      · refine g_iconst (pc := 18) C dX1_inTheWay_18 ?_
        refine g_iret (pc := 19) C (Nat.le_of_ble_eq_true rfl) (Nat.le_of_ble_eq_true rfl) dX1_inTheWay_19 ?_
        exact ⟨by rw [if_neg (by omega), if_pos h3], by rw [if_neg (by omega)], rfl⟩
theorem k_X1_nearest {l : Launch} {cs : CSt} {np : Nat} {ad : Nat → Nat} {T : MT} (hV : VC np T) (a : Int) (ha : -2147483648 ≤ a ∧ a < 2147483648) : KD l cs yX1_nearest (Cond.code yX1_nearest cX1_nearest 5 (some .int) :: GW) 7 8 48 [.ref (ad 0), .int (zI a)] np ad T (exq (0 ≤ a ∧ a < 4096) 1) (some (.int (zI (nsI T a 60)))) (np, ad, T) := by
  have hV0 := hV.1
  refine KC_of (cc := cX1_nearest) (nL := 5) (rt := (some .int)) (by decide) (by simp [grf_cat, cat_int, cat_ref]) (by simp) ?_
  intro p e s m args below meth c A C hE hin
  refine g_eq (lv2 := [some (.ref (ad 0)), some (.int (zI a)), none, none, none]) rfl rfl rfl ?_
  refine g_iload_1 (pc := 0) C dX1_nearest_0 ?_
  refine g_cT1Dn (pc := 1) C hE cs_X1_141 (k_X1_checkAddress a ha) ⟨Nat.le_of_ble_eq_true rfl, Nat.le_of_ble_eq_true rfl⟩ (Nat.le_of_ble_eq_true rfl) ⟨Nat.le_of_ble_eq_true rfl, Nat.le_of_ble_eq_true rfl⟩ ⟨Nat.le_of_ble_eq_true rfl, Nat.le_of_ble_eq_true rfl⟩ (fun hx1 => ?_) dX1_nearest_1 (fun hn1 => ?_)
  · exact dEx_of (c := 1) (exq_f (exq_ne hx1)) (by decide) (by rw [exq_f (exq_ne hx1)])
  · have h2 := exq_eq hn1 (by decide)
    refine g_aload_0 (pc := 4) C dX1_nearest_4 ?_
    refine g_get_X1_14 (pc := 5) C (by omega) dX1_nearest_5 ?_
    refine g_sstore_2 (pc := 8) C dX1_nearest_8 ?_
    refine g_iconst (pc := 9) C dX1_nearest_9 ?_
    refine g_istore_3 (pc := 10) C dX1_nearest_10 ?_
    refine g_loop (σ := Option Value) (Tf := fun _ _ => T) (lvf := fun j z => [some (.ref (ad 0)), some (.int (zI a)), some (grf ad (nsI T a j)), some (.int (zI (j : Int))), z]) (inv := fun _ _ => True) (N := 60) 0 none trivial (by omega) (fun j z _ hN ih => ?_)
    have hs := nsI_isS (T := T) (by omega) a j
    have hs1 := hV.s hs
    have e9 : nsI T a (j + 1) = if 0 ≤ chC T (nsI T a j) a 60 then chC T (nsI T a j) a 60 else nsI T a j := rfl
    refine g_iload_3 (pc := 11) C dX1_nearest_11 ?_
    refine g_bipush (pc := 12) C dX1_nearest_12 (by decide) ?_
    refine g_icmp_ge (pc := 14) (tgt := 44) C dX1_nearest_14 (by decide) (by omega) (by omega) (fun h14 => ?_) (fun h14 => ?_)
    · refine g_sload_2 (pc := 44) C dX1_nearest_44 ?_
      first | refine g_getn_X1_154 (pc := 45) C (by omega) dX1_nearest_45 ?_ | refine g_get_X1_154 (pc := 45) C (by omega) dX1_nearest_45 ?_
      refine g_iret (pc := 48) C (Nat.le_of_ble_eq_true rfl) (Nat.le_of_ble_eq_true rfl) dX1_nearest_48 ?_
      obtain rfl : j = 60 := by omega
      exact ⟨hn1, by rw [hs1.2.2.2.2.1], rfl⟩
    · refine g_aload_0 (pc := 17) C dX1_nearest_17 ?_
      refine g_sload_2 (pc := 18) C dX1_nearest_18 ?_
      refine g_iload_1 (pc := 19) C dX1_nearest_19 ?_
      refine g_cY2Pv (pc := 20) C cs_X1_168 (k_X1_childAt hV _ a (by omega) ha) ⟨Nat.le_of_ble_eq_true rfl, Nat.le_of_ble_eq_true rfl⟩ (by omega) (Nat.le_of_ble_eq_true rfl) ⟨Nat.le_of_ble_eq_true rfl, Nat.le_of_ble_eq_true rfl⟩ dX1_nearest_20 ?_
      refine g_sstore_4 (pc := 23) C dX1_nearest_23 ?_
      refine g_sload_4 (pc := 25) C dX1_nearest_25 ?_
      refine g_ifnonnull (pc := 27) (tgt := 35) C dX1_nearest_27 (by decide) (fun h27 => ?_) (fun h27 => ?_)
      · refine g_sload_4 (pc := 35) C dX1_nearest_35 ?_
        refine g_sstore_2 (pc := 37) C dX1_nearest_37 ?_
        refine g_iinc_3 (pc := 38) C dX1_nearest_38 ?_
        refine g_goto (pc := 41) (tgt := 11) C dX1_nearest_41 (by decide) ?_
        rw [if_pos h27] at e9
        exact g_eq rfl (by rw [e9]; rfl) rfl (ih _ (by omega) trivial)
      · refine g_sload_2 (pc := 30) C dX1_nearest_30 ?_
        first | refine g_getn_X1_154 (pc := 31) C (by omega) dX1_nearest_31 ?_ | refine g_get_X1_154 (pc := 31) C (by omega) dX1_nearest_31 ?_
        refine g_iret (pc := 34) C (Nat.le_of_ble_eq_true rfl) (Nat.le_of_ble_eq_true rfl) dX1_nearest_34 ?_
        have e10 := nsI_fix T a j (60 - j) (by omega)
        rw [show j + (60 - j) = 60 by omega] at e10
        exact ⟨hn1, by rw [hs1.2.2.2.2.1, e10], rfl⟩
theorem k_X1_owned {l : Launch} {cs : CSt} {np : Nat} {ad : Nat → Nat} {T : MT} (hV : VC np T) (o : Int) (ho : -2147483648 ≤ o ∧ o < 2147483648) : KD l cs yX1_owned (Cond.code yX1_owned cX1_owned 7 (some .int) :: GW) 7 8 48 [.ref (ad 0), .int (zI o)] np ad T (exq (0 ≤ o ∧ o < 8) 2) (some (.int (zI (ownS T o 60)))) (np, ad, T) := by
  have hV0 := hV.1
  refine KC_of (cc := cX1_owned) (nL := 7) (rt := (some .int)) (by decide) (by simp [grf_cat, cat_int, cat_ref]) (by simp) ?_
  intro p e s m args below meth c A C hE hin
  refine g_eq (lv2 := [some (.ref (ad 0)), some (.int (zI o)), none, none, none, none, none]) rfl rfl rfl ?_
  refine g_iload_1 (pc := 0) C dX1_owned_0 ?_
  refine g_cT1Dn (pc := 1) C hE cs_X1_51 (k_X1_checkOwner o ho) ⟨Nat.le_of_ble_eq_true rfl, Nat.le_of_ble_eq_true rfl⟩ (Nat.le_of_ble_eq_true rfl) ⟨Nat.le_of_ble_eq_true rfl, Nat.le_of_ble_eq_true rfl⟩ ⟨Nat.le_of_ble_eq_true rfl, Nat.le_of_ble_eq_true rfl⟩ (fun hx1 => ?_) dX1_owned_1 (fun hn1 => ?_)
  · exact dEx_of (c := 2) (exq_f (exq_ne hx1)) (by decide) (by rw [exq_f (exq_ne hx1)])
  · have h2 := exq_eq hn1 (by decide)
    refine g_iconst (pc := 4) C dX1_owned_4 ?_
    refine g_istore_2 (pc := 5) C dX1_owned_5 ?_
    refine g_aload_0 (pc := 6) C dX1_owned_6 ?_
    refine g_get_X1_18 (pc := 7) C (by omega) dX1_owned_7 ?_
    refine g_astore_3 (pc := 10) C dX1_owned_10 ?_
    refine g_aload_3 (pc := 11) C dX1_owned_11 ?_
    refine g_alen1 (pc := 12) C (by omega) dX1_owned_12 ?_
    refine g_istore_4 (pc := 13) C dX1_owned_13 ?_
    refine g_iconst (pc := 15) C dX1_owned_15 ?_
    refine g_istore_5 (pc := 16) C dX1_owned_16 ?_
    refine g_loop (σ := Option Value) (Tf := fun _ _ => T) (lvf := fun j z => [some (.ref (ad 0)), some (.int (zI o)), some (.int (zI (ownS T o j))), some (.ref (ad 1)), some (.int (zI 60)), some (.int (zI (j : Int))), z]) (inv := fun _ _ => True) (N := 60) 0 none trivial (by omega) (fun j z _ hN ih => ?_)
    refine g_iload_5 (pc := 18) C dX1_owned_18 ?_
    refine g_iload_4 (pc := 20) C dX1_owned_20 ?_
    refine g_icmp_ge (pc := 22) (tgt := 60) C dX1_owned_22 (by decide) (by omega) (by omega) (fun h22 => ?_) (fun h22 => ?_)
    · refine g_iload_2 (pc := 60) C dX1_owned_60 ?_
      refine g_iret (pc := 61) C (Nat.le_of_ble_eq_true rfl) (Nat.le_of_ble_eq_true rfl) dX1_owned_61 ?_
      obtain rfl : j = 60 := by omega
      exact ⟨hn1, rfl, rfl⟩
    · have hj := hV.2 j (by omega)
      have e9 : ownS T o (j + 1) = ownS T o j + (if T 1 j ≠ 0 ∧ T 17 j = o then outC T j else 0) := rfl
      refine g_aload_3 (pc := 25) C dX1_owned_25 ?_
      refine g_iload_5 (pc := 26) C dX1_owned_26 ?_
      first | refine g_aaldn (pc := 28) C (by omega) (by omega) dX1_owned_28 ?_ | refine g_aald (pc := 28) C (by omega) (by omega) dX1_owned_28 ?_
      refine g_sstore_6 (pc := 29) C dX1_owned_29 ?_
      rcases mkd_or T j with ⟨m1, m2⟩ | ⟨m1, m2⟩
      · rw [m2]
        refine g_sload_6 (pc := 31) C dX1_owned_31 ?_
        refine g_ifnull (pc := 33) (tgt := 54) C dX1_owned_33 (by decide) (fun h33 => ?_) (fun h33 => ?_)
        · refine g_iinc_5 (pc := 54) C dX1_owned_54 ?_
          refine g_goto (pc := 57) (tgt := 18) C dX1_owned_57 (by decide) ?_
          rw [if_neg (by omega)] at e9
          exact g_eq rfl (by rw [e9, Int.add_zero]; rfl) rfl (ih _ (by omega) trivial)
        · omega
      · rw [m2]
        refine g_sload_6 (pc := 31) C dX1_owned_31 ?_
        refine g_ifnull (pc := 33) (tgt := 54) C dX1_owned_33 (by decide) (fun h33 => ?_) (fun h33 => ?_)
        · omega
        · refine g_sload_6 (pc := 36) C dX1_owned_36 ?_
          first | refine g_getn_X1_125 (pc := 38) C (by omega) dX1_owned_38 ?_ | refine g_get_X1_125 (pc := 38) C (by omega) dX1_owned_38 ?_
          refine g_iload_1 (pc := 41) C dX1_owned_41 ?_
          refine g_icmp_ne (pc := 42) (tgt := 54) C dX1_owned_42 (by decide) (by omega) (by omega) (fun h42 => ?_) (fun h42 => ?_)
          · refine g_iinc_5 (pc := 54) C dX1_owned_54 ?_
            refine g_goto (pc := 57) (tgt := 18) C dX1_owned_57 (by decide) ?_
            rw [if_neg (by omega)] at e9
            exact g_eq rfl (by rw [e9, Int.add_zero]; rfl) rfl (ih _ (by omega) trivial)
          · refine g_iload_2 (pc := 45) C dX1_owned_45 ?_
            refine g_aload_0 (pc := 46) C dX1_owned_46 ?_
            refine g_sload_6 (pc := 47) C dX1_owned_47 ?_
            refine g_cY1Pv (pc := 49) C cs_X1_157 (k_X1_outsideChildren hV (j : Int) (by omega)) ⟨Nat.le_of_ble_eq_true rfl, Nat.le_of_ble_eq_true rfl⟩ (by omega) (Nat.le_of_ble_eq_true rfl) ⟨Nat.le_of_ble_eq_true rfl, Nat.le_of_ble_eq_true rfl⟩ dX1_owned_49 ?_
            refine g_iadd (pc := 52) C dX1_owned_52 ?_
            refine g_istore_2 (pc := 53) C dX1_owned_53 ?_
            refine g_iinc_5 (pc := 54) C dX1_owned_54 ?_
            refine g_goto (pc := 57) (tgt := 18) C dX1_owned_57 (by decide) ?_
            rw [if_pos (by omega)] at e9
            exact g_eq rfl (by rw [e9]; rfl) rfl (ih _ (by omega) trivial)
theorem k_X1_blocks {l : Launch} {cs : CSt} {np : Nat} {ad : Nat → Nat} {T : MT} (hV : VC np T) (hA : VA T) (o : Int) (ho : -2147483648 ≤ o ∧ o < 2147483648) : KD l cs yX1_blocks (Cond.code yX1_blocks cX1_blocks 6 (some .int) :: GW) 7 8 48 [.ref (ad 0), .int (zI o)] np ad T (exq (0 ≤ o ∧ o < 8) 2) (some (.int (zI ((blS (lyR T) o 4096).1 + cbkC 4096 (blS (lyR T) o 4096).2)))) (np, ad, lyR T) := by
  have hV0 := hV.1
  have hVl := hV.lyR
  have hAl := hA.lyR hV
  refine KC_of (cc := cX1_blocks) (nL := 6) (rt := (some .int)) (by decide) (by simp [grf_cat, cat_int, cat_ref]) (by simp) ?_
  intro p e s m args below meth c A C hE hin
  refine g_eq (lv2 := [some (.ref (ad 0)), some (.int (zI o)), none, none, none, none]) rfl rfl rfl ?_
  refine g_iload_1 (pc := 0) C dX1_blocks_0 ?_
  refine g_cT1Dn (pc := 1) C hE cs_X1_51 (k_X1_checkOwner o ho) ⟨Nat.le_of_ble_eq_true rfl, Nat.le_of_ble_eq_true rfl⟩ (Nat.le_of_ble_eq_true rfl) ⟨Nat.le_of_ble_eq_true rfl, Nat.le_of_ble_eq_true rfl⟩ ⟨Nat.le_of_ble_eq_true rfl, Nat.le_of_ble_eq_true rfl⟩ (fun hx1 => ?_) dX1_blocks_1 (fun hn1 => ?_)
  · exact dEx_of (c := 2) (exq_f (exq_ne hx1)) (by decide) (by rw [exq_f (exq_ne hx1)])
  · have h2 := exq_eq hn1 (by decide)
    refine g_aload_0 (pc := 4) C dX1_blocks_4 ?_
    refine g_cY0Pn (pc := 5) C cs_X1_172 (k_X1_layRow hV hA) ⟨Nat.le_of_ble_eq_true rfl, Nat.le_of_ble_eq_true rfl⟩ (by omega) (Nat.le_of_ble_eq_true rfl) ⟨Nat.le_of_ble_eq_true rfl, Nat.le_of_ble_eq_true rfl⟩ dX1_blocks_5 ?_
    refine g_iconst (pc := 8) C dX1_blocks_8 ?_
    refine g_istore_2 (pc := 9) C dX1_blocks_9 ?_
    refine g_iconst (pc := 10) C dX1_blocks_10 ?_
    refine g_istore_3 (pc := 11) C dX1_blocks_11 ?_
    refine g_iconst (pc := 12) C dX1_blocks_12 ?_
    refine g_istore_4 (pc := 13) C dX1_blocks_13 ?_
    generalize lyR T = U at hVl hAl ⊢
    refine g_loop (σ := Option Value) (Tf := fun _ _ => U) (lvf := fun j z => [some (.ref (ad 0)), some (.int (zI o)), some (.int (zI (blS U o j).1)), some (.int (zI (blS U o j).2)), some (.int (zI (j : Int))), z]) (inv := fun _ _ => True) (N := 4096) 0 none trivial (by omega) (fun j z _ hN ih => ?_)
    have hb := blS_bd U o j
    have e9 : blS U o (j + 1) = if 0 ≤ fsp U (U 3 j) ∧ U 17 (fsp U (U 3 j)).toNat = o then blS U o j else ((blS U o j).1 + cbkC j (blS U o j).2, (j : Int) + 1) := rfl
    refine g_iload_4 (pc := 15) C dX1_blocks_15 ?_
    refine g_aload_0 (pc := 17) C dX1_blocks_17 ?_
    refine g_get_X1_36 (pc := 18) C (by omega) dX1_blocks_18 ?_
    refine g_alen3 (pc := 21) C (by omega) dX1_blocks_21 ?_
    refine g_icmp_ge (pc := 22) (tgt := 72) C dX1_blocks_22 (by decide) (by omega) (by omega) (fun h22 => ?_) (fun h22 => ?_)
    · obtain rfl : j = 4096 := by omega
      generalize blS U o 4096 = w at hb ⊢
      refine g_iload_2 (pc := 72) C dX1_blocks_72 ?_
      refine g_iload_3 (pc := 73) C dX1_blocks_73 ?_
      refine g_aload_0 (pc := 74) C dX1_blocks_74 ?_
      refine g_get_X1_36 (pc := 75) C (by omega) dX1_blocks_75 ?_
      refine g_alen3 (pc := 78) C (by omega) dX1_blocks_78 ?_
      refine g_cT2Pv (pc := 79) C cs_X1_175 (k_X1_countBlocks _ _ (by omega)) ⟨Nat.le_of_ble_eq_true rfl, Nat.le_of_ble_eq_true rfl⟩ (Nat.le_of_ble_eq_true rfl) ⟨Nat.le_of_ble_eq_true rfl, Nat.le_of_ble_eq_true rfl⟩ dX1_blocks_79 ?_
      refine g_iadd (pc := 82) C dX1_blocks_82 ?_
      refine g_iret (pc := 83) C (Nat.le_of_ble_eq_true rfl) (Nat.le_of_ble_eq_true rfl) dX1_blocks_83 ?_
      exact ⟨hn1, by rw [cbkC_eq], rfl⟩
    · have hj := hAl.2 j (by omega)
      generalize blS U o j = w at hb e9 ih ⊢
      refine g_aload_0 (pc := 25) C dX1_blocks_25 ?_
      refine g_aload_0 (pc := 26) C dX1_blocks_26 ?_
      refine g_get_X1_36 (pc := 27) C (by omega) dX1_blocks_27 ?_
      refine g_iload_4 (pc := 30) C dX1_blocks_30 ?_
      first | refine g_aldn_3 (pc := 32) C (by omega) (by omega) dX1_blocks_32 ?_ | refine g_ald_3 (pc := 32) C (by omega) (by omega) dX1_blocks_32 ?_
      refine g_cY1Pv (pc := 33) C cs_X1_151 (k_X1_findSpan _ (by omega) (by omega)) ⟨Nat.le_of_ble_eq_true rfl, Nat.le_of_ble_eq_true rfl⟩ (by omega) (Nat.le_of_ble_eq_true rfl) ⟨Nat.le_of_ble_eq_true rfl, Nat.le_of_ble_eq_true rfl⟩ dX1_blocks_33 ?_
      refine g_sstore_5 (pc := 36) C dX1_blocks_36 ?_
      refine g_sload_5 (pc := 38) C dX1_blocks_38 ?_
      refine g_ifnull (pc := 40) (tgt := 52) C dX1_blocks_40 (by decide) (fun h40 => ?_) (fun h40 => ?_)
      · refine g_iload_2 (pc := 52) C dX1_blocks_52 ?_
        refine g_iload_3 (pc := 53) C dX1_blocks_53 ?_
        refine g_iload_4 (pc := 54) C dX1_blocks_54 ?_
        refine g_cT2Pv (pc := 56) C cs_X1_175 (k_X1_countBlocks _ _ (by omega)) ⟨Nat.le_of_ble_eq_true rfl, Nat.le_of_ble_eq_true rfl⟩ (Nat.le_of_ble_eq_true rfl) ⟨Nat.le_of_ble_eq_true rfl, Nat.le_of_ble_eq_true rfl⟩ dX1_blocks_56 ?_
        refine g_iadd (pc := 59) C dX1_blocks_59 ?_
        refine g_istore_2 (pc := 60) C dX1_blocks_60 ?_
        refine g_iload_4 (pc := 61) C dX1_blocks_61 ?_
        refine g_iconst (pc := 63) C dX1_blocks_63 ?_
        refine g_iadd (pc := 64) C dX1_blocks_64 ?_
        refine g_istore_3 (pc := 65) C dX1_blocks_65 ?_
        refine g_iinc_4 (pc := 66) C dX1_blocks_66 ?_
        refine g_goto (pc := 69) (tgt := 15) C dX1_blocks_69 (by decide) ?_
        rw [if_neg (by omega)] at e9
        exact g_eq rfl (by rw [e9, cbkC_eq]; rfl) rfl (ih _ (by omega) trivial)
      · have hcc : isS U (fsp U (U 3 j)) := by
          rcases fsp_or U (U 3 j) with ⟨q1, q2⟩ | ⟨q1, q2⟩
          · omega
          · rw [q1]; exact q2
        have hcs := hVl.s hcc
        refine g_sload_5 (pc := 43) C dX1_blocks_43 ?_
        first | refine g_getn_X1_125 (pc := 45) C (by omega) dX1_blocks_45 ?_ | refine g_get_X1_125 (pc := 45) C (by omega) dX1_blocks_45 ?_
        refine g_iload_1 (pc := 48) C dX1_blocks_48 ?_
        refine g_icmp_eq (pc := 49) (tgt := 66) C dX1_blocks_49 (by decide) (by omega) (by omega) (fun h49 => ?_) (fun h49 => ?_)
        · refine g_iinc_4 (pc := 66) C dX1_blocks_66 ?_
          refine g_goto (pc := 69) (tgt := 15) C dX1_blocks_69 (by decide) ?_
          rw [if_pos ⟨h40, h49⟩] at e9
          exact g_eq rfl (by rw [e9]; rfl) rfl (ih _ (by omega) trivial)
        · refine g_iload_2 (pc := 52) C dX1_blocks_52 ?_
          refine g_iload_3 (pc := 53) C dX1_blocks_53 ?_
          refine g_iload_4 (pc := 54) C dX1_blocks_54 ?_
          refine g_cT2Pv (pc := 56) C cs_X1_175 (k_X1_countBlocks _ _ (by omega)) ⟨Nat.le_of_ble_eq_true rfl, Nat.le_of_ble_eq_true rfl⟩ (Nat.le_of_ble_eq_true rfl) ⟨Nat.le_of_ble_eq_true rfl, Nat.le_of_ble_eq_true rfl⟩ dX1_blocks_56 ?_
          refine g_iadd (pc := 59) C dX1_blocks_59 ?_
          refine g_istore_2 (pc := 60) C dX1_blocks_60 ?_
          refine g_iload_4 (pc := 61) C dX1_blocks_61 ?_
          refine g_iconst (pc := 63) C dX1_blocks_63 ?_
          refine g_iadd (pc := 64) C dX1_blocks_64 ?_
          refine g_istore_3 (pc := 65) C dX1_blocks_65 ?_
          refine g_iinc_4 (pc := 66) C dX1_blocks_66 ?_
          refine g_goto (pc := 69) (tgt := 15) C dX1_blocks_69 (by decide) ?_
          rw [if_neg (fun q => h49 q.2)] at e9
          exact g_eq rfl (by rw [e9, cbkC_eq]; rfl) rfl (ih _ (by omega) trivial)
theorem k_X1_pass {l : Launch} {cs : CSt} {np : Nat} {ad : Nat → Nat} {T : MT} (h13 : 13 ≤ np) (hA : VA T) (d : Int) (hd : -2147483648 ≤ d ∧ d < 2147483648) : KD l cs yX1_pass (Cond.code yX1_pass cX1_pass 5 (some .int) :: GW) 7 8 48 [.ref (ad 0), .int (zI d)] np ad T (if ¬ (1 ≤ d ∧ d ≤ 1000) then 2 else if 100000 - T 0 5 < d then 3 else 0) (some (.int (zI (psN T (T 0 5 + d) 4096)))) (np, ad, mst (mst (pasT T (T 0 5 + d) 4096) 0 5 (T 0 5 + d)) 0 4 (T 0 4 - psN T (T 0 5 + d) 4096)) := by
  have hA0 := hA.1
  refine KC_of (cc := cX1_pass) (nL := 5) (rt := (some .int)) (by decide) (by simp [grf_cat, cat_int, cat_ref]) (by simp) ?_
  intro p e s m args below meth c A C hE hin
  refine g_eq (lv2 := [some (.ref (ad 0)), some (.int (zI d)), none, none, none]) rfl rfl rfl ?_
  refine g_iload_1 (pc := 0) C dX1_pass_0 ?_
  refine g_iconst (pc := 1) C dX1_pass_1 ?_
  refine g_icmp_lt (pc := 2) (tgt := 12) C dX1_pass_2 (by decide) (by omega) (by omega) (fun h2 => ?_) (fun h2 => ?_)
  · refine g_throw_2 (pc := 12) C hE (text := "the days are not 1 to 1000") (by decide) dX1_pass_12 dX1_pass_15 dX1_pass_16 dX1_pass_18 dX1_pass_21 ⟨Nat.le_of_ble_eq_true rfl, Nat.le_of_ble_eq_true rfl, Nat.le_of_ble_eq_true rfl, Nat.le_of_ble_eq_true rfl⟩ ⟨Nat.le_of_ble_eq_true rfl, Nat.le_of_ble_eq_true rfl⟩ ?_
    exact dEx_of (c := 2) (by rw [if_pos (by omega)]) (by decide) rfl
  · refine g_iload_1 (pc := 5) C dX1_pass_5 ?_
    refine g_sipush (pc := 6) C dX1_pass_6 (by decide) ?_
    refine g_icmp_le (pc := 9) (tgt := 22) C dX1_pass_9 (by decide) (by omega) (by omega) (fun h9 => ?_) (fun h9 => ?_)
    · refine g_iload_1 (pc := 22) C dX1_pass_22 ?_
      refine g_ldci (pc := 23) C dX1_pass_23 ct_X1_148 ?_
      rw [show (100000 : Int32) = zI 100000 by decide]
      refine g_aload_0 (pc := 25) C dX1_pass_25 ?_
      refine g_get_X1_33 (pc := 26) C (by omega) dX1_pass_26 ?_
      refine g_isub (pc := 29) C dX1_pass_29 ?_
      refine g_icmp_le (pc := 30) (tgt := 43) C dX1_pass_30 (by decide) (by omega) (by omega) (fun h30 => ?_) (fun h30 => ?_)
      · obtain ⟨D, hD⟩ : ∃ D, D = T 0 5 + d := ⟨_, rfl⟩
        rw [← hD]
        refine g_aload_0 (pc := 43) C dX1_pass_43 ?_
        refine g_dup (pc := 44) C dX1_pass_44 rfl ?_
        refine g_get_X1_33 (pc := 45) C (by omega) dX1_pass_45 ?_
        refine g_iload_1 (pc := 48) C dX1_pass_48 ?_
        refine g_iadd (pc := 49) C dX1_pass_49 ?_
        rw [← hD]
        refine g_put_X1_33 (pc := 50) C (by omega) dX1_pass_50 ?_
        refine g_iconst (pc := 53) C dX1_pass_53 ?_
        refine g_istore_2 (pc := 54) C dX1_pass_54 ?_
        refine g_iconst (pc := 55) C dX1_pass_55 ?_
        refine g_istore_3 (pc := 56) C dX1_pass_56 ?_
        have hU : ∀ j, mst (pasT T D j) 0 5 D = pasT (mst T 0 5 D) D j := by
          intro j
          funext r i
          unfold mst pasT
          by_cases h1 : r = 0 ∧ i = 5
          · obtain ⟨rfl, rfl⟩ := h1
            simp
          · simp [h1]
        rw [hU]
        have hU2 : ∀ i, mst T 0 5 D 2 i = T 2 i := fun i => mst_r (by decide)
        have hU4 : ∀ j, pasT (mst T 0 5 D) D j 0 4 = T 0 4 := fun j => by rw [pasT_r (Or.inl (by decide)), mst_ne (by decide)]
        have hU5 : ∀ j, pasT (mst T 0 5 D) D j 0 5 = D := fun j => by rw [pasT_r (Or.inl (by decide)), mst_eq]
        have hps : ∀ j, psN (mst T 0 5 D) D j = psN T D j := by
          intro j
          induction j with
          | zero => rfl
          | succ j ih => unfold psN; rw [ih, hU2]
        rw [← hps]
        refine g_eq (T2 := pasT (mst T 0 5 D) D 0) (pasT_0 _ _).symm rfl rfl ?_
        obtain ⟨U, hUU⟩ : ∃ U, U = mst T 0 5 D := ⟨_, rfl⟩
        rw [← hUU] at hU2 hU4 hU5 hps ⊢
        refine g_loop (σ := Option Value) (Tf := fun j _ => pasT U D j) (lvf := fun j z => [some (.ref (ad 0)), some (.int (zI d)), some (.int (zI (psN U D j))), some (.int (zI (j : Int))), z]) (inv := fun _ _ => True) (N := 4096) 0 none trivial (by omega) (fun j z _ hN ih => ?_)
        have hpb := psN_bd U D j
        have e9 : psN U D (j + 1) = psN U D j + (if U 2 j ≠ 0 ∧ U 2 j ≠ -1 ∧ U 2 j ≤ D then 1 else 0) := rfl
        refine g_iload_3 (pc := 57) C dX1_pass_57 ?_
        refine g_aload_0 (pc := 58) C dX1_pass_58 ?_
        refine g_get_X1_26 (pc := 59) C (by omega) dX1_pass_59 ?_
        refine g_alen2 (pc := 62) C (by omega) dX1_pass_62 ?_
        refine g_icmp_ge (pc := 63) (tgt := 110) C dX1_pass_63 (by decide) (by omega) (by omega) (fun h63 => ?_) (fun h63 => ?_)
        · obtain rfl : j = 4096 := by omega
          generalize hpp : psN U D 4096 = P at hpb ⊢
          refine g_aload_0 (pc := 110) C dX1_pass_110 ?_
          refine g_dup (pc := 111) C dX1_pass_111 rfl ?_
          refine g_get_X1_30 (pc := 112) C (by omega) dX1_pass_112 ?_
          rw [hU4]
          refine g_iload_2 (pc := 115) C dX1_pass_115 ?_
          refine g_isub (pc := 116) C dX1_pass_116 ?_
          refine g_put_X1_30 (pc := 117) C (by omega) dX1_pass_117 ?_
          refine g_iload_2 (pc := 120) C dX1_pass_120 ?_
          refine g_iret (pc := 121) C (Nat.le_of_ble_eq_true rfl) (Nat.le_of_ble_eq_true rfl) dX1_pass_121 ?_
          exact ⟨by rw [if_neg (by omega), if_neg (by omega)], rfl, rfl⟩
        · have hj := hA.2 j (by omega)
          have hr : pasT U D j 2 j = U 2 j := pasT_r (Or.inr (Nat.le_refl _))
          rw [← hU2] at hj
          refine g_aload_0 (pc := 66) C dX1_pass_66 ?_
          refine g_get_X1_26 (pc := 67) C (by omega) dX1_pass_67 ?_
          refine g_iload_3 (pc := 70) C dX1_pass_70 ?_
          first | refine g_aldn_2 (pc := 71) C (by omega) (by omega) dX1_pass_71 ?_ | refine g_ald_2 (pc := 71) C (by omega) (by omega) dX1_pass_71 ?_
          rw [hr]
          refine g_istore_4 (pc := 72) C dX1_pass_72 ?_
          refine g_iload_4 (pc := 74) C dX1_pass_74 ?_
          refine g_if_eq (pc := 76) (tgt := 104) C dX1_pass_76 (by decide) (by omega) (fun h76 => ?_) (fun h76 => ?_)
          · refine g_iinc_3 (pc := 104) C dX1_pass_104 ?_
            refine g_goto (pc := 107) (tgt := 57) C dX1_pass_107 (by decide) ?_
            rw [if_neg (by omega)] at e9
            exact g_eq (pasT_n _ _ _ (by omega)) (by rw [e9, Int.add_zero]; rfl) rfl (ih _ (by omega) trivial)
          · refine g_iload_4 (pc := 79) C dX1_pass_79 ?_
            refine g_iconst (pc := 81) C dX1_pass_81 ?_
            refine g_icmp_eq (pc := 82) (tgt := 104) C dX1_pass_82 (by decide) (by omega) (by omega) (fun h82 => ?_) (fun h82 => ?_)
            · refine g_iinc_3 (pc := 104) C dX1_pass_104 ?_
              refine g_goto (pc := 107) (tgt := 57) C dX1_pass_107 (by decide) ?_
              rw [if_neg (by omega)] at e9
              exact g_eq (pasT_n _ _ _ (by omega)) (by rw [e9, Int.add_zero]; rfl) rfl (ih _ (by omega) trivial)
            · refine g_iload_4 (pc := 85) C dX1_pass_85 ?_
              refine g_aload_0 (pc := 87) C dX1_pass_87 ?_
              refine g_get_X1_33 (pc := 88) C (by omega) dX1_pass_88 ?_
              rw [hU5]
              refine g_icmp_gt (pc := 91) (tgt := 104) C dX1_pass_91 (by decide) (by omega) (by omega) (fun h91 => ?_) (fun h91 => ?_)
              · refine g_iinc_3 (pc := 104) C dX1_pass_104 ?_
                refine g_goto (pc := 107) (tgt := 57) C dX1_pass_107 (by decide) ?_
                rw [if_neg (by omega)] at e9
                exact g_eq (pasT_n _ _ _ (by omega)) (by rw [e9, Int.add_zero]; rfl) rfl (ih _ (by omega) trivial)
              · refine g_aload_0 (pc := 94) C dX1_pass_94 ?_
                refine g_get_X1_26 (pc := 95) C (by omega) dX1_pass_95 ?_
                refine g_iload_3 (pc := 98) C dX1_pass_98 ?_
                refine g_iconst (pc := 99) C dX1_pass_99 ?_
                first | refine g_astn_2 (pc := 100) C (by omega) (by omega) dX1_pass_100 ?_ | refine g_ast_2 (pc := 100) C (by omega) (by omega) dX1_pass_100 ?_
                refine g_iinc_2 (pc := 101) C dX1_pass_101 ?_
                refine g_iinc_3 (pc := 104) C dX1_pass_104 ?_
                refine g_goto (pc := 107) (tgt := 57) C dX1_pass_107 (by decide) ?_
                rw [if_pos (by omega)] at e9
                exact g_eq (pasT_y _ _ _ (by omega)) (by rw [e9]; rfl) rfl (ih _ (by omega) trivial)
      · refine g_throw_3 (pc := 33) C hE (text := "the day would be above 100000") (by decide) dX1_pass_33 dX1_pass_36 dX1_pass_37 dX1_pass_39 dX1_pass_42 ⟨Nat.le_of_ble_eq_true rfl, Nat.le_of_ble_eq_true rfl, Nat.le_of_ble_eq_true rfl, Nat.le_of_ble_eq_true rfl⟩ ⟨Nat.le_of_ble_eq_true rfl, Nat.le_of_ble_eq_true rfl⟩ ?_
        exact dEx_of (c := 3) (by rw [if_neg (by omega), if_pos (by omega)]) (by decide) rfl
    · refine g_throw_2 (pc := 12) C hE (text := "the days are not 1 to 1000") (by decide) dX1_pass_12 dX1_pass_15 dX1_pass_16 dX1_pass_18 dX1_pass_21 ⟨Nat.le_of_ble_eq_true rfl, Nat.le_of_ble_eq_true rfl, Nat.le_of_ble_eq_true rfl, Nat.le_of_ble_eq_true rfl⟩ ⟨Nat.le_of_ble_eq_true rfl, Nat.le_of_ble_eq_true rfl⟩ ?_
      exact dEx_of (c := 2) (by rw [if_pos (by omega)]) (by decide) rfl
