theorem k_X1_laySpan {l : Launch} {cs : CSt} {np : Nat} {ad : Nat → Nat} {T : MT} (hV : VC np T) (x : Int) (hx : isS T x) : KD l cs yX1_laySpan (Cond.code yX1_laySpan cX1_laySpan 3 none :: GW) 1 0 0 [.ref (ad 0), grf ad x] np ad T 0 none (np, ad, lyS T x.toNat) := by
  have hV0 := hV.s hx
  refine KC_of (cc := cX1_laySpan) (nL := 3) (rt := none) (by decide) (by simp [grf_cat, cat_int, cat_ref]) (by simp) ?_
  intro p e s m args below meth c A C hE hin
  refine g_eq (lv2 := [some (.ref (ad 0)), some (grf ad x), none]) rfl rfl rfl ?_
  refine g_sload_1 (pc := 0) C dX1_laySpan_0 ?_
  first | refine g_getn_X1_101 (pc := 1) C (by omega) dX1_laySpan_1 ?_ | refine g_get_X1_101 (pc := 1) C (by omega) dX1_laySpan_1 ?_
  refine g_istore_2 (pc := 4) C dX1_laySpan_4 ?_
  refine g_eq (T2 := lyP T x.toNat 0) (lv2 := [some (.ref (ad 0)), some (grf ad x), some (.int (zI (T 15 x.toNat + (0 : Nat))))]) (lyP_0 _ _).symm (by rw [Int.natCast_zero, Int.add_zero]) rfl ?_
  refine g_loop (σ := Unit) (Tf := fun j _ => lyP T x.toNat j) (lvf := fun j _ => [some (.ref (ad 0)), some (grf ad x), some (.int (zI (T 15 x.toNat + (j : Int))))]) (inv := fun j _ => (j : Int) ≤ T 16 x.toNat) (N := 4096) 0 () (by omega) (by omega) (fun j _ hi hN ih => ?_)
  have e8 : (T 15 x.toNat + (j : Int)).toNat = (T 15 x.toNat).toNat + j := by omega
  refine g_iload_2 (pc := 5) C dX1_laySpan_5 ?_
  refine g_sload_1 (pc := 6) C dX1_laySpan_6 ?_
  refine g_cS0Pv (pc := 7) C cs_X1_104 (k_X0_end x (by omega)) ⟨Nat.le_of_ble_eq_true rfl, Nat.le_of_ble_eq_true rfl⟩ (by omega) (Nat.le_of_ble_eq_true rfl) ⟨Nat.le_of_ble_eq_true rfl, Nat.le_of_ble_eq_true rfl⟩ dX1_laySpan_7 ?_
  rw [lyP_r (by decide), lyP_r (by decide)]
  refine g_icmp_ge (pc := 10) (tgt := 36) C dX1_laySpan_10 (by decide) (by omega) (by omega) (fun h10 => ?_) (fun h10 => ?_)
  · refine g_vret (pc := 36) C (Nat.le_of_ble_eq_true rfl) (Nat.le_of_ble_eq_true rfl) dX1_laySpan_36 ?_
    exact ⟨rfl, rfl, by rw [lyP_e _ _ _ (by omega)]⟩
  · refine g_iload_2 (pc := 13) C dX1_laySpan_13 ?_
    refine g_cT1Pv (pc := 14) C cs_X1_136 (k_X1_isAddress _ (by omega)) ⟨Nat.le_of_ble_eq_true rfl, Nat.le_of_ble_eq_true rfl⟩ (Nat.le_of_ble_eq_true rfl) ⟨Nat.le_of_ble_eq_true rfl, Nat.le_of_ble_eq_true rfl⟩ dX1_laySpan_14 ?_
    refine g_if_eq (pc := 17) (tgt := 36) C dX1_laySpan_17 (by decide) (by split <;> omega) (fun h17 => ?_) (fun h17 => ?_)
    · rw [if_pos (by omega)] at h17
      omega
    · refine g_aload_0 (pc := 20) C dX1_laySpan_20 ?_
      refine g_get_X1_36 (pc := 21) C (by omega) dX1_laySpan_21 ?_
      refine g_iload_2 (pc := 24) C dX1_laySpan_24 ?_
      refine g_sload_1 (pc := 25) C dX1_laySpan_25 ?_
      first | refine g_getn_X1_154 (pc := 26) C (by omega) dX1_laySpan_26 ?_ | refine g_get_X1_154 (pc := 26) C (by omega) dX1_laySpan_26 ?_
      rw [lyP_r (by decide)]
      first | refine g_astn_3 (pc := 29) C (by omega) (by omega) dX1_laySpan_29 ?_ | refine g_ast_3 (pc := 29) C (by omega) (by omega) dX1_laySpan_29 ?_
      rw [e8, lyP_s _ _ _ (by omega)]
      refine g_iinc_2 (pc := 30) C dX1_laySpan_30 ?_
      refine g_goto (pc := 33) (tgt := 5) C dX1_laySpan_33 (by decide) ?_
      exact g_eq rfl (by rw [Int.add_assoc]; rfl) rfl (ih () (by omega) (by omega))
theorem k_X1_layRow {l : Launch} {cs : CSt} {np : Nat} {ad : Nat → Nat} {T : MT} (hV : VC np T) (hA : VA T) : KD l cs yX1_layRow (Cond.code yX1_layRow cX1_layRow 6 none :: GW) 2 0 0 [.ref (ad 0)] np ad T 0 none (np, ad, lyR T) := by
  have hV0 := hV.1
  have hA0 := hA.1
  refine KC_of (cc := cX1_layRow) (nL := 6) (rt := none) (by decide) (by simp [grf_cat, cat_int, cat_ref]) (by simp) ?_
  intro p e s m args below meth c A C hE hin
  refine g_eq (lv2 := [some (.ref (ad 0)), none, none, none, none, none]) rfl rfl rfl ?_
  refine g_aload_0 (pc := 0) C dX1_layRow_0 ?_
  refine g_get_X1_39 (pc := 1) C (by omega) dX1_layRow_1 ?_
  refine g_if_eq (pc := 4) (tgt := 8) C dX1_layRow_4 (by decide) (by omega) (fun h4 => ?_) (fun h4 => ?_)
  · refine g_sipush (pc := 8) C dX1_layRow_8 (by decide) ?_
    refine g_istore_1 (pc := 11) C dX1_layRow_11 ?_
    refine g_loop (σ := Option Value × Option Value × Option Value × Option Value) (Tf := fun k _ => lyK T k) (lvf := fun k z => [some (.ref (ad 0)), some (.int (zI (4096 / 2 ^ k))), z.1, z.2.1, z.2.2.1, z.2.2.2]) (inv := fun _ _ => True) (N := 13) 0 (none, none, none, none) trivial (by omega) (fun k z hi hN ih => ?_)
    obtain ⟨z1, z2, z3, z4⟩ := z
    have hw := p2_div hN
    have hVk : VC np (lyK T k) := hV.ly (fun r i h => lyK_r h)
    refine g_iload_1 (pc := 12) C dX1_layRow_12 ?_
    refine g_iconst (pc := 13) C dX1_layRow_13 ?_
    refine g_icmp_lt (pc := 14) (tgt := 73) C dX1_layRow_14 (by decide) (by omega) (by omega) (fun h14 => ?_) (fun h14 => ?_)
    · obtain rfl : k = 13 := by omega
      refine g_aload_0 (pc := 73) C dX1_layRow_73 ?_
      refine g_iconst (pc := 74) C dX1_layRow_74 ?_
      refine g_put_X1_39 (pc := 75) C (by omega) (by omega) dX1_layRow_75 ?_
      refine g_vret (pc := 78) C (Nat.le_of_ble_eq_true rfl) (Nat.le_of_ble_eq_true rfl) dX1_layRow_78 ?_
      exact ⟨rfl, rfl, by rw [lyR, if_pos h4]⟩
    · refine g_aload_0 (pc := 17) C dX1_layRow_17 ?_
      refine g_get_X1_18 (pc := 18) C (by omega) dX1_layRow_18 ?_
      refine g_astore_2 (pc := 21) C dX1_layRow_21 ?_
      refine g_aload_2 (pc := 22) C dX1_layRow_22 ?_
      refine g_alen1 (pc := 23) C (by omega) dX1_layRow_23 ?_
      refine g_istore_3 (pc := 24) C dX1_layRow_24 ?_
      refine g_iconst (pc := 25) C dX1_layRow_25 ?_
      refine g_istore_4 (pc := 26) C dX1_layRow_26 ?_
      refine g_loop (σ := Option Value) (Tf := fun j _ => lyJ (lyK T k) (4096 / 2 ^ k) j) (lvf := fun j z => [some (.ref (ad 0)), some (.int (zI (4096 / 2 ^ k))), some (.ref (ad 1)), some (.int (zI 60)), some (.int (zI (j : Int))), z]) (inv := fun _ _ => True) (N := 60) 0 z4 trivial (by omega) (fun j z _ hN2 ih2 => ?_)
      have hJr : ∀ r i, r ≠ 3 → lyJ (lyK T k) (4096 / 2 ^ k) j r i = T r i := fun r i h => by rw [lyJ_r h, lyK_r h]
      have hVj : VC np (lyJ (lyK T k) (4096 / 2 ^ k) j) := hV.ly hJr
      refine g_iload_4 (pc := 28) C dX1_layRow_28 ?_
      refine g_iload_3 (pc := 30) C dX1_layRow_30 ?_
      refine g_icmp_ge (pc := 31) (tgt := 66) C dX1_layRow_31 (by decide) (by omega) (by omega) (fun h31 => ?_) (fun h31 => ?_)
      · obtain rfl : j = 60 := by omega
        refine g_iload_1 (pc := 66) C dX1_layRow_66 ?_
        refine g_iconst (pc := 67) C dX1_layRow_67 ?_
        refine g_idiv (pc := 68) C dX1_layRow_68 (by omega) (by omega) ?_
        refine g_istore_1 (pc := 69) C dX1_layRow_69 ?_
        refine g_goto (pc := 70) (tgt := 12) C dX1_layRow_70 (by decide) ?_
        exact g_eq rfl (by rw [hw.2.2.2]) rfl (ih (_, _, _, _) (by omega) trivial)
      · have hj := hV.2 j (by omega)
        have e9 : lyJ (lyK T k) (4096 / 2 ^ k) (j + 1) = if (lyK T k) 1 j ≠ 0 ∧ (lyK T k) 16 j = 4096 / 2 ^ k then lyS (lyJ (lyK T k) (4096 / 2 ^ k) j) j else lyJ (lyK T k) (4096 / 2 ^ k) j := rfl
        rw [lyK_r (by decide), lyK_r (by decide)] at e9
        have m0 := mkd_or (lyJ (lyK T k) (4096 / 2 ^ k) j) j
        rw [hJr 1 j (by decide)] at m0
        refine g_aload_2 (pc := 34) C dX1_layRow_34 ?_
        refine g_iload_4 (pc := 35) C dX1_layRow_35 ?_
        first | refine g_aaldn (pc := 37) C (by omega) (by omega) dX1_layRow_37 ?_ | refine g_aald (pc := 37) C (by omega) (by omega) dX1_layRow_37 ?_
        refine g_sstore_5 (pc := 38) C dX1_layRow_38 ?_
        rcases m0 with ⟨m1, m2⟩ | ⟨m1, m2⟩
        · rw [m2]
          refine g_sload_5 (pc := 40) C dX1_layRow_40 ?_
          refine g_ifnull (pc := 42) (tgt := 60) C dX1_layRow_42 (by decide) (fun h42 => ?_) (fun h42 => ?_)
          · refine g_iinc_4 (pc := 60) C dX1_layRow_60 ?_
            refine g_goto (pc := 63) (tgt := 28) C dX1_layRow_63 (by decide) ?_
            rw [if_neg (by omega)] at e9
            exact g_eq e9.symm rfl rfl (ih2 _ (by omega) trivial)
          · omega
        · rw [m2]
          refine g_sload_5 (pc := 40) C dX1_layRow_40 ?_
          refine g_ifnull (pc := 42) (tgt := 60) C dX1_layRow_42 (by decide) (fun h42 => ?_) (fun h42 => ?_)
          · omega
          · refine g_sload_5 (pc := 45) C dX1_layRow_45 ?_
            first | refine g_getn_X1_114 (pc := 47) C (by omega) dX1_layRow_47 ?_ | refine g_get_X1_114 (pc := 47) C (by omega) dX1_layRow_47 ?_
            rw [hJr 16 j (by decide)]
            refine g_iload_1 (pc := 50) C dX1_layRow_50 ?_
            refine g_icmp_ne (pc := 51) (tgt := 60) C dX1_layRow_51 (by decide) (by omega) (by omega) (fun h51 => ?_) (fun h51 => ?_)
            · refine g_iinc_4 (pc := 60) C dX1_layRow_60 ?_
              refine g_goto (pc := 63) (tgt := 28) C dX1_layRow_63 (by decide) ?_
              rw [if_neg (by omega)] at e9
              exact g_eq e9.symm rfl rfl (ih2 _ (by omega) trivial)
            · refine g_aload_0 (pc := 54) C dX1_layRow_54 ?_
              refine g_sload_5 (pc := 55) C dX1_layRow_55 ?_
              refine g_cY1Pn (pc := 57) C cs_X1_200 (k_X1_laySpan hVj (j : Int) ⟨by omega, by omega, by show lyJ (lyK T k) (4096 / 2 ^ k) j 1 j ≠ 0; rw [hJr 1 j (by decide)]; exact m1⟩) ⟨Nat.le_of_ble_eq_true rfl, Nat.le_of_ble_eq_true rfl⟩ (by omega) (Nat.le_of_ble_eq_true rfl) ⟨Nat.le_of_ble_eq_true rfl, Nat.le_of_ble_eq_true rfl⟩ dX1_layRow_57 ?_
              refine g_iinc_4 (pc := 60) C dX1_layRow_60 ?_
              refine g_goto (pc := 63) (tgt := 28) C dX1_layRow_63 (by decide) ?_
              rw [if_pos (by omega)] at e9
              exact g_eq e9.symm rfl rfl (ih2 _ (by omega) trivial)
  · refine g_vret (pc := 7) C (Nat.le_of_ble_eq_true rfl) (Nat.le_of_ble_eq_true rfl) dX1_layRow_7 ?_
    exact ⟨rfl, rfl, by rw [lyR, if_neg h4]⟩
