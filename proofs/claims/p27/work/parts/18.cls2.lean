theorem k_X1_roomAt {l : Launch} {cs : CSt} {np : Nat} {ad : Nat → Nat} {T : MT} (hV : VC np T) (x a : Int) (hx : isS T x) (ha : 0 ≤ a ∧ a ≤ 4096) : KD l cs yX1_roomAt (Cond.code yX1_roomAt cX1_roomAt 8 (some .int) :: GW) 1 0 0 [.ref (ad 0), grf ad x, .int (zI a)] np ad T 0 (some (.int (zI (roomC T x a)))) (np, ad, T) := by
  have hV0 := hV.s hx
  have hV1 := hV.1
  have hb : ∀ j : Nat, j ≤ 60 → 0 ≤ rmE (T 1) (T 14) (T 15) x a (T 15 x.toNat + T 16 x.toNat) j ∧ rmE (T 1) (T 14) (T 15) x a (T 15 x.toNat + T 16 x.toNat) j ≤ 4096 := fun j hj => by
    have h := rmE_bd (T 1) (T 14) (T 15) x a (T 15 x.toNat + T 16 x.toNat) (by omega) (by omega) j (fun i hi h => by have := hV.2 i (by omega); omega)
    omega
  refine KC_of (cc := cX1_roomAt) (nL := 8) (rt := (some .int)) (by decide) (by simp [grf_cat, cat_int, cat_ref]) (by simp) ?_
  intro p e s m args below meth c A C hE hin
  refine g_eq (lv2 := [some (.ref (ad 0)), some (grf ad x), some (.int (zI a)), none, none, none, none, none]) rfl rfl rfl ?_
  refine g_sload_1 (pc := 0) C dX1_roomAt_0 ?_
  refine g_cS0Pv (pc := 1) C cs_X1_104 (k_X0_end x (by omega)) ⟨Nat.le_of_ble_eq_true rfl, Nat.le_of_ble_eq_true rfl⟩ (by omega) (Nat.le_of_ble_eq_true rfl) ⟨Nat.le_of_ble_eq_true rfl, Nat.le_of_ble_eq_true rfl⟩ dX1_roomAt_1 ?_
  refine g_istore_3 (pc := 4) C dX1_roomAt_4 ?_
  refine g_aload_0 (pc := 5) C dX1_roomAt_5 ?_
  refine g_get_X1_18 (pc := 6) C (by omega) dX1_roomAt_6 ?_
  refine g_astore_4 (pc := 9) C dX1_roomAt_9 ?_
  refine g_aload_4 (pc := 11) C dX1_roomAt_11 ?_
  refine g_alen1 (pc := 13) C (by omega) dX1_roomAt_13 ?_
  refine g_istore_5 (pc := 14) C dX1_roomAt_14 ?_
  refine g_iconst (pc := 16) C dX1_roomAt_16 ?_
  refine g_istore_6 (pc := 17) C dX1_roomAt_17 ?_
  refine g_loop (σ := Option Value) (Tf := fun _ _ => T) (lvf := fun j a8 => [some (.ref (ad 0)), some (grf ad x), some (.int (zI a)), some (.int (zI (rmE (T 1) (T 14) (T 15) x a (T 15 x.toNat + T 16 x.toNat) j))), some (.ref (ad 1)), some (.int (zI 60)), some (.int (zI (j : Int))), a8]) (inv := fun _ _ => True) (N := 60) 0 none trivial (by omega) (fun j a8 _ hN ih => ?_)
  have hbj := hb j hN
  refine g_iload_6 (pc := 19) C dX1_roomAt_19 ?_
  refine g_iload_5 (pc := 21) C dX1_roomAt_21 ?_
  refine g_icmp_ge (pc := 23) (tgt := 72) C dX1_roomAt_23 (by decide) (by omega) (by omega) (fun h23 => ?_) (fun h23 => ?_)
  · obtain rfl : j = 60 := by omega
    refine g_iload_2 (pc := 72) C dX1_roomAt_72 ?_
    refine g_iload_3 (pc := 73) C dX1_roomAt_73 ?_
    refine g_cT2Pv (pc := 74) C cs_X1_197 (k_X1_greatestBlock _ _ (by omega)) ⟨Nat.le_of_ble_eq_true rfl, Nat.le_of_ble_eq_true rfl⟩ (Nat.le_of_ble_eq_true rfl) ⟨Nat.le_of_ble_eq_true rfl, Nat.le_of_ble_eq_true rfl⟩ dX1_roomAt_74 ?_
    refine g_iret (pc := 77) C (Nat.le_of_ble_eq_true rfl) (Nat.le_of_ble_eq_true rfl) dX1_roomAt_77 ?_
    exact ⟨rfl, by rw [roomC_eq], rfl⟩
  · have hj := hV.2 j (by omega)
    have e9 : rmE (T 1) (T 14) (T 15) x a (T 15 x.toNat + T 16 x.toNat) (j + 1) = if T 1 j ≠ 0 ∧ T 14 j = x ∧ a < T 15 j then min (rmE (T 1) (T 14) (T 15) x a (T 15 x.toNat + T 16 x.toNat) j) (T 15 j) else rmE (T 1) (T 14) (T 15) x a (T 15 x.toNat + T 16 x.toNat) j := rfl
    refine g_aload_4 (pc := 26) C dX1_roomAt_26 ?_
    refine g_iload_6 (pc := 28) C dX1_roomAt_28 ?_
    first | refine g_aaldn (pc := 30) C (by omega) (by omega) dX1_roomAt_30 ?_ | refine g_aald (pc := 30) C (by omega) (by omega) dX1_roomAt_30 ?_
    rcases mkd_or T j with ⟨m1, m2⟩ | ⟨m1, m2⟩
    · rw [m2]
      refine g_sstore_7 (pc := 31) C dX1_roomAt_31 ?_
      refine g_sload_7 (pc := 33) C dX1_roomAt_33 ?_
      refine g_ifnull (pc := 35) (tgt := 66) C dX1_roomAt_35 (by decide) (fun h35 => ?_) (fun h35 => ?_)
      · refine g_iinc_6 (pc := 66) C dX1_roomAt_66 ?_
        refine g_goto (pc := 69) (tgt := 19) C dX1_roomAt_69 (by decide) ?_
        rw [if_neg (by omega)] at e9
        exact g_eq rfl (by rw [e9]; rfl) rfl (ih _ (by omega) trivial)
      · omega
    · rw [m2]
      refine g_sstore_7 (pc := 31) C dX1_roomAt_31 ?_
      refine g_sload_7 (pc := 33) C dX1_roomAt_33 ?_
      refine g_ifnull (pc := 35) (tgt := 66) C dX1_roomAt_35 (by decide) (fun h35 => ?_) (fun h35 => ?_)
      · omega
      · refine g_sload_7 (pc := 38) C dX1_roomAt_38 ?_
        first | refine g_getn_X1_94 (pc := 40) C (by omega) dX1_roomAt_40 ?_ | refine g_get_X1_94 (pc := 40) C (by omega) dX1_roomAt_40 ?_
        refine g_sload_1 (pc := 43) C dX1_roomAt_43 ?_
        refine g_acmp_ne (pc := 44) (tgt := 66) C dX1_roomAt_44 (by decide) (by omega) (by omega) (fun h44 => ?_) (fun h44 => ?_)
        · refine g_iinc_6 (pc := 66) C dX1_roomAt_66 ?_
          refine g_goto (pc := 69) (tgt := 19) C dX1_roomAt_69 (by decide) ?_
          rw [if_neg (by omega)] at e9
          exact g_eq rfl (by rw [e9]; rfl) rfl (ih _ (by omega) trivial)
        · refine g_sload_7 (pc := 47) C dX1_roomAt_47 ?_
          first | refine g_getn_X1_101 (pc := 49) C (by omega) dX1_roomAt_49 ?_ | refine g_get_X1_101 (pc := 49) C (by omega) dX1_roomAt_49 ?_
          refine g_iload_2 (pc := 52) C dX1_roomAt_52 ?_
          refine g_icmp_le (pc := 53) (tgt := 66) C dX1_roomAt_53 (by decide) (by omega) (by omega) (fun h53 => ?_) (fun h53 => ?_)
          · refine g_iinc_6 (pc := 66) C dX1_roomAt_66 ?_
            refine g_goto (pc := 69) (tgt := 19) C dX1_roomAt_69 (by decide) ?_
            rw [if_neg (by omega)] at e9
            exact g_eq rfl (by rw [e9]; rfl) rfl (ih _ (by omega) trivial)
          · refine g_iload_3 (pc := 56) C dX1_roomAt_56 ?_
            refine g_sload_7 (pc := 57) C dX1_roomAt_57 ?_
            first | refine g_getn_X1_101 (pc := 59) C (by omega) dX1_roomAt_59 ?_ | refine g_get_X1_101 (pc := 59) C (by omega) dX1_roomAt_59 ?_
            refine g_min (pc := 62) C ml_X1_163 ini_java_lang_Math ⟨Nat.le_of_ble_eq_true rfl, Nat.le_of_ble_eq_true rfl, Nat.le_of_ble_eq_true rfl, Nat.le_of_ble_eq_true rfl⟩ (by omega) (by omega) dX1_roomAt_62 ?_
            refine g_istore_3 (pc := 65) C dX1_roomAt_65 ?_
            refine g_iinc_6 (pc := 66) C dX1_roomAt_66 ?_
            refine g_goto (pc := 69) (tgt := 19) C dX1_roomAt_69 (by decide) ?_
            rw [if_pos (by omega)] at e9
            exact g_eq rfl (by rw [e9]; rfl) rfl (ih _ (by omega) trivial)
theorem k_X1_countBlocks {l : Launch} {cs : CSt} {np : Nat} {ad : Nat → Nat} {T : MT} (a b : Int) (ha : 0 ≤ a ∧ a ≤ 4096 ∧ 0 ≤ b ∧ b ≤ 4096) : KD l cs yX1_countBlocks (Cond.code yX1_countBlocks cX1_countBlocks 4 (some .int) :: GW) 1 0 0 [.int (zI a), .int (zI b)] np ad T 0 (some (.int (zI (cbk b 4096 a)))) (np, ad, T) := by
  refine KC_of (cc := cX1_countBlocks) (nL := 4) (rt := (some .int)) (by decide) (by simp [grf_cat, cat_int, cat_ref]) (by simp) ?_
  intro p e s m args below meth c A C hE hin
  refine g_eq (lv2 := [some (.int (zI a)), some (.int (zI b)), none, none]) rfl rfl rfl ?_
  refine g_iconst (pc := 0) C dX1_countBlocks_0 ?_
  refine g_istore_2 (pc := 1) C dX1_countBlocks_1 ?_
  refine g_iload_0 (pc := 2) C dX1_countBlocks_2 ?_
  refine g_istore_3 (pc := 3) C dX1_countBlocks_3 ?_
  refine g_loop (σ := Int) (Tf := fun _ _ => T) (lvf := fun j w => [some (.int (zI a)), some (.int (zI b)), some (.int (zI (j : Int))), some (.int (zI w))]) (inv := fun j w => 0 ≤ w ∧ w ≤ 4096 ∧ cbk b 4096 a = j + cbk b (4096 - j) w) (N := 4096) 0 a ⟨by omega, by omega, by simp⟩ (by omega) (fun j w hi hN ih => ?_)
  obtain ⟨h1, h2, h3⟩ := hi
  have hg := gbk_bd w b
  refine g_iload_3 (pc := 4) C dX1_countBlocks_4 ?_
  refine g_iload_1 (pc := 5) C dX1_countBlocks_5 ?_
  refine g_icmp_ge (pc := 6) (tgt := 30) C dX1_countBlocks_6 (by decide) (by omega) (by omega) (fun h6 => ?_) (fun h6 => ?_)
  · refine g_iload_2 (pc := 30) C dX1_countBlocks_30 ?_
    refine g_iret (pc := 31) C (Nat.le_of_ble_eq_true rfl) (Nat.le_of_ble_eq_true rfl) dX1_countBlocks_31 ?_
    have e9 : cbk b (4096 - j) w = 0 := by
      cases hq : 4096 - j with
      | zero => rfl
      | succ q => show ite _ _ _ = _; rw [if_neg (by omega)]
    exact ⟨rfl, by rw [h3, e9, Int.add_zero], rfl⟩
  · refine g_iload_2 (pc := 9) C dX1_countBlocks_9 ?_
    refine g_sipush (pc := 10) C dX1_countBlocks_10 (by decide) ?_
    refine g_icmp_ge (pc := 13) (tgt := 30) C dX1_countBlocks_13 (by decide) (by omega) (by omega) (fun h13 => ?_) (fun h13 => ?_)
    · refine g_iload_2 (pc := 30) C dX1_countBlocks_30 ?_
      refine g_iret (pc := 31) C (Nat.le_of_ble_eq_true rfl) (Nat.le_of_ble_eq_true rfl) dX1_countBlocks_31 ?_
      obtain rfl : j = 4096 := by omega
      exact ⟨rfl, by rw [h3, show cbk b (4096 - 4096) w = 0 from rfl, Int.add_zero], rfl⟩
    · refine g_iload_3 (pc := 16) C dX1_countBlocks_16 ?_
      refine g_iload_3 (pc := 17) C dX1_countBlocks_17 ?_
      refine g_iload_1 (pc := 18) C dX1_countBlocks_18 ?_
      refine g_cT2Pv (pc := 19) C cs_X1_197 (k_X1_greatestBlock _ _ (by omega)) ⟨Nat.le_of_ble_eq_true rfl, Nat.le_of_ble_eq_true rfl⟩ (Nat.le_of_ble_eq_true rfl) ⟨Nat.le_of_ble_eq_true rfl, Nat.le_of_ble_eq_true rfl⟩ dX1_countBlocks_19 ?_
      refine g_iadd (pc := 22) C dX1_countBlocks_22 ?_
      refine g_istore_3 (pc := 23) C dX1_countBlocks_23 ?_
      refine g_iinc_2 (pc := 24) C dX1_countBlocks_24 ?_
      refine g_goto (pc := 27) (tgt := 4) C dX1_countBlocks_27 (by decide) ?_
      have e9 : cbk b (4096 - j) w = 1 + cbk b (4096 - (j + 1)) (w + gbk w b) := by
        rw [show 4096 - j = (4096 - (j + 1)) + 1 by omega]
        show ite _ _ _ = _
        rw [if_pos (by omega)]
      exact ih (w + gbk w b) (by omega) ⟨by omega, by omega, by rw [h3, e9]; omega⟩
theorem k_X1_lowestFree {l : Launch} {cs : CSt} {np : Nat} {ad : Nat → Nat} {T : MT} (hV : VC np T) (hA : VA T) (x : Int) (hx : isS T x) : KD l cs yX1_lowestFree (Cond.code yX1_lowestFree cX1_lowestFree 3 (some .int) :: GW) 1 0 0 [.ref (ad 0), grf ad x] np ad T 0 (some (.int (zI (lwf (T 2) (T 15 x.toNat).toNat (T 16 x.toNat).toNat)))) (np, ad, T) := by
  have hV0 := hV.s hx
  refine KC_of (cc := cX1_lowestFree) (nL := 3) (rt := (some .int)) (by decide) (by simp [grf_cat, cat_int, cat_ref]) (by simp) ?_
  intro p e s m args below meth c A C hE hin
  refine g_eq (lv2 := [some (.ref (ad 0)), some (grf ad x), none]) rfl rfl rfl ?_
  refine g_sload_1 (pc := 0) C dX1_lowestFree_0 ?_
  first | refine g_getn_X1_101 (pc := 1) C (by omega) dX1_lowestFree_1 ?_ | refine g_get_X1_101 (pc := 1) C (by omega) dX1_lowestFree_1 ?_
  refine g_istore_2 (pc := 4) C dX1_lowestFree_4 ?_
  refine g_eq (lv2 := [some (.ref (ad 0)), some (grf ad x), some (.int (zI (T 15 x.toNat + (0 : Nat))))]) rfl (by rw [Int.natCast_zero, Int.add_zero]) rfl ?_
  refine g_loop (σ := Unit) (Tf := fun _ _ => T) (lvf := fun j _ => [some (.ref (ad 0)), some (grf ad x), some (.int (zI (T 15 x.toNat + (j : Int))))]) (inv := fun j _ => (j : Int) ≤ T 16 x.toNat ∧ lwf (T 2) (T 15 x.toNat).toNat j = -1) (N := 4096) 0 () ⟨by omega, rfl⟩ (by omega) (fun j _ hi hN ih => ?_)
  obtain ⟨h1, h2⟩ := hi
  have e9 : lwf (T 2) (T 15 x.toNat).toNat (j + 1) = if 0 ≤ lwf (T 2) (T 15 x.toNat).toNat j then lwf (T 2) (T 15 x.toNat).toNat j else if T 2 ((T 15 x.toNat).toNat + j) = 0 then ((T 15 x.toNat).toNat : Int) + j else -1 := rfl
  rw [if_neg (by omega)] at e9
  have e8 : (T 15 x.toNat + (j : Int)).toNat = (T 15 x.toNat).toNat + j := by omega
  refine g_iload_2 (pc := 5) C dX1_lowestFree_5 ?_
  refine g_sload_1 (pc := 6) C dX1_lowestFree_6 ?_
  refine g_cS0Pv (pc := 7) C cs_X1_104 (k_X0_end x (by omega)) ⟨Nat.le_of_ble_eq_true rfl, Nat.le_of_ble_eq_true rfl⟩ (by omega) (Nat.le_of_ble_eq_true rfl) ⟨Nat.le_of_ble_eq_true rfl, Nat.le_of_ble_eq_true rfl⟩ dX1_lowestFree_7 ?_
  refine g_icmp_ge (pc := 10) (tgt := 37) C dX1_lowestFree_10 (by decide) (by omega) (by omega) (fun h10 => ?_) (fun h10 => ?_)
  · refine g_iconst (pc := 37) C dX1_lowestFree_37 ?_
    refine g_iret (pc := 38) C (Nat.le_of_ble_eq_true rfl) (Nat.le_of_ble_eq_true rfl) dX1_lowestFree_38 ?_
    obtain rfl : j = (T 16 x.toNat).toNat := by omega
    exact ⟨rfl, by rw [h2], rfl⟩
  · have hj2 := hA.2 ((T 15 x.toNat).toNat + j) (by omega)
    refine g_iload_2 (pc := 13) C dX1_lowestFree_13 ?_
    refine g_cT1Pv (pc := 14) C cs_X1_136 (k_X1_isAddress _ (by omega)) ⟨Nat.le_of_ble_eq_true rfl, Nat.le_of_ble_eq_true rfl⟩ (Nat.le_of_ble_eq_true rfl) ⟨Nat.le_of_ble_eq_true rfl, Nat.le_of_ble_eq_true rfl⟩ dX1_lowestFree_14 ?_
    refine g_if_eq (pc := 17) (tgt := 37) C dX1_lowestFree_17 (by decide) (by split <;> omega) (fun h17 => ?_) (fun h17 => ?_)
    · rw [if_pos (by omega)] at h17
      omega
    · refine g_aload_0 (pc := 20) C dX1_lowestFree_20 ?_
      refine g_get_X1_26 (pc := 21) C (by omega) dX1_lowestFree_21 ?_
      refine g_iload_2 (pc := 24) C dX1_lowestFree_24 ?_
      first | refine g_aldn_2 (pc := 25) C (by omega) (by omega) dX1_lowestFree_25 ?_ | refine g_ald_2 (pc := 25) C (by omega) (by omega) dX1_lowestFree_25 ?_
      rw [e8]
      refine g_if_ne (pc := 26) (tgt := 31) C dX1_lowestFree_26 (by decide) (by omega) (fun h26 => ?_) (fun h26 => ?_)
      · refine g_iinc_2 (pc := 31) C dX1_lowestFree_31 ?_
        refine g_goto (pc := 34) (tgt := 5) C dX1_lowestFree_34 (by decide) ?_
        rw [if_neg (by omega)] at e9
        exact g_eq rfl (by rw [Int.add_assoc]; rfl) rfl (ih () (by omega) ⟨by omega, e9⟩)
      · refine g_iload_2 (pc := 29) C dX1_lowestFree_29 ?_
        refine g_iret (pc := 30) C (Nat.le_of_ble_eq_true rfl) (Nat.le_of_ble_eq_true rfl) dX1_lowestFree_30 ?_
        rw [if_pos (by omega)] at e9
        have e10 : ∀ k, j + 1 ≤ k → lwf (T 2) (T 15 x.toNat).toNat k = lwf (T 2) (T 15 x.toNat).toNat (j + 1) := by
          intro k hk
          induction k with
          | zero => omega
          | succ k ihk =>
            by_cases e : j = k
            · rw [e]
            · have h9 := ihk (by omega)
              show ite _ _ _ = _
              rw [if_pos (by rw [h9, e9]; omega), h9]
        exact ⟨rfl, by rw [e10 _ (by omega), e9, Int.toNat_of_nonneg (by omega)], rfl⟩
set_option maxRecDepth 100000 in
theorem k_X1_chosenBlock {l : Launch} {cs : CSt} {np : Nat} {ad : Nat → Nat} {T : MT} (hV : VC np T) (x S : Int) (lst : Bool) (hx : isS T x) (hS : 1 ≤ S ∧ S ≤ 4096) : KD l cs yX1_chosenBlock (Cond.code yX1_chosenBlock cX1_chosenBlock 11 (some .int) :: GW) 3 0 0 [.ref (ad 0), grf ad x, .int (zI S), .int (zI (if lst = true then 1 else 0))] np ad T 0 (some (.int (zI (chB T x S lst)))) (np, ad, T) := by
  have hV0 := hV.s hx
  have hV1 := hV.1
  have hl1 : (lst = true ∧ (if lst = true then (1 : Int) else 0) = 1) ∨ (lst = false ∧ (if lst = true then (1 : Int) else 0) = 0) := by cases lst <;> simp
  refine KC_of (cc := cX1_chosenBlock) (nL := 11) (rt := (some .int)) (by decide) (by simp [grf_cat, cat_int, cat_ref]) (by simp) ?_
  intro p e s m args below meth c A C hE hin
  refine g_eq (lv2 := [some (.ref (ad 0)), some (grf ad x), some (.int (zI S)), some (.int (zI (if lst = true then 1 else 0))), none, none, none, none, none, none, none]) rfl rfl rfl ?_
  refine g_iconst (pc := 0) C dX1_chosenBlock_0 ?_
  refine g_istore_4 (pc := 1) C dX1_chosenBlock_1 ?_
  refine g_iconst (pc := 3) C dX1_chosenBlock_3 ?_
  refine g_istore_5 (pc := 4) C dX1_chosenBlock_4 ?_
  refine g_sload_1 (pc := 6) C dX1_chosenBlock_6 ?_
  first | refine g_getn_X1_101 (pc := 7) C (by omega) dX1_chosenBlock_7 ?_ | refine g_get_X1_101 (pc := 7) C (by omega) dX1_chosenBlock_7 ?_
  refine g_istore_6 (pc := 10) C dX1_chosenBlock_10 ?_
  refine g_iconst (pc := 12) C dX1_chosenBlock_12 ?_
  refine g_istore_7 (pc := 13) C dX1_chosenBlock_13 ?_
  refine g_loop (σ := (Int × Int × Int) × Option Value × Option Value × Option Value) (Tf := fun _ _ => T) (lvf := fun j z => [some (.ref (ad 0)), some (grf ad x), some (.int (zI S)), some (.int (zI (if lst = true then 1 else 0))), some (.int (zI z.1.1)), some (.int (zI z.1.2.1)), some (.int (zI z.1.2.2)), some (.int (zI (j : Int))), z.2.1, z.2.2.1, z.2.2.2]) (inv := fun j z => cbI T x S lst j = z.1 ∧ -1 ≤ z.1.1 ∧ z.1.1 ≤ 4096 ∧ 0 ≤ z.1.2.1 ∧ z.1.2.1 ≤ 4096 ∧ 0 ≤ z.1.2.2 ∧ z.1.2.2 ≤ 4096) (N := 4096) 0 ((-1, 0, T 15 x.toNat), none, none, none) ⟨rfl, by simp, by simp, by simp, by simp, hV0.2.2.2.2.2.2.2.1, by show T 15 x.toNat ≤ 4096; omega⟩ (by omega) (fun j z hi hN ih => ?_)
  obtain ⟨⟨ch, cr, at_⟩, a8, a9, a10⟩ := z
  dsimp only at hi ih ⊢
  obtain ⟨h1, h2, h3, h4, h5, h6, h7⟩ := hi
  have e9 : cbI T x S lst (j + 1) = cbS T x S lst (cbI T x S lst j) := rfl
  rw [h1] at e9
  unfold cbS at e9
  dsimp only at e9
  refine g_iload_7 (pc := 15) C dX1_chosenBlock_15 ?_
  refine g_sipush (pc := 17) C dX1_chosenBlock_17 (by decide) ?_
  refine g_icmp_ge (pc := 20) (tgt := 131) C dX1_chosenBlock_20 (by decide) (by omega) (by omega) (fun h20 => ?_) (fun h20 => ?_)
  · refine g_iload_4 (pc := 131) C dX1_chosenBlock_131 ?_
    refine g_iret (pc := 133) C (Nat.le_of_ble_eq_true rfl) (Nat.le_of_ble_eq_true rfl) dX1_chosenBlock_133 ?_
    obtain rfl : j = 4096 := by omega
    exact ⟨rfl, by rw [chB_eq, h1], rfl⟩
  · refine g_iload_6 (pc := 23) C dX1_chosenBlock_23 ?_
    refine g_sload_1 (pc := 25) C dX1_chosenBlock_25 ?_
    refine g_cS0Pv (pc := 26) C cs_X1_104 (k_X0_end x (by omega)) ⟨Nat.le_of_ble_eq_true rfl, Nat.le_of_ble_eq_true rfl⟩ (by omega) (Nat.le_of_ble_eq_true rfl) ⟨Nat.le_of_ble_eq_true rfl, Nat.le_of_ble_eq_true rfl⟩ dX1_chosenBlock_26 ?_
    refine g_icmp_ge (pc := 29) (tgt := 131) C dX1_chosenBlock_29 (by decide) (by omega) (by omega) (fun h29 => ?_) (fun h29 => ?_)
    · refine g_iload_4 (pc := 131) C dX1_chosenBlock_131 ?_
      refine g_iret (pc := 133) C (Nat.le_of_ble_eq_true rfl) (Nat.le_of_ble_eq_true rfl) dX1_chosenBlock_133 ?_
      have e10 := cbI_fix T x S lst j (4096 - j) (by rw [h1]; exact h29)
      rw [show j + (4096 - j) = 4096 by omega, h1] at e10
      exact ⟨rfl, by rw [chB_eq, e10], rfl⟩
    · rw [if_neg (by omega)] at e9
      have hcb := chC_bd T x at_ 60
      refine g_aload_0 (pc := 32) C dX1_chosenBlock_32 ?_
      refine g_sload_1 (pc := 33) C dX1_chosenBlock_33 ?_
      refine g_iload_6 (pc := 34) C dX1_chosenBlock_34 ?_
      refine g_cY2Pv (pc := 36) C cs_X1_168 (k_X1_childAt hV x at_ (by omega) (by omega)) ⟨Nat.le_of_ble_eq_true rfl, Nat.le_of_ble_eq_true rfl⟩ (by omega) (Nat.le_of_ble_eq_true rfl) ⟨Nat.le_of_ble_eq_true rfl, Nat.le_of_ble_eq_true rfl⟩ dX1_chosenBlock_36 ?_
      refine g_sstore_8 (pc := 39) C dX1_chosenBlock_39 ?_
      refine g_sload_8 (pc := 41) C dX1_chosenBlock_41 ?_
      refine g_ifnull (pc := 43) (tgt := 56) C dX1_chosenBlock_43 (by decide) (fun h43 => ?_) (fun h43 => ?_)
      · rw [if_neg (by omega)] at e9
        obtain ⟨rm, hrm⟩ : ∃ rm, rm = roomC T x at_ := ⟨_, rfl⟩
        have hrm0 := roomC_bd hV hx (a := at_) (by omega)
        have hrm2 : 1 ≤ rm ∧ at_ + rm ≤ 4096 := by rw [hrm]; constructor <;> omega
        have hrm3 : roomC T x at_ = rm := hrm.symm
        rw [hrm3] at e9
        refine g_aload_0 (pc := 56) C dX1_chosenBlock_56 ?_
        refine g_sload_1 (pc := 57) C dX1_chosenBlock_57 ?_
        refine g_iload_6 (pc := 58) C dX1_chosenBlock_58 ?_
        refine g_cY2Pv (pc := 60) C cs_X1_74 (k_X1_roomAt hV x at_ hx (by omega)) ⟨Nat.le_of_ble_eq_true rfl, Nat.le_of_ble_eq_true rfl⟩ (by omega) (Nat.le_of_ble_eq_true rfl) ⟨Nat.le_of_ble_eq_true rfl, Nat.le_of_ble_eq_true rfl⟩ dX1_chosenBlock_60 ?_
        rw [hrm3]
        refine g_istore_9 (pc := 63) C dX1_chosenBlock_63 ?_
        refine g_iload_4 (pc := 65) C dX1_chosenBlock_65 ?_
        refine g_iconst (pc := 67) C dX1_chosenBlock_67 ?_
        refine g_icmp_eq (pc := 68) (tgt := 92) C dX1_chosenBlock_68 (by decide) (by omega) (by omega) (fun h68 => ?_) (fun h68 => ?_)
        · have hbt : ch = -1 ∨ (if lst = true then rm < cr else cr < rm) := Or.inl h68
          refine g_iconst (pc := 92) C dX1_chosenBlock_92 ?_
          refine g_goto (pc := 93) (tgt := 97) C dX1_chosenBlock_93 (by decide) ?_
          refine g_istore_10 (pc := 97) C dX1_chosenBlock_97 ?_
          refine g_iload_9 (pc := 99) C dX1_chosenBlock_99 ?_
          refine g_iload_2 (pc := 101) C dX1_chosenBlock_101 ?_
          refine g_icmp_lt (pc := 102) (tgt := 118) C dX1_chosenBlock_102 (by decide) (by omega) (by omega) (fun h102 => ?_) (fun h102 => ?_)
          · have hno : ¬ (S ≤ rm ∧ (ch = -1 ∨ if lst = true then rm < cr else cr < rm)) := fun h => by omega
            refine g_iload_6 (pc := 118) C dX1_chosenBlock_118 ?_
            refine g_iload_9 (pc := 120) C dX1_chosenBlock_120 ?_
            refine g_iadd (pc := 122) C dX1_chosenBlock_122 ?_
            refine g_istore_6 (pc := 123) C dX1_chosenBlock_123 ?_
            refine g_iinc_7 (pc := 125) C dX1_chosenBlock_125 ?_
            refine g_goto (pc := 128) (tgt := 15) C dX1_chosenBlock_128 (by decide) ?_
            rw [if_neg hno] at e9
            exact ih ((ch, cr, at_ + rm), _, _, _) (by omega) ⟨e9, h2, h3, h4, h5, (by omega : 0 ≤ at_ + rm), (by omega : at_ + rm ≤ 4096)⟩
          · refine g_iload_10 (pc := 105) C dX1_chosenBlock_105 ?_
            refine g_if_eq (pc := 107) (tgt := 118) C dX1_chosenBlock_107 (by decide) (by omega) (fun h107 => ?_) (fun h107 => ?_)
            · omega
            · refine g_iload_6 (pc := 110) C dX1_chosenBlock_110 ?_
              refine g_istore_4 (pc := 112) C dX1_chosenBlock_112 ?_
              refine g_iload_9 (pc := 114) C dX1_chosenBlock_114 ?_
              refine g_istore_5 (pc := 116) C dX1_chosenBlock_116 ?_
              refine g_iload_6 (pc := 118) C dX1_chosenBlock_118 ?_
              refine g_iload_9 (pc := 120) C dX1_chosenBlock_120 ?_
              refine g_iadd (pc := 122) C dX1_chosenBlock_122 ?_
              refine g_istore_6 (pc := 123) C dX1_chosenBlock_123 ?_
              refine g_iinc_7 (pc := 125) C dX1_chosenBlock_125 ?_
              refine g_goto (pc := 128) (tgt := 15) C dX1_chosenBlock_128 (by decide) ?_
              rw [if_pos ⟨by omega, hbt⟩] at e9
              exact ih ((at_, rm, at_ + rm), _, _, _) (by omega) ⟨e9, (by omega : -1 ≤ at_), (by omega : at_ ≤ 4096), (by omega : 0 ≤ rm), (by omega : rm ≤ 4096), (by omega : 0 ≤ at_ + rm), (by omega : at_ + rm ≤ 4096)⟩
        · refine g_iload_3 (pc := 71) C dX1_chosenBlock_71 ?_
          refine g_if_eq (pc := 72) (tgt := 85) C dX1_chosenBlock_72 (by decide) (by omega) (fun h72 => ?_) (fun h72 => ?_)
          · have hl2 : lst = false := by rcases hl1 with h | h; omega; exact h.1
            refine g_iload_9 (pc := 85) C dX1_chosenBlock_85 ?_
            refine g_iload_5 (pc := 87) C dX1_chosenBlock_87 ?_
            refine g_icmp_le (pc := 89) (tgt := 96) C dX1_chosenBlock_89 (by decide) (by omega) (by omega) (fun h89 => ?_) (fun h89 => ?_)
            · have hbt : ¬ (ch = -1 ∨ (if lst = true then rm < cr else cr < rm)) := by
                rw [hl2]
                simp only [Bool.false_eq_true, if_false]
                omega
              refine g_iconst (pc := 96) C dX1_chosenBlock_96 ?_
              refine g_istore_10 (pc := 97) C dX1_chosenBlock_97 ?_
              refine g_iload_9 (pc := 99) C dX1_chosenBlock_99 ?_
              refine g_iload_2 (pc := 101) C dX1_chosenBlock_101 ?_
              refine g_icmp_lt (pc := 102) (tgt := 118) C dX1_chosenBlock_102 (by decide) (by omega) (by omega) (fun h102 => ?_) (fun h102 => ?_)
              · have hno : ¬ (S ≤ rm ∧ (ch = -1 ∨ if lst = true then rm < cr else cr < rm)) := fun h => hbt h.2
                refine g_iload_6 (pc := 118) C dX1_chosenBlock_118 ?_
                refine g_iload_9 (pc := 120) C dX1_chosenBlock_120 ?_
                refine g_iadd (pc := 122) C dX1_chosenBlock_122 ?_
                refine g_istore_6 (pc := 123) C dX1_chosenBlock_123 ?_
                refine g_iinc_7 (pc := 125) C dX1_chosenBlock_125 ?_
                refine g_goto (pc := 128) (tgt := 15) C dX1_chosenBlock_128 (by decide) ?_
                rw [if_neg hno] at e9
                exact ih ((ch, cr, at_ + rm), _, _, _) (by omega) ⟨e9, h2, h3, h4, h5, (by omega : 0 ≤ at_ + rm), (by omega : at_ + rm ≤ 4096)⟩
              · refine g_iload_10 (pc := 105) C dX1_chosenBlock_105 ?_
                refine g_if_eq (pc := 107) (tgt := 118) C dX1_chosenBlock_107 (by decide) (by omega) (fun h107 => ?_) (fun h107 => ?_)
                · have hno : ¬ (S ≤ rm ∧ (ch = -1 ∨ if lst = true then rm < cr else cr < rm)) := fun h => hbt h.2
                  refine g_iload_6 (pc := 118) C dX1_chosenBlock_118 ?_
                  refine g_iload_9 (pc := 120) C dX1_chosenBlock_120 ?_
                  refine g_iadd (pc := 122) C dX1_chosenBlock_122 ?_
                  refine g_istore_6 (pc := 123) C dX1_chosenBlock_123 ?_
                  refine g_iinc_7 (pc := 125) C dX1_chosenBlock_125 ?_
                  refine g_goto (pc := 128) (tgt := 15) C dX1_chosenBlock_128 (by decide) ?_
                  rw [if_neg hno] at e9
                  exact ih ((ch, cr, at_ + rm), _, _, _) (by omega) ⟨e9, h2, h3, h4, h5, (by omega : 0 ≤ at_ + rm), (by omega : at_ + rm ≤ 4096)⟩
                · omega
            · have hbt : ch = -1 ∨ (if lst = true then rm < cr else cr < rm) := by
                rw [hl2]
                simp only [Bool.false_eq_true, if_false]
                omega
              refine g_iconst (pc := 92) C dX1_chosenBlock_92 ?_
              refine g_goto (pc := 93) (tgt := 97) C dX1_chosenBlock_93 (by decide) ?_
              refine g_istore_10 (pc := 97) C dX1_chosenBlock_97 ?_
              refine g_iload_9 (pc := 99) C dX1_chosenBlock_99 ?_
              refine g_iload_2 (pc := 101) C dX1_chosenBlock_101 ?_
              refine g_icmp_lt (pc := 102) (tgt := 118) C dX1_chosenBlock_102 (by decide) (by omega) (by omega) (fun h102 => ?_) (fun h102 => ?_)
              · have hno : ¬ (S ≤ rm ∧ (ch = -1 ∨ if lst = true then rm < cr else cr < rm)) := fun h => by omega
                refine g_iload_6 (pc := 118) C dX1_chosenBlock_118 ?_
                refine g_iload_9 (pc := 120) C dX1_chosenBlock_120 ?_
                refine g_iadd (pc := 122) C dX1_chosenBlock_122 ?_
                refine g_istore_6 (pc := 123) C dX1_chosenBlock_123 ?_
                refine g_iinc_7 (pc := 125) C dX1_chosenBlock_125 ?_
                refine g_goto (pc := 128) (tgt := 15) C dX1_chosenBlock_128 (by decide) ?_
                rw [if_neg hno] at e9
                exact ih ((ch, cr, at_ + rm), _, _, _) (by omega) ⟨e9, h2, h3, h4, h5, (by omega : 0 ≤ at_ + rm), (by omega : at_ + rm ≤ 4096)⟩
              · refine g_iload_10 (pc := 105) C dX1_chosenBlock_105 ?_
                refine g_if_eq (pc := 107) (tgt := 118) C dX1_chosenBlock_107 (by decide) (by omega) (fun h107 => ?_) (fun h107 => ?_)
                · omega
                · refine g_iload_6 (pc := 110) C dX1_chosenBlock_110 ?_
                  refine g_istore_4 (pc := 112) C dX1_chosenBlock_112 ?_
                  refine g_iload_9 (pc := 114) C dX1_chosenBlock_114 ?_
                  refine g_istore_5 (pc := 116) C dX1_chosenBlock_116 ?_
                  refine g_iload_6 (pc := 118) C dX1_chosenBlock_118 ?_
                  refine g_iload_9 (pc := 120) C dX1_chosenBlock_120 ?_
                  refine g_iadd (pc := 122) C dX1_chosenBlock_122 ?_
                  refine g_istore_6 (pc := 123) C dX1_chosenBlock_123 ?_
                  refine g_iinc_7 (pc := 125) C dX1_chosenBlock_125 ?_
                  refine g_goto (pc := 128) (tgt := 15) C dX1_chosenBlock_128 (by decide) ?_
                  rw [if_pos ⟨by omega, hbt⟩] at e9
                  exact ih ((at_, rm, at_ + rm), _, _, _) (by omega) ⟨e9, (by omega : -1 ≤ at_), (by omega : at_ ≤ 4096), (by omega : 0 ≤ rm), (by omega : rm ≤ 4096), (by omega : 0 ≤ at_ + rm), (by omega : at_ + rm ≤ 4096)⟩
          · have hl2 : lst = true := by rcases hl1 with h | h; exact h.1; omega
            refine g_iload_9 (pc := 75) C dX1_chosenBlock_75 ?_
            refine g_iload_5 (pc := 77) C dX1_chosenBlock_77 ?_
            refine g_icmp_ge (pc := 79) (tgt := 96) C dX1_chosenBlock_79 (by decide) (by omega) (by omega) (fun h79 => ?_) (fun h79 => ?_)
            · have hbt : ¬ (ch = -1 ∨ (if lst = true then rm < cr else cr < rm)) := by
                rw [hl2]
                simp only [if_true]
                omega
              refine g_iconst (pc := 96) C dX1_chosenBlock_96 ?_
              refine g_istore_10 (pc := 97) C dX1_chosenBlock_97 ?_
              refine g_iload_9 (pc := 99) C dX1_chosenBlock_99 ?_
              refine g_iload_2 (pc := 101) C dX1_chosenBlock_101 ?_
              refine g_icmp_lt (pc := 102) (tgt := 118) C dX1_chosenBlock_102 (by decide) (by omega) (by omega) (fun h102 => ?_) (fun h102 => ?_)
              · have hno : ¬ (S ≤ rm ∧ (ch = -1 ∨ if lst = true then rm < cr else cr < rm)) := fun h => hbt h.2
                refine g_iload_6 (pc := 118) C dX1_chosenBlock_118 ?_
                refine g_iload_9 (pc := 120) C dX1_chosenBlock_120 ?_
                refine g_iadd (pc := 122) C dX1_chosenBlock_122 ?_
                refine g_istore_6 (pc := 123) C dX1_chosenBlock_123 ?_
                refine g_iinc_7 (pc := 125) C dX1_chosenBlock_125 ?_
                refine g_goto (pc := 128) (tgt := 15) C dX1_chosenBlock_128 (by decide) ?_
                rw [if_neg hno] at e9
                exact ih ((ch, cr, at_ + rm), _, _, _) (by omega) ⟨e9, h2, h3, h4, h5, (by omega : 0 ≤ at_ + rm), (by omega : at_ + rm ≤ 4096)⟩
              · refine g_iload_10 (pc := 105) C dX1_chosenBlock_105 ?_
                refine g_if_eq (pc := 107) (tgt := 118) C dX1_chosenBlock_107 (by decide) (by omega) (fun h107 => ?_) (fun h107 => ?_)
                · have hno : ¬ (S ≤ rm ∧ (ch = -1 ∨ if lst = true then rm < cr else cr < rm)) := fun h => hbt h.2
                  refine g_iload_6 (pc := 118) C dX1_chosenBlock_118 ?_
                  refine g_iload_9 (pc := 120) C dX1_chosenBlock_120 ?_
                  refine g_iadd (pc := 122) C dX1_chosenBlock_122 ?_
                  refine g_istore_6 (pc := 123) C dX1_chosenBlock_123 ?_
                  refine g_iinc_7 (pc := 125) C dX1_chosenBlock_125 ?_
                  refine g_goto (pc := 128) (tgt := 15) C dX1_chosenBlock_128 (by decide) ?_
                  rw [if_neg hno] at e9
                  exact ih ((ch, cr, at_ + rm), _, _, _) (by omega) ⟨e9, h2, h3, h4, h5, (by omega : 0 ≤ at_ + rm), (by omega : at_ + rm ≤ 4096)⟩
                · omega
            · have hbt : ch = -1 ∨ (if lst = true then rm < cr else cr < rm) := by
                rw [hl2]
                simp only [if_true]
                omega
              refine g_goto (pc := 82) (tgt := 92) C dX1_chosenBlock_82 (by decide) ?_
              refine g_iconst (pc := 92) C dX1_chosenBlock_92 ?_
              refine g_goto (pc := 93) (tgt := 97) C dX1_chosenBlock_93 (by decide) ?_
              refine g_istore_10 (pc := 97) C dX1_chosenBlock_97 ?_
              refine g_iload_9 (pc := 99) C dX1_chosenBlock_99 ?_
              refine g_iload_2 (pc := 101) C dX1_chosenBlock_101 ?_
              refine g_icmp_lt (pc := 102) (tgt := 118) C dX1_chosenBlock_102 (by decide) (by omega) (by omega) (fun h102 => ?_) (fun h102 => ?_)
              · have hno : ¬ (S ≤ rm ∧ (ch = -1 ∨ if lst = true then rm < cr else cr < rm)) := fun h => by omega
                refine g_iload_6 (pc := 118) C dX1_chosenBlock_118 ?_
                refine g_iload_9 (pc := 120) C dX1_chosenBlock_120 ?_
                refine g_iadd (pc := 122) C dX1_chosenBlock_122 ?_
                refine g_istore_6 (pc := 123) C dX1_chosenBlock_123 ?_
                refine g_iinc_7 (pc := 125) C dX1_chosenBlock_125 ?_
                refine g_goto (pc := 128) (tgt := 15) C dX1_chosenBlock_128 (by decide) ?_
                rw [if_neg hno] at e9
                exact ih ((ch, cr, at_ + rm), _, _, _) (by omega) ⟨e9, h2, h3, h4, h5, (by omega : 0 ≤ at_ + rm), (by omega : at_ + rm ≤ 4096)⟩
              · refine g_iload_10 (pc := 105) C dX1_chosenBlock_105 ?_
                refine g_if_eq (pc := 107) (tgt := 118) C dX1_chosenBlock_107 (by decide) (by omega) (fun h107 => ?_) (fun h107 => ?_)
                · omega
                · refine g_iload_6 (pc := 110) C dX1_chosenBlock_110 ?_
                  refine g_istore_4 (pc := 112) C dX1_chosenBlock_112 ?_
                  refine g_iload_9 (pc := 114) C dX1_chosenBlock_114 ?_
                  refine g_istore_5 (pc := 116) C dX1_chosenBlock_116 ?_
                  refine g_iload_6 (pc := 118) C dX1_chosenBlock_118 ?_
                  refine g_iload_9 (pc := 120) C dX1_chosenBlock_120 ?_
                  refine g_iadd (pc := 122) C dX1_chosenBlock_122 ?_
                  refine g_istore_6 (pc := 123) C dX1_chosenBlock_123 ?_
                  refine g_iinc_7 (pc := 125) C dX1_chosenBlock_125 ?_
                  refine g_goto (pc := 128) (tgt := 15) C dX1_chosenBlock_128 (by decide) ?_
                  rw [if_pos ⟨by omega, hbt⟩] at e9
                  exact ih ((at_, rm, at_ + rm), _, _, _) (by omega) ⟨e9, (by omega : -1 ≤ at_), (by omega : at_ ≤ 4096), (by omega : 0 ≤ rm), (by omega : rm ≤ 4096), (by omega : 0 ≤ at_ + rm), (by omega : at_ + rm ≤ 4096)⟩
      · have hcc : isS T (chC T x at_ 60) := ⟨h43, by have := hcb.2.1; omega, (hcb.2.2 h43).1⟩
        have hcs := hV.s hcc
        rw [if_pos h43] at e9
        refine g_sload_8 (pc := 46) C dX1_chosenBlock_46 ?_
        refine g_cS0Pv (pc := 48) C cs_X1_104 (k_X0_end _ (by omega)) ⟨Nat.le_of_ble_eq_true rfl, Nat.le_of_ble_eq_true rfl⟩ (by omega) (Nat.le_of_ble_eq_true rfl) ⟨Nat.le_of_ble_eq_true rfl, Nat.le_of_ble_eq_true rfl⟩ dX1_chosenBlock_48 ?_
        refine g_istore_6 (pc := 51) C dX1_chosenBlock_51 ?_
        refine g_goto (pc := 53) (tgt := 125) C dX1_chosenBlock_53 (by decide) ?_
        refine g_iinc_7 (pc := 125) C dX1_chosenBlock_125 ?_
        refine g_goto (pc := 128) (tgt := 15) C dX1_chosenBlock_128 (by decide) ?_
        exact ih ((ch, cr, T 15 (chC T x at_ 60).toNat + T 16 (chC T x at_ 60).toNat), _, _, _) (by omega) ⟨e9, h2, h3, h4, h5, by show 0 ≤ T 15 _ + T 16 _; omega, by show T 15 _ + T 16 _ ≤ 4096; omega⟩
