theorem k_X1_countLent {l : Launch} {cs : CSt} {np : Nat} {ad : Nat → Nat} {T : MT} (h13 : 13 ≤ np) (hA : VA T) (a b : Int) (ha : 0 ≤ a ∧ b ≤ 4096 ∧ a ≤ b) : KD l cs yX1_countLent (Cond.code yX1_countLent cX1_countLent 5 (some .int) :: GW) 1 0 0 [.ref (ad 0), .int (zI a), .int (zI b)] np ad T 0 (some (.int (zI (lnt (T 2) a.toNat (b - a).toNat)))) (np, ad, T) := by
  refine KC_of (cc := cX1_countLent) (nL := 5) (rt := (some .int)) (by decide) (by simp [grf_cat, cat_int, cat_ref]) (by simp) ?_
  intro p e s m args below meth c A C hE hin
  refine g_eq (lv2 := [some (.ref (ad 0)), some (.int (zI a)), some (.int (zI b)), none, none]) rfl rfl rfl ?_
  refine g_iconst (pc := 0) C dX1_countLent_0 ?_
  refine g_istore_3 (pc := 1) C dX1_countLent_1 ?_
  refine g_iload_1 (pc := 2) C dX1_countLent_2 ?_
  refine g_istore_4 (pc := 3) C dX1_countLent_3 ?_
  refine g_eq (lv2 := [some (.ref (ad 0)), some (.int (zI a)), some (.int (zI b)), some (.int (zI (lnt (T 2) a.toNat 0))), some (.int (zI (a + (0 : Nat))))]) rfl (by rw [Int.natCast_zero, Int.add_zero]; rfl) rfl ?_
  refine g_loop (σ := Unit) (Tf := fun _ _ => T) (lvf := fun j _ => [some (.ref (ad 0)), some (.int (zI a)), some (.int (zI b)), some (.int (zI (lnt (T 2) a.toNat j))), some (.int (zI (a + (j : Int))))]) (inv := fun j _ => a + (j : Int) ≤ b) (N := 4096) 0 () (by omega) (by omega) (fun j _ hj hN ih => ?_)
  refine g_iload_4 (pc := 5) C dX1_countLent_5 ?_
  refine g_iload_2 (pc := 7) C dX1_countLent_7 ?_
  refine g_icmp_ge (pc := 8) (tgt := 38) C dX1_countLent_8 (by decide) (by omega) (by omega) (fun h8 => ?_) (fun h8 => ?_)
  · refine g_iload_3 (pc := 38) C dX1_countLent_38 ?_
    refine g_iret (pc := 39) C (Nat.le_of_ble_eq_true rfl) (Nat.le_of_ble_eq_true rfl) dX1_countLent_39 ?_
    obtain rfl : j = (b - a).toNat := by omega
    exact ⟨rfl, rfl, rfl⟩
  · have e9 : lnt (T 2) a.toNat (j + 1) = lnt (T 2) a.toNat j + (if T 2 (a.toNat + j) ≠ 0 then 1 else 0) := rfl
    have e8 : (a + (j : Int)).toNat = a.toNat + j := by omega
    have hj2 := hA.2 (a.toNat + j) (by omega)
    refine g_iload_4 (pc := 11) C dX1_countLent_11 ?_
    refine g_cT1Pv (pc := 13) C cs_X1_136 (k_X1_isAddress _ (by omega)) ⟨Nat.le_of_ble_eq_true rfl, Nat.le_of_ble_eq_true rfl⟩ (Nat.le_of_ble_eq_true rfl) ⟨Nat.le_of_ble_eq_true rfl, Nat.le_of_ble_eq_true rfl⟩ dX1_countLent_13 ?_
    refine g_if_eq (pc := 16) (tgt := 38) C dX1_countLent_16 (by decide) (by split <;> omega) (fun h16 => ?_) (fun h16 => ?_)
    · rw [if_pos (by omega)] at h16
      omega
    · refine g_aload_0 (pc := 19) C dX1_countLent_19 ?_
      refine g_get_X1_26 (pc := 20) C (by omega) dX1_countLent_20 ?_
      refine g_iload_4 (pc := 23) C dX1_countLent_23 ?_
      first | refine g_aldn_2 (pc := 25) C (by omega) (by omega) dX1_countLent_25 ?_ | refine g_ald_2 (pc := 25) C (by omega) (by omega) dX1_countLent_25 ?_
      rw [e8]
      refine g_if_eq (pc := 26) (tgt := 32) C dX1_countLent_26 (by decide) (by omega) (fun h26 => ?_) (fun h26 => ?_)
      · refine g_iinc_4 (pc := 32) C dX1_countLent_32 ?_
        refine g_goto (pc := 35) (tgt := 5) C dX1_countLent_35 (by decide) ?_
        rw [if_neg (by omega)] at e9
        exact g_eq rfl (by rw [e9, Int.add_zero, Int.add_assoc]; rfl) rfl (ih () (by omega) (by omega))
      · refine g_iinc_3 (pc := 29) C dX1_countLent_29 ?_
        refine g_iinc_4 (pc := 32) C dX1_countLent_32 ?_
        refine g_goto (pc := 35) (tgt := 5) C dX1_countLent_35 (by decide) ?_
        rw [if_pos (by omega)] at e9
        exact g_eq rfl (by rw [e9, Int.add_assoc a]; rfl) rfl (ih () (by omega) (by omega))
theorem k_X1_lentInItself {l : Launch} {cs : CSt} {np : Nat} {ad : Nat → Nat} {T : MT} (hV : VC np T) (hA : VA T) (x : Int) (hx : isS T x) : KD l cs yX1_lentInItself (Cond.code yX1_lentInItself cX1_lentInItself 2 (some .int) :: GW) 4 0 0 [.ref (ad 0), grf ad x] np ad T 0 (some (.int (zI (liiC T x)))) (np, ad, T) := by
  have hV0 := hV.s hx
  have hA0 := hA.1
  refine KC_of (cc := cX1_lentInItself) (nL := 2) (rt := (some .int)) (by decide) (by simp [grf_cat, cat_int, cat_ref]) (by simp) ?_
  intro p e s m args below meth c A C hE hin
  refine g_eq (lv2 := [some (.ref (ad 0)), some (grf ad x)]) rfl rfl rfl ?_
  refine g_aload_0 (pc := 0) C dX1_lentInItself_0 ?_
  refine g_get_X1_30 (pc := 1) C (by omega) dX1_lentInItself_1 ?_
  refine g_if_eq (pc := 4) (tgt := 15) C dX1_lentInItself_4 (by decide) (by omega) (fun h4 => ?_) (fun h4 => ?_)
  · refine g_iconst (pc := 15) C dX1_lentInItself_15 ?_
    refine g_goto (pc := 16) (tgt := 31) C dX1_lentInItself_16 (by decide) ?_
    refine g_iret (pc := 31) C (Nat.le_of_ble_eq_true rfl) (Nat.le_of_ble_eq_true rfl) dX1_lentInItself_31 ?_
    exact ⟨rfl, by rw [liiC, if_pos (Or.inl h4)], rfl⟩
  · refine g_aload_0 (pc := 7) C dX1_lentInItself_7 ?_
    refine g_sload_1 (pc := 8) C dX1_lentInItself_8 ?_
    refine g_cY1Pv (pc := 9) C cs_X1_97 (k_X1_hasChildren hV x hx) ⟨Nat.le_of_ble_eq_true rfl, Nat.le_of_ble_eq_true rfl⟩ (by omega) (Nat.le_of_ble_eq_true rfl) ⟨Nat.le_of_ble_eq_true rfl, Nat.le_of_ble_eq_true rfl⟩ dX1_lentInItself_9 ?_
    refine g_if_eq (pc := 12) (tgt := 19) C dX1_lentInItself_12 (by decide) (by split <;> omega) (fun h12 => ?_) (fun h12 => ?_)
    · have h12b : ¬ cntC T x (T 15 x.toNat) (T 16 x.toNat) 60 > 0 := by
        intro h
        rw [if_pos h] at h12
        omega
      refine g_aload_0 (pc := 19) C dX1_lentInItself_19 ?_
      refine g_sload_1 (pc := 20) C dX1_lentInItself_20 ?_
      first | refine g_getn_X1_101 (pc := 21) C (by omega) dX1_lentInItself_21 ?_ | refine g_get_X1_101 (pc := 21) C (by omega) dX1_lentInItself_21 ?_
      refine g_sload_1 (pc := 24) C dX1_lentInItself_24 ?_
      refine g_cS0Pv (pc := 25) C cs_X1_104 (k_X0_end x (by omega)) ⟨Nat.le_of_ble_eq_true rfl, Nat.le_of_ble_eq_true rfl⟩ (by omega) (Nat.le_of_ble_eq_true rfl) ⟨Nat.le_of_ble_eq_true rfl, Nat.le_of_ble_eq_true rfl⟩ dX1_lentInItself_25 ?_
      refine g_cY2Pv (pc := 28) C cs_X1_108 (k_X1_countLent (by omega) hA _ _ (by omega)) ⟨Nat.le_of_ble_eq_true rfl, Nat.le_of_ble_eq_true rfl⟩ (by omega) (Nat.le_of_ble_eq_true rfl) ⟨Nat.le_of_ble_eq_true rfl, Nat.le_of_ble_eq_true rfl⟩ dX1_lentInItself_28 ?_
      refine g_iret (pc := 31) C (Nat.le_of_ble_eq_true rfl) (Nat.le_of_ble_eq_true rfl) dX1_lentInItself_31 ?_
      exact ⟨rfl, by rw [liiC, if_neg (by rintro (h | h); exact h4 h; exact h12b h), show T 15 x.toNat + T 16 x.toNat - T 15 x.toNat = T 16 x.toNat by omega], rfl⟩
    · have h12b : cntC T x (T 15 x.toNat) (T 16 x.toNat) 60 > 0 := by
        split at h12
        · assumption
        · omega
      refine g_iconst (pc := 15) C dX1_lentInItself_15 ?_
      refine g_goto (pc := 16) (tgt := 31) C dX1_lentInItself_16 (by decide) ?_
      refine g_iret (pc := 31) C (Nat.le_of_ble_eq_true rfl) (Nat.le_of_ble_eq_true rfl) dX1_lentInItself_31 ?_
      exact ⟨rfl, by rw [liiC, if_pos (Or.inr h12b)], rfl⟩
theorem k_X1_checkCarving {l : Launch} {cs : CSt} {np : Nat} {ad : Nat → Nat} {T : MT} (hV : VC np T) (hA : VA T) (x S : Int) (hx : isS T x) (hS : -2147483648 ≤ S ∧ S < 2147483648) : KD l cs yX1_checkCarving (Cond.code yX1_checkCarving cX1_checkCarving 3 none :: GW) 6 1 6 [.ref (ad 0), grf ad x, .int (zI S)] np ad T (exq (T 0 2 < 60 ∧ S < T 16 x.toNat ∧ liiC T x ≤ 0) 3) none (np, ad, T) := by
  have hV0 := hV.s hx
  have hV1 := hV.1
  have hb := liiC_bd T x (by omega)
  refine KC_of (cc := cX1_checkCarving) (nL := 3) (rt := none) (by decide) (by simp [grf_cat, cat_int, cat_ref]) (by simp) ?_
  intro p e s m args below meth c A C hE hin
  refine g_eq (lv2 := [some (.ref (ad 0)), some (grf ad x), some (.int (zI S))]) rfl rfl rfl ?_
  refine g_aload_0 (pc := 0) C dX1_checkCarving_0 ?_
  refine g_get_X1_22 (pc := 1) C (by omega) dX1_checkCarving_1 ?_
  refine g_bipush (pc := 4) C dX1_checkCarving_4 (by decide) ?_
  refine g_icmp_ge (pc := 6) (tgt := 25) C dX1_checkCarving_6 (by decide) (by omega) (by omega) (fun h6 => ?_) (fun h6 => ?_)
  · refine g_throw_3 (pc := 25) C hE (text := "nothing of the size can be carved in the span") (by decide) dX1_checkCarving_25 dX1_checkCarving_28 dX1_checkCarving_29 dX1_checkCarving_31 dX1_checkCarving_34 ⟨Nat.le_of_ble_eq_true rfl, Nat.le_of_ble_eq_true rfl, Nat.le_of_ble_eq_true rfl, Nat.le_of_ble_eq_true rfl⟩ ⟨Nat.le_of_ble_eq_true rfl, Nat.le_of_ble_eq_true rfl⟩ ?_
    have h5 : ¬ (T 0 2 < 60 ∧ S < T 16 x.toNat ∧ liiC T x ≤ 0) := by omega
    exact ⟨by rw [exq_f h5]; decide, by rw [exq_f h5], rfl⟩
  · refine g_iload_2 (pc := 9) C dX1_checkCarving_9 ?_
    refine g_sload_1 (pc := 10) C dX1_checkCarving_10 ?_
    first | refine g_getn_X1_114 (pc := 11) C (by omega) dX1_checkCarving_11 ?_ | refine g_get_X1_114 (pc := 11) C (by omega) dX1_checkCarving_11 ?_
    refine g_icmp_ge (pc := 14) (tgt := 25) C dX1_checkCarving_14 (by decide) (by omega) (by omega) (fun h14 => ?_) (fun h14 => ?_)
    · refine g_throw_3 (pc := 25) C hE (text := "nothing of the size can be carved in the span") (by decide) dX1_checkCarving_25 dX1_checkCarving_28 dX1_checkCarving_29 dX1_checkCarving_31 dX1_checkCarving_34 ⟨Nat.le_of_ble_eq_true rfl, Nat.le_of_ble_eq_true rfl, Nat.le_of_ble_eq_true rfl, Nat.le_of_ble_eq_true rfl⟩ ⟨Nat.le_of_ble_eq_true rfl, Nat.le_of_ble_eq_true rfl⟩ ?_
      have h5 : ¬ (T 0 2 < 60 ∧ S < T 16 x.toNat ∧ liiC T x ≤ 0) := by omega
      exact ⟨by rw [exq_f h5]; decide, by rw [exq_f h5], rfl⟩
    · refine g_aload_0 (pc := 17) C dX1_checkCarving_17 ?_
      refine g_sload_1 (pc := 18) C dX1_checkCarving_18 ?_
      refine g_cY1Pv (pc := 19) C cs_X1_160 (k_X1_lentInItself hV hA x hx) ⟨Nat.le_of_ble_eq_true rfl, Nat.le_of_ble_eq_true rfl⟩ (by omega) (Nat.le_of_ble_eq_true rfl) ⟨Nat.le_of_ble_eq_true rfl, Nat.le_of_ble_eq_true rfl⟩ dX1_checkCarving_19 ?_
      refine g_if_le (pc := 22) (tgt := 35) C dX1_checkCarving_22 (by decide) (by omega) (fun h22 => ?_) (fun h22 => ?_)
      · refine g_vret (pc := 35) C (Nat.le_of_ble_eq_true rfl) (Nat.le_of_ble_eq_true rfl) dX1_checkCarving_35 ?_
        exact ⟨exq_t (by omega), rfl, rfl⟩
      · refine g_throw_3 (pc := 25) C hE (text := "nothing of the size can be carved in the span") (by decide) dX1_checkCarving_25 dX1_checkCarving_28 dX1_checkCarving_29 dX1_checkCarving_31 dX1_checkCarving_34 ⟨Nat.le_of_ble_eq_true rfl, Nat.le_of_ble_eq_true rfl, Nat.le_of_ble_eq_true rfl, Nat.le_of_ble_eq_true rfl⟩ ⟨Nat.le_of_ble_eq_true rfl, Nat.le_of_ble_eq_true rfl⟩ ?_
        have h5 : ¬ (T 0 2 < 60 ∧ S < T 16 x.toNat ∧ liiC T x ≤ 0) := by omega
        exact ⟨by rw [exq_f h5]; decide, by rw [exq_f h5], rfl⟩
theorem k_X1_childAt {l : Launch} {cs : CSt} {np : Nat} {ad : Nat → Nat} {T : MT} (hV : VC np T) (x a : Int) (hx : 0 ≤ x ∧ x + 13 < np) (ha : -2147483648 ≤ a ∧ a < 2147483648) : KD l cs yX1_childAt (Cond.code yX1_childAt cX1_childAt 7 (some (.object "PrefixYard$Span")) :: GW) 2 0 0 [.ref (ad 0), grf ad x, .int (zI a)] np ad T 0 (some (grf ad (chC T x a 60))) (np, ad, T) := by
  have hV0 := hV.1
  refine KC_of (cc := cX1_childAt) (nL := 7) (rt := (some (.object "PrefixYard$Span"))) (by decide) (by simp [grf_cat, cat_int, cat_ref]) (by simp) ?_
  intro p e s m args below meth c A C hE hin
  refine g_eq (lv2 := [some (.ref (ad 0)), some (grf ad x), some (.int (zI a)), none, none, none, none]) rfl rfl rfl ?_
  refine g_aload_0 (pc := 0) C dX1_childAt_0 ?_
  refine g_get_X1_18 (pc := 1) C (by omega) dX1_childAt_1 ?_
  refine g_astore_3 (pc := 4) C dX1_childAt_4 ?_
  refine g_aload_3 (pc := 5) C dX1_childAt_5 ?_
  refine g_alen1 (pc := 6) C (by omega) dX1_childAt_6 ?_
  refine g_istore_4 (pc := 7) C dX1_childAt_7 ?_
  refine g_iconst (pc := 9) C dX1_childAt_9 ?_
  refine g_istore_5 (pc := 10) C dX1_childAt_10 ?_
  refine g_loop (σ := Option Value) (Tf := fun _ _ => T) (lvf := fun j a8 => [some (.ref (ad 0)), some (grf ad x), some (.int (zI a)), some (.ref (ad 1)), some (.int (zI 60)), some (.int (zI (j : Int))), a8]) (inv := fun j _ => chA (T 1) (T 14) (T 15) (T 16) x a j = -1) (N := 60) 0 none rfl (by omega) (fun j a8 hi hN ih => ?_)
  refine g_iload_5 (pc := 12) C dX1_childAt_12 ?_
  refine g_iload_4 (pc := 14) C dX1_childAt_14 ?_
  refine g_icmp_ge (pc := 16) (tgt := 57) C dX1_childAt_16 (by decide) (by omega) (by omega) (fun h16 => ?_) (fun h16 => ?_)
  · refine g_snull (pc := 57) C dX1_childAt_57 ?_
    refine g_aret (pc := 58) C grf_or (Nat.le_of_ble_eq_true rfl) (Nat.le_of_ble_eq_true rfl) dX1_childAt_58 ?_
    obtain rfl : j = 60 := by omega
    exact ⟨rfl, by rw [chC_eq, hi], rfl⟩
  · have hj := hV.2 j (by omega)
    have e9 : chA (T 1) (T 14) (T 15) (T 16) x a (j + 1) = if 0 ≤ chA (T 1) (T 14) (T 15) (T 16) x a j then chA (T 1) (T 14) (T 15) (T 16) x a j else if T 1 j ≠ 0 ∧ T 14 j = x ∧ T 15 j ≤ a ∧ a < T 15 j + T 16 j then (j : Int) else -1 := rfl
    rw [if_neg (by omega)] at e9
    refine g_aload_3 (pc := 19) C dX1_childAt_19 ?_
    refine g_iload_5 (pc := 20) C dX1_childAt_20 ?_
    first | refine g_aaldn (pc := 22) C (by omega) (by omega) dX1_childAt_22 ?_ | refine g_aald (pc := 22) C (by omega) (by omega) dX1_childAt_22 ?_
    rcases mkd_or T j with ⟨m1, m2⟩ | ⟨m1, m2⟩
    · rw [m2]
      refine g_sstore_6 (pc := 23) C dX1_childAt_23 ?_
      refine g_sload_6 (pc := 25) C dX1_childAt_25 ?_
      refine g_ifnull (pc := 27) (tgt := 51) C dX1_childAt_27 (by decide) (fun h27 => ?_) (fun h27 => ?_)
      · refine g_iinc_5 (pc := 51) C dX1_childAt_51 ?_
        refine g_goto (pc := 54) (tgt := 12) C dX1_childAt_54 (by decide) ?_
        rw [if_neg (by omega)] at e9
        exact ih _ (by omega) e9
      · omega
    · rw [m2]
      refine g_sstore_6 (pc := 23) C dX1_childAt_23 ?_
      refine g_sload_6 (pc := 25) C dX1_childAt_25 ?_
      refine g_ifnull (pc := 27) (tgt := 51) C dX1_childAt_27 (by decide) (fun h27 => ?_) (fun h27 => ?_)
      · omega
      · refine g_sload_6 (pc := 30) C dX1_childAt_30 ?_
        first | refine g_getn_X1_94 (pc := 32) C (by omega) dX1_childAt_32 ?_ | refine g_get_X1_94 (pc := 32) C (by omega) dX1_childAt_32 ?_
        refine g_sload_1 (pc := 35) C dX1_childAt_35 ?_
        refine g_acmp_ne (pc := 36) (tgt := 51) C dX1_childAt_36 (by decide) (by omega) (by omega) (fun h36 => ?_) (fun h36 => ?_)
        · refine g_iinc_5 (pc := 51) C dX1_childAt_51 ?_
          refine g_goto (pc := 54) (tgt := 12) C dX1_childAt_54 (by decide) ?_
          rw [if_neg (by omega)] at e9
          exact ih _ (by omega) e9
        · refine g_sload_6 (pc := 39) C dX1_childAt_39 ?_
          refine g_iload_2 (pc := 41) C dX1_childAt_41 ?_
          refine g_cS1Pv (pc := 42) C cs_X1_84 (kn_X0_has j a (by omega) (by omega) ha) ⟨Nat.le_of_ble_eq_true rfl, Nat.le_of_ble_eq_true rfl⟩ (by omega) (Nat.le_of_ble_eq_true rfl) ⟨Nat.le_of_ble_eq_true rfl, Nat.le_of_ble_eq_true rfl⟩ dX1_childAt_42 ?_
          refine g_if_eq (pc := 45) (tgt := 51) C dX1_childAt_45 (by decide) (by split <;> omega) (fun h45 => ?_) (fun h45 => ?_)
          · refine g_iinc_5 (pc := 51) C dX1_childAt_51 ?_
            refine g_goto (pc := 54) (tgt := 12) C dX1_childAt_54 (by decide) ?_
            rw [if_neg (by split at h45 <;> omega)] at e9
            exact ih _ (by omega) e9
          · rw [if_pos (by split at h45 <;> omega)] at e9
            have e11 : chA (T 1) (T 14) (T 15) (T 16) x a 60 = chA (T 1) (T 14) (T 15) (T 16) x a (j + 1) := chA_st (T 1) (T 14) (T 15) (T 16) x a (by show 0 ≤ chA (T 1) (T 14) (T 15) (T 16) x a (j + 1); rw [e9]; omega) (by omega)
            refine g_sload_6 (pc := 48) C dX1_childAt_48 ?_
            refine g_aret (pc := 50) C grf_or (Nat.le_of_ble_eq_true rfl) (Nat.le_of_ble_eq_true rfl) dX1_childAt_50 ?_
            exact ⟨rfl, by rw [chC_eq, e11, e9], rfl⟩
theorem k_X1_outsideChildren {l : Launch} {cs : CSt} {np : Nat} {ad : Nat → Nat} {T : MT} (hV : VC np T) (x : Int) (hx : 0 ≤ x ∧ x + 13 < np) : KD l cs yX1_outsideChildren (Cond.code yX1_outsideChildren cX1_outsideChildren 7 (some .int) :: GW) 0 0 0 [.ref (ad 0), grf ad x] np ad T 0 (some (.int (zI (outC T x)))) (np, ad, T) := by
  have hV0 := hV.1
  refine KC_of (cc := cX1_outsideChildren) (nL := 7) (rt := (some .int)) (by decide) (by simp [grf_cat, cat_int, cat_ref]) (by simp) ?_
  intro p e s m args below meth c A C hE hin
  refine g_eq (lv2 := [some (.ref (ad 0)), some (grf ad x), none, none, none, none, none]) rfl rfl rfl ?_
  refine g_sload_1 (pc := 0) C dX1_outsideChildren_0 ?_
  first | refine g_getn_X1_114 (pc := 1) C (by omega) dX1_outsideChildren_1 ?_ | refine g_get_X1_114 (pc := 1) C (by omega) dX1_outsideChildren_1 ?_
  refine g_istore_2 (pc := 4) C dX1_outsideChildren_4 ?_
  refine g_aload_0 (pc := 5) C dX1_outsideChildren_5 ?_
  refine g_get_X1_18 (pc := 6) C (by omega) dX1_outsideChildren_6 ?_
  refine g_astore_3 (pc := 9) C dX1_outsideChildren_9 ?_
  refine g_aload_3 (pc := 10) C dX1_outsideChildren_10 ?_
  refine g_alen1 (pc := 11) C (by omega) dX1_outsideChildren_11 ?_
  refine g_istore_4 (pc := 12) C dX1_outsideChildren_12 ?_
  refine g_iconst (pc := 14) C dX1_outsideChildren_14 ?_
  refine g_istore_5 (pc := 15) C dX1_outsideChildren_15 ?_
  refine g_eq (lv2 := [some (.ref (ad 0)), some (grf ad x), some (.int (zI (T 16 x.toNat - chS (T 1) (T 14) (T 16) x 0))), some (.ref (ad 1)), some (.int (zI 60)), some (.int (zI (0 : Nat))), none]) rfl (by rw [show chS (T 1) (T 14) (T 16) x 0 = 0 from rfl, Int.sub_zero]; rfl) rfl ?_
  refine g_loop (σ := Option Value) (Tf := fun _ _ => T) (lvf := fun j a8 => [some (.ref (ad 0)), some (grf ad x), some (.int (zI (T 16 x.toNat - chS (T 1) (T 14) (T 16) x j))), some (.ref (ad 1)), some (.int (zI 60)), some (.int (zI (j : Int))), a8]) (inv := fun _ _ => True) (N := 60) 0 none trivial (by omega) (fun j a8 _ hN ih => ?_)
  refine g_iload_5 (pc := 17) C dX1_outsideChildren_17 ?_
  refine g_iload_4 (pc := 19) C dX1_outsideChildren_19 ?_
  refine g_icmp_ge (pc := 21) (tgt := 58) C dX1_outsideChildren_21 (by decide) (by omega) (by omega) (fun h21 => ?_) (fun h21 => ?_)
  · refine g_iload_2 (pc := 58) C dX1_outsideChildren_58 ?_
    refine g_iret (pc := 59) C (Nat.le_of_ble_eq_true rfl) (Nat.le_of_ble_eq_true rfl) dX1_outsideChildren_59 ?_
    obtain rfl : j = 60 := by omega
    exact ⟨rfl, rfl, rfl⟩
  · have hj := hV.2 j (by omega)
    have e9 : chS (T 1) (T 14) (T 16) x (j + 1) = chS (T 1) (T 14) (T 16) x j + (if T 1 j ≠ 0 ∧ T 14 j = x then T 16 j else 0) := rfl
    refine g_aload_3 (pc := 24) C dX1_outsideChildren_24 ?_
    refine g_iload_5 (pc := 25) C dX1_outsideChildren_25 ?_
    first | refine g_aaldn (pc := 27) C (by omega) (by omega) dX1_outsideChildren_27 ?_ | refine g_aald (pc := 27) C (by omega) (by omega) dX1_outsideChildren_27 ?_
    rcases mkd_or T j with ⟨m1, m2⟩ | ⟨m1, m2⟩
    · rw [m2]
      refine g_sstore_6 (pc := 28) C dX1_outsideChildren_28 ?_
      refine g_sload_6 (pc := 30) C dX1_outsideChildren_30 ?_
      refine g_ifnull (pc := 32) (tgt := 52) C dX1_outsideChildren_32 (by decide) (fun h32 => ?_) (fun h32 => ?_)
      · refine g_iinc_5 (pc := 52) C dX1_outsideChildren_52 ?_
        refine g_goto (pc := 55) (tgt := 17) C dX1_outsideChildren_55 (by decide) ?_
        rw [if_neg (by omega)] at e9
        exact g_eq rfl (by rw [e9, Int.add_zero]; rfl) rfl (ih _ (by omega) trivial)
      · omega
    · rw [m2]
      refine g_sstore_6 (pc := 28) C dX1_outsideChildren_28 ?_
      refine g_sload_6 (pc := 30) C dX1_outsideChildren_30 ?_
      refine g_ifnull (pc := 32) (tgt := 52) C dX1_outsideChildren_32 (by decide) (fun h32 => ?_) (fun h32 => ?_)
      · omega
      · refine g_sload_6 (pc := 35) C dX1_outsideChildren_35 ?_
        first | refine g_getn_X1_94 (pc := 37) C (by omega) dX1_outsideChildren_37 ?_ | refine g_get_X1_94 (pc := 37) C (by omega) dX1_outsideChildren_37 ?_
        refine g_sload_1 (pc := 40) C dX1_outsideChildren_40 ?_
        refine g_acmp_ne (pc := 41) (tgt := 52) C dX1_outsideChildren_41 (by decide) (by omega) (by omega) (fun h41 => ?_) (fun h41 => ?_)
        · refine g_iinc_5 (pc := 52) C dX1_outsideChildren_52 ?_
          refine g_goto (pc := 55) (tgt := 17) C dX1_outsideChildren_55 (by decide) ?_
          rw [if_neg (by omega)] at e9
          exact g_eq rfl (by rw [e9, Int.add_zero]; rfl) rfl (ih _ (by omega) trivial)
        · refine g_iload_2 (pc := 44) C dX1_outsideChildren_44 ?_
          refine g_sload_6 (pc := 45) C dX1_outsideChildren_45 ?_
          first | refine g_getn_X1_114 (pc := 47) C (by omega) dX1_outsideChildren_47 ?_ | refine g_get_X1_114 (pc := 47) C (by omega) dX1_outsideChildren_47 ?_
          refine g_isub (pc := 50) C dX1_outsideChildren_50 ?_
          refine g_istore_2 (pc := 51) C dX1_outsideChildren_51 ?_
          refine g_iinc_5 (pc := 52) C dX1_outsideChildren_52 ?_
          refine g_goto (pc := 55) (tgt := 17) C dX1_outsideChildren_55 (by decide) ?_
          rw [if_pos (by omega)] at e9
          exact g_eq rfl (by rw [e9, ← Int.sub_sub]; rfl) rfl (ih _ (by omega) trivial)
theorem k_X1_greatestBlock {l : Launch} {cs : CSt} {np : Nat} {ad : Nat → Nat} {T : MT} (a b : Int) (ha : 0 ≤ a ∧ a ≤ 4096 ∧ 0 ≤ b ∧ b ≤ 4096) : KD l cs yX1_greatestBlock (Cond.code yX1_greatestBlock cX1_greatestBlock 4 (some .int) :: GW) 0 0 0 [.int (zI a), .int (zI b)] np ad T 0 (some (.int (zI (gbk a b)))) (np, ad, T) := by
  refine KC_of (cc := cX1_greatestBlock) (nL := 4) (rt := (some .int)) (by decide) (by simp [grf_cat, cat_int, cat_ref]) (by simp) ?_
  intro p e s m args below meth c A C hE hin
  refine g_eq (lv2 := [some (.int (zI a)), some (.int (zI b)), none, none]) rfl rfl rfl ?_
  refine g_iconst (pc := 0) C dX1_greatestBlock_0 ?_
  refine g_istore_2 (pc := 1) C dX1_greatestBlock_1 ?_
  refine g_iconst (pc := 2) C dX1_greatestBlock_2 ?_
  refine g_istore_3 (pc := 3) C dX1_greatestBlock_3 ?_
  refine g_loop (σ := Int) (Tf := fun _ _ => T) (lvf := fun j w => [some (.int (zI a)), some (.int (zI b)), some (.int (zI w)), some (.int (zI (2 * w)))]) (inv := fun j w => gbf a b (13 - j) w = gbk a b ∧ w = 2 ^ j) (N := 12) 0 1 ⟨rfl, rfl⟩ (by omega) (fun j w hi hN ih => ?_)
  obtain ⟨h1, h2⟩ := hi
  have h3 : gbf a b (13 - j) w = if 2 * w ≤ b - a ∧ 2 * w ≤ 4096 ∧ a % (2 * w) = 0 then gbf a b (13 - (j + 1)) (2 * w) else w := by
    rw [show 13 - j = (13 - (j + 1)) + 1 by omega]
    rfl
  have hw := p2_case hN h2
  refine g_iload_3 (pc := 4) C dX1_greatestBlock_4 ?_
  refine g_iload_1 (pc := 5) C dX1_greatestBlock_5 ?_
  refine g_iload_0 (pc := 6) C dX1_greatestBlock_6 ?_
  refine g_isub (pc := 7) C dX1_greatestBlock_7 ?_
  refine g_icmp_gt (pc := 8) (tgt := 35) C dX1_greatestBlock_8 (by decide) (by omega) (by omega) (fun h8 => ?_) (fun h8 => ?_)
  · refine g_iload_2 (pc := 35) C dX1_greatestBlock_35 ?_
    refine g_iret (pc := 36) C (Nat.le_of_ble_eq_true rfl) (Nat.le_of_ble_eq_true rfl) dX1_greatestBlock_36 ?_
    rw [if_neg (by omega)] at h3
    exact ⟨rfl, by rw [← h1, h3], rfl⟩
  · refine g_iload_3 (pc := 11) C dX1_greatestBlock_11 ?_
    refine g_sipush (pc := 12) C dX1_greatestBlock_12 (by decide) ?_
    refine g_icmp_gt (pc := 15) (tgt := 35) C dX1_greatestBlock_15 (by decide) (by omega) (by omega) (fun h15 => ?_) (fun h15 => ?_)
    · refine g_iload_2 (pc := 35) C dX1_greatestBlock_35 ?_
      refine g_iret (pc := 36) C (Nat.le_of_ble_eq_true rfl) (Nat.le_of_ble_eq_true rfl) dX1_greatestBlock_36 ?_
      rw [if_neg (by omega)] at h3
      exact ⟨rfl, by rw [← h1, h3], rfl⟩
    · have h4 := (hw.2.2 (by omega)).1
      have h5 := and_p2 (a := a) (t := 2 * w) (by omega) h4
      have h6 : 0 ≤ a % (2 * w) := Int.emod_nonneg _ (by omega)
      have h7 : a % (2 * w) < 2 * w := Int.emod_lt_of_pos _ (by omega)
      refine g_iload_0 (pc := 18) C dX1_greatestBlock_18 ?_
      refine g_iload_3 (pc := 19) C dX1_greatestBlock_19 ?_
      refine g_iconst (pc := 20) C dX1_greatestBlock_20 ?_
      refine g_isub (pc := 21) C dX1_greatestBlock_21 ?_
      refine g_iandz (pc := 22) C dX1_greatestBlock_22 h5 ?_
      refine g_if_ne (pc := 23) (tgt := 35) C dX1_greatestBlock_23 (by decide) (by omega) (fun h23 => ?_) (fun h23 => ?_)
      · refine g_iload_2 (pc := 35) C dX1_greatestBlock_35 ?_
        refine g_iret (pc := 36) C (Nat.le_of_ble_eq_true rfl) (Nat.le_of_ble_eq_true rfl) dX1_greatestBlock_36 ?_
        rw [if_neg (by omega)] at h3
        exact ⟨rfl, by rw [← h1, h3], rfl⟩
      · refine g_iload_3 (pc := 26) C dX1_greatestBlock_26 ?_
        refine g_istore_2 (pc := 27) C dX1_greatestBlock_27 ?_
        refine g_iload_3 (pc := 28) C dX1_greatestBlock_28 ?_
        refine g_iconst (pc := 29) C dX1_greatestBlock_29 ?_
        refine g_imul (pc := 30) C dX1_greatestBlock_30 ?_
        refine g_istore_3 (pc := 31) C dX1_greatestBlock_31 ?_
        refine g_goto (pc := 32) (tgt := 4) C dX1_greatestBlock_32 (by decide) ?_
        rw [if_pos (by omega)] at h3
        exact g_eq rfl (by rw [Int.mul_comm (2 * w) 2]) rfl (ih (2 * w) (by omega) ⟨by rw [← h3, h1], by rw [h2, Int.pow_succ, Int.mul_comm]⟩)
