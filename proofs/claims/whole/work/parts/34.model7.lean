noncomputable def blMC (T : MT) (o : Int) : Int := hid (blM T o 13)
theorem blMC_eq (T : MT) (o : Int) : blMC T o = blM T o 13 := hid_eq _
theorem sz2_12 {i : Nat} (h : sz2 1 i ≤ 4096) : i ≤ 12 ∧ pw13 (sz2 1 i) := by
  have hi : i ≤ 12 := by
    by_cases e : i ≤ 12
    · exact e
    · have := sz2_lt (S := 1) (by decide) (show 12 < i by omega)
      have e2 : sz2 1 12 = 4096 := by decide
      omega
  exact ⟨hi, sz2_pw (by unfold szp; omega) h⟩
theorem pw13_d {t : Int} (h : pw13 t) : 4096 / t * t = 4096 ∧ 1 ≤ 4096 / t ∧ 4096 / t ≤ 4096 := by
  unfold pw13 at h
  rcases h with rfl | rfl | rfl | rfl | rfl | rfl | rfl | rfl | rfl | rfl | rfl | rfl | rfl <;> decide
set_option maxRecDepth 100000 in
theorem k_X2_blocks {l : Launch} {cs : CSt} {np : Nat} {ad : Nat → Nat} {T : MT} (h13 : 13 ≤ np) (hV : VM T) (o : Int) (ho : -2147483648 ≤ o ∧ o < 2147483648) : KD l cs yX2_blocks (Cond.code yX2_blocks cX2_blocks 5 (some .int) :: GW) 2 0 0 [.ref (ad 4), .int (zI o)] np ad T 0 (some (.int (zI (if 0 ≤ o ∧ o < 8 then blMC T o else 0)))) (np, ad, if 0 ≤ o ∧ o < 8 then lyO (mst T 4 0 0) o 4096 else mst T 4 0 1) := by
  have hV0 := hV.1
  have b10 : bz ((1 : Int) = 0) = 0 := bz_f (by decide)
  have b00 : bz ((0 : Int) = 0) = 1 := bz_t (by decide)
  refine KC_of (cc := cX2_blocks) (nL := 5) (rt := (some .int)) (by decide) (by simp [grf_cat, cat_int, cat_ref]) (by simp) ?_
  intro p e s m args below meth c A C hE hin
  refine g_eq (lv2 := [some (.ref (ad 4)), some (.int (zI o)), none, none, none]) rfl rfl rfl ?_
  by_cases hM : 0 ≤ o ∧ o < 8
  · have bM := bz_t hM
    have hf : ∀ i, i ≤ 4096 → lyO (mst T 4 0 0) o 4096 11 i = smC T o i := fun i hi => by rw [lyO_11 (hV.th 0).1.2.2.2.2.2.2 o hi, smC_th]
    have hb := smC_bd T o
    refine g_aload_0 (pc := 0) C dX2_blocks_0 ?_
    refine g_iload_1 (pc := 1) C dX2_blocks_1 ?_
    refine g_cT1Pv (pc := 2) C cs_X2_67 (k_X2_isOwner o ho) ⟨Nat.le_of_ble_eq_true rfl, Nat.le_of_ble_eq_true rfl⟩ (Nat.le_of_ble_eq_true rfl) ⟨Nat.le_of_ble_eq_true rfl, Nat.le_of_ble_eq_true rfl⟩ dX2_blocks_2 ?_
    refine g_if_eq (pc := 5) (tgt := 12) C dX2_blocks_5 (by decide) (by omega) (fun h5 => absurd h5 (by omega)) (fun _ => ?_)
    refine g_iconst (pc := 8) C dX2_blocks_8 ?_
    refine g_goto (pc := 9) (tgt := 13) C dX2_blocks_9 (by decide) ?_
    refine g_cM1Pv (pc := 13) C cs_X2_81 (k_X2_goesWell h13 0 (by omega)) ⟨Nat.le_of_ble_eq_true rfl, Nat.le_of_ble_eq_true rfl⟩ (by omega) (Nat.le_of_ble_eq_true rfl) ⟨Nat.le_of_ble_eq_true rfl, Nat.le_of_ble_eq_true rfl⟩ dX2_blocks_13 ?_
    refine g_if_ne (pc := 16) (tgt := 21) C dX2_blocks_16 (by decide) (by omega) (fun _ => ?_) (fun h16 => absurd h16 (by omega))
    refine g_aload_0 (pc := 21) C dX2_blocks_21 ?_
    refine g_iload_1 (pc := 22) C dX2_blocks_22 ?_
    refine g_cM1Pn (pc := 23) C cs_X2_113 (k_X2_layOwner h13 (hV.th 0) o hM) ⟨Nat.le_of_ble_eq_true rfl, Nat.le_of_ble_eq_true rfl⟩ (by omega) (Nat.le_of_ble_eq_true rfl) ⟨Nat.le_of_ble_eq_true rfl, Nat.le_of_ble_eq_true rfl⟩ dX2_blocks_23 ?_
    refine g_iconst (pc := 26) C dX2_blocks_26 ?_
    refine g_istore_2 (pc := 27) C dX2_blocks_27 ?_
    refine g_iconst (pc := 28) C dX2_blocks_28 ?_
    refine g_istore_3 (pc := 29) C dX2_blocks_29 ?_
    rw [if_pos hM, if_pos hM]
    generalize lyO (mst T 4 0 0) o 4096 = U at hf ⊢
    refine g_eq (lv2 := [some (.ref (ad 4)), some (.int (zI o)), some (.int (zI (blM T o 0))), some (.int (zI (sz2 1 0))), none]) rfl rfl rfl ?_
    refine g_loop (σ := Option Value) (Tf := fun _ _ => U) (lvf := fun i z => [some (.ref (ad 4)), some (.int (zI o)), some (.int (zI (blM T o i))), some (.int (zI (sz2 1 i))), z]) (inv := fun i _ => sz2 1 i ≤ 8192) (N := 13) 0 none (by decide) (by omega) (fun i z hi hN ih => ?_)
    have hz := sz2_b (S := 1) (by decide) i
    refine g_iload_3 (pc := 30) C dX2_blocks_30 ?_
    refine g_sipush (pc := 31) C dX2_blocks_31 (by decide) ?_
    refine g_icmp_gt (pc := 34) (tgt := 99) C dX2_blocks_34 (by decide) (by omega) (by omega) (fun h34 => ?_) (fun h34 => ?_)
    · have hi13 : i = 13 := by
        by_cases e : i = 13
        · exact e
        · have := sz2_lt (S := 1) (by decide) (show i < 13 by omega)
          have e3 : sz2 1 13 = 2 * sz2 1 12 := rfl
          by_cases e2 : i = 12
          · subst e2
            have e4 : sz2 1 12 = 4096 := by decide
            omega
          · have := sz2_lt (S := 1) (by decide) (show i < 12 by omega)
            have e4 : sz2 1 12 = 4096 := by decide
            omega
      subst hi13
      rw [← blMC_eq]
      refine g_iload_2 (pc := 99) C dX2_blocks_99 ?_
      refine g_iret (pc := 100) C (Nat.le_of_ble_eq_true rfl) (Nat.le_of_ble_eq_true rfl) dX2_blocks_100 ?_
      exact ⟨rfl, rfl, rfl⟩
    · have hp := sz2_12 h34
      have hd := pw13_d hp.2
      have h1b := pw13_b hp.2
      have e7 := sz2_s 1 i
      have e6 : blM T o (i + 1) = blM T o i + blI T o (sz2 1 i) (4096 / sz2 1 i).toNat := by
        show _ + hid _ = _
        rw [hid_eq]
      have hp2 := hp.2
      generalize hB : sz2 1 i = B at *
      generalize hMM : blM T o i = M at *
      refine g_iconst (pc := 37) C dX2_blocks_37 ?_
      refine g_istore_4 (pc := 38) C dX2_blocks_38 ?_
      refine g_eq (lv2 := [some (.ref (ad 4)), some (.int (zI o)), some (.int (zI (M + blI T o B 0))), some (.int (zI B)), some (.int (zI ((0 : Nat) * B)))]) rfl (by simp [blI]) rfl ?_
      refine g_loop (σ := Unit) (Tf := fun _ _ => U) (lvf := fun k _ => [some (.ref (ad 4)), some (.int (zI o)), some (.int (zI (M + blI T o B k))), some (.int (zI B)), some (.int (zI ((k : Int) * B)))]) (inv := fun k _ => (k : Int) ≤ 4096 / B) (N := 8192) 0 () (by omega) (by omega) (fun k _ hk hK ihk => ?_)
      have hkB : (k : Int) * B ≤ 4096 / B * B := Int.mul_le_mul_of_nonneg_right hk (by omega)
      have hkB0 : 0 ≤ (k : Int) * B := Int.mul_nonneg (by omega) (by omega)
      have e8 : (k : Int) * B + B = ((k + 1 : Nat) : Int) * B := by
        rw [Int.natCast_add, Int.add_mul, Int.natCast_one, Int.one_mul]
      have e9 : blI T o B (k + 1) = blI T o B k + (if alM T o (k * B) B ∧ ¬ alM T o (k * B - (k * B) % (2 * B)) (2 * B) then 1 else 0) := rfl
      refine g_iload_4 (pc := 40) C dX2_blocks_40 ?_
      refine g_sipush (pc := 42) C dX2_blocks_42 (by decide) ?_
      refine g_icmp_ge (pc := 45) (tgt := 92) C dX2_blocks_45 (by decide) (by omega) (by omega) (fun h45 => ?_) (fun h45 => ?_)
      · have hk4 : (k : Int) = 4096 / B := by
          by_cases e : (k : Int) = 4096 / B
          · exact e
          · have h9 : ((k : Int) + 1) * B ≤ 4096 / B * B := Int.mul_le_mul_of_nonneg_right (by omega) (by omega)
            rw [Int.add_mul] at h9
            omega
        refine g_iload_3 (pc := 92) C dX2_blocks_92 ?_
        refine g_iconst (pc := 93) C dX2_blocks_93 ?_
        refine g_imul (pc := 94) C dX2_blocks_94 ?_
        refine g_istore_3 (pc := 95) C dX2_blocks_95 ?_
        refine g_goto (pc := 96) (tgt := 30) C dX2_blocks_96 (by decide) ?_
        refine g_eq (lv2 := [some (.ref (ad 4)), some (.int (zI o)), some (.int (zI (blM T o (i + 1)))), some (.int (zI (sz2 1 (i + 1)))), some (.int (zI ((k : Int) * B)))]) rfl (by rw [e7, e6, Int.mul_comm, ← hk4]; rfl) rfl ?_
        exact ih _ (by omega) (by rw [e7]; omega)
      · have hk5 : ((k + 1 : Nat) : Int) ≤ 4096 / B := by
          by_cases e : (k : Int) + 1 ≤ 4096 / B
          · omega
          · have h9 : 4096 / B * B ≤ (k : Int) * B := Int.mul_le_mul_of_nonneg_right (by omega) (by omega)
            omega
        have hm := md_b (B := (k : Int) * B) (t := 2 * B) hkB0 (by omega)
        refine g_iload_2 (pc := 48) C dX2_blocks_48 ?_
        refine g_aload_0 (pc := 49) C dX2_blocks_49 ?_
        refine g_iload_4 (pc := 50) C dX2_blocks_50 ?_
        refine g_iload_3 (pc := 52) C dX2_blocks_52 ?_
        refine g_cM2Pv (pc := 53) C cs_X2_117 (k_X2_isAll h13 (smC T o) hf hb ((k : Int) * B) B (by omega)) ⟨Nat.le_of_ble_eq_true rfl, Nat.le_of_ble_eq_true rfl⟩ (by omega) (Nat.le_of_ble_eq_true rfl) ⟨Nat.le_of_ble_eq_true rfl, Nat.le_of_ble_eq_true rfl⟩ dX2_blocks_53 ?_
        refine g_if_eq (pc := 56) (tgt := 80) C dX2_blocks_56 (by decide) (bz_rg _) (fun h56 => ?_) (fun h56 => ?_)
        · refine g_iconst (pc := 80) C dX2_blocks_80 ?_
          refine g_iadd (pc := 81) C dX2_blocks_81 ?_
          refine g_istore_2 (pc := 82) C dX2_blocks_82 ?_
          refine g_iload_4 (pc := 83) C dX2_blocks_83 ?_
          refine g_iload_3 (pc := 85) C dX2_blocks_85 ?_
          refine g_iadd (pc := 86) C dX2_blocks_86 ?_
          refine g_istore_4 (pc := 87) C dX2_blocks_87 ?_
          refine g_goto (pc := 89) (tgt := 40) C dX2_blocks_89 (by decide) ?_
          rw [e8]
          rw [if_neg (fun h => bz_0 h56 h.1)] at e9
          exact g_eq rfl (by rw [e9, Int.add_zero, Int.add_zero]) rfl (ihk () (by omega) hk5)
        · refine g_aload_0 (pc := 59) C dX2_blocks_59 ?_
          refine g_iload_4 (pc := 60) C dX2_blocks_60 ?_
          refine g_bipush (pc := 62) C dX2_blocks_62 (by decide) ?_
          refine g_iload_3 (pc := 64) C dX2_blocks_64 ?_
          refine g_imul (pc := 65) C dX2_blocks_65 ?_
          refine g_iandz (pc := 66) C dX2_blocks_66 (and_ng2 (by omega) hp2) ?_
          refine g_iconst (pc := 67) C dX2_blocks_67 ?_
          refine g_iload_3 (pc := 68) C dX2_blocks_68 ?_
          refine g_imul (pc := 69) C dX2_blocks_69 ?_
          refine g_cM2Pv (pc := 70) C cs_X2_117 (k_X2_isAll h13 (smC T o) hf hb ((k : Int) * B - (k : Int) * B % (2 * B)) (2 * B) (by omega)) ⟨Nat.le_of_ble_eq_true rfl, Nat.le_of_ble_eq_true rfl⟩ (by omega) (Nat.le_of_ble_eq_true rfl) ⟨Nat.le_of_ble_eq_true rfl, Nat.le_of_ble_eq_true rfl⟩ dX2_blocks_70 ?_
          refine g_if_ne (pc := 73) (tgt := 80) C dX2_blocks_73 (by decide) (bz_rg _) (fun h73 => ?_) (fun h73 => ?_)
          · refine g_iconst (pc := 80) C dX2_blocks_80 ?_
            refine g_iadd (pc := 81) C dX2_blocks_81 ?_
            refine g_istore_2 (pc := 82) C dX2_blocks_82 ?_
            refine g_iload_4 (pc := 83) C dX2_blocks_83 ?_
            refine g_iload_3 (pc := 85) C dX2_blocks_85 ?_
            refine g_iadd (pc := 86) C dX2_blocks_86 ?_
            refine g_istore_4 (pc := 87) C dX2_blocks_87 ?_
            refine g_goto (pc := 89) (tgt := 40) C dX2_blocks_89 (by decide) ?_
            rw [e8]
            rw [if_neg (fun h => h.2 (bz_1 h73))] at e9
            exact g_eq rfl (by rw [e9, Int.add_zero, Int.add_zero]) rfl (ihk () (by omega) hk5)
          · refine g_iconst (pc := 76) C dX2_blocks_76 ?_
            refine g_goto (pc := 77) (tgt := 81) C dX2_blocks_77 (by decide) ?_
            refine g_iadd (pc := 81) C dX2_blocks_81 ?_
            refine g_istore_2 (pc := 82) C dX2_blocks_82 ?_
            refine g_iload_4 (pc := 83) C dX2_blocks_83 ?_
            refine g_iload_3 (pc := 85) C dX2_blocks_85 ?_
            refine g_iadd (pc := 86) C dX2_blocks_86 ?_
            refine g_istore_4 (pc := 87) C dX2_blocks_87 ?_
            refine g_goto (pc := 89) (tgt := 40) C dX2_blocks_89 (by decide) ?_
            rw [e8]
            rw [if_pos ⟨bz_1 h56, bz_0 (by omega)⟩] at e9
            exact g_eq rfl (by rw [e9, Int.add_assoc]) rfl (ihk () (by omega) hk5)
  · have bM := bz_f hM
    refine g_aload_0 (pc := 0) C dX2_blocks_0 ?_
    refine g_iload_1 (pc := 1) C dX2_blocks_1 ?_
    refine g_cT1Pv (pc := 2) C cs_X2_67 (k_X2_isOwner o ho) ⟨Nat.le_of_ble_eq_true rfl, Nat.le_of_ble_eq_true rfl⟩ (Nat.le_of_ble_eq_true rfl) ⟨Nat.le_of_ble_eq_true rfl, Nat.le_of_ble_eq_true rfl⟩ dX2_blocks_2 ?_
    refine g_if_eq (pc := 5) (tgt := 12) C dX2_blocks_5 (by decide) (by omega) (fun _ => ?_) (fun h5 => absurd h5 (by omega))
    refine g_iconst (pc := 12) C dX2_blocks_12 ?_
    refine g_cM1Pv (pc := 13) C cs_X2_81 (k_X2_goesWell h13 1 (by omega)) ⟨Nat.le_of_ble_eq_true rfl, Nat.le_of_ble_eq_true rfl⟩ (by omega) (Nat.le_of_ble_eq_true rfl) ⟨Nat.le_of_ble_eq_true rfl, Nat.le_of_ble_eq_true rfl⟩ dX2_blocks_13 ?_
    refine g_if_ne (pc := 16) (tgt := 21) C dX2_blocks_16 (by decide) (by omega) (fun h16 => absurd h16 (by omega)) (fun _ => ?_)
    refine g_iconst (pc := 19) C dX2_blocks_19 ?_
    refine g_iret (pc := 20) C (Nat.le_of_ble_eq_true rfl) (Nat.le_of_ble_eq_true rfl) dX2_blocks_20 ?_
    exact ⟨rfl, by rw [if_neg hM], by rw [if_neg hM]⟩
