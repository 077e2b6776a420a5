/-! the law: areBlocksSo, areOwnersSo -/
theorem p2j : ∀ j : Nat, j < 13 → pw13 ((2 : Int) ^ j) ∧ (j < 12 → szp ((2 : Int) ^ j)) ∧ (12 ≤ j → (2 : Int) ^ j = 4096) := by
  intro j hj
  have h : j = 0 ∨ j = 1 ∨ j = 2 ∨ j = 3 ∨ j = 4 ∨ j = 5 ∨ j = 6 ∨ j = 7 ∨ j = 8 ∨ j = 9 ∨ j = 10 ∨ j = 11 ∨ j = 12 := by omega
  unfold pw13
  rcases h with rfl | rfl | rfl | rfl | rfl | rfl | rfl | rfl | rfl | rfl | rfl | rfl | rfl <;> decide
theorem pw_szp {t : Int} (h : pw13 t) (h2 : t ≤ 2048) : szp t := by
  unfold pw13 at h
  omega
theorem k_L_areBlocksSo {l : Launch} {cs : CSt} {np : Nat} {ad : Nat → Nat} {T : MT} (hI : Inv np T) {x : Int} (hs : isS T x) : KD l cs yL_areBlocksSo (Cond.code yL_areBlocksSo cL_areBlocksSo 6 (some .boolean) :: GW) 8 200 1200 [.ref (ad 0), .int (zI x)] np ad T 0 (some (.int (zI 1))) (np, ad, T) := by
  have h13 := hI.n13
  have hb := hI.bd hs
  have hgf := (inv_gf_fr hI hs).1
  have hg := hI.geo.2.1 x.toNat (by omega) hs.2.2
  refine KC_of (cc := cL_areBlocksSo) (nL := 6) (rt := (some .boolean)) (by decide) (by simp [grf_cat, cat_int, cat_ref]) (by simp) ?_
  intro p e s m args below meth c A C hE hin
  refine g_eq (lv2 := [some (.ref (ad 0)), some (.int (zI x)), none, none, none, none]) rfl rfl rfl ?_
  refine g_aload_0 (pc := 0) C dL_areBlocksSo_0 ?_
  refine g_iload_1 (pc := 1) C dL_areBlocksSo_1 ?_
  refine g_cY1Pv (pc := 2) C cs_L_99 (q_gf hI hs) ⟨Nat.le_of_ble_eq_true rfl, Nat.le_of_ble_eq_true rfl⟩ (by omega) (Nat.le_of_ble_eq_true rfl) ⟨by show _ ≤ 200; omega, by show _ ≤ 1200; omega⟩ dL_areBlocksSo_2 ?_
  refine g_istore_2 (pc := 5) C dL_areBlocksSo_5 ?_
  refine g_iconst (pc := 6) C dL_areBlocksSo_6 ?_
  refine g_istore_3 (pc := 7) C dL_areBlocksSo_7 ?_
  refine g_iconst (pc := 8) C dL_areBlocksSo_8 ?_
  refine g_istore_4 (pc := 9) C dL_areBlocksSo_9 ?_
  refine g_loopk (σ := Int × Option Value) (k0 := 8) (ck := 9) (n0 := 48) (cn := 54) (Tf := fun _ _ => T) (lvf := fun j z => [some (.ref (ad 0)), some (.int (zI x)), some (.int (zI (gfC T x))), some (.int (zI z.1)), some (.int (zI ((2 : Int) ^ j))), z.2]) (inv := fun j z => 0 ≤ z.1 ∧ z.1 ≤ 60 ∧ ((2 : Int) ^ j < T 16 x.toNat → z.1 ≤ itwC T x (2 ^ j))) (N := 12) 0 (0, none) ⟨Int.le_refl 0, (by decide : (0 : Int) ≤ 60), fun _ => (itw_bd T x _).1⟩ (by omega) (fun j z hz hN ih => ?_)
  have hp := p2j j (by omega)
  have hpb := pw13_b hp.1
  refine g_iload_4 (pc := 11) C dL_areBlocksSo_11 ?_
  refine g_aload_0 (pc := 13) C dL_areBlocksSo_13 ?_
  refine g_iload_1 (pc := 14) C dL_areBlocksSo_14 ?_
  refine g_cY1Pv (pc := 15) C cs_L_90 (q_size hI hs) ⟨Nat.le_of_ble_eq_true rfl, Nat.le_of_ble_eq_true rfl⟩ (by omega) (Nat.le_of_ble_eq_true rfl) ⟨by show _ ≤ 200; omega, by show _ ≤ 1200; omega⟩ dL_areBlocksSo_15 ?_
  refine g_icmp_ge (pc := 18) (tgt := 74) C dL_areBlocksSo_18 (by decide) (by omega) (by omega) (fun h18 => ?_) (fun h18 => ?_)
  · refine g_iload_2 (pc := 74) C dL_areBlocksSo_74 ?_
    refine g_if_lt (pc := 75) (tgt := 116) C dL_areBlocksSo_75 (by decide) (by omega) (fun h75 => absurd h75 (by omega)) (fun _ => ?_)
    refine g_iload_2 (pc := 78) C dL_areBlocksSo_78 ?_
    refine g_aload_0 (pc := 79) C dL_areBlocksSo_79 ?_
    refine g_iload_1 (pc := 80) C dL_areBlocksSo_80 ?_
    refine g_cY1Pv (pc := 81) C cs_L_90 (q_size hI hs) ⟨Nat.le_of_ble_eq_true rfl, Nat.le_of_ble_eq_true rfl⟩ (by omega) (Nat.le_of_ble_eq_true rfl) ⟨by show _ ≤ 200; omega, by show _ ≤ 1200; omega⟩ dL_areBlocksSo_81 ?_
    refine g_icmp_ge (pc := 84) (tgt := 116) C dL_areBlocksSo_84 (by decide) (by omega) (by omega) (fun h84 => absurd h84 (by omega)) (fun _ => ?_)
    refine g_aload_0 (pc := 87) C dL_areBlocksSo_87 ?_
    refine g_iload_1 (pc := 88) C dL_areBlocksSo_88 ?_
    refine g_cY1Pv (pc := 89) C cs_L_90 (q_size hI hs) ⟨Nat.le_of_ble_eq_true rfl, Nat.le_of_ble_eq_true rfl⟩ (by omega) (Nat.le_of_ble_eq_true rfl) ⟨by show _ ≤ 200; omega, by show _ ≤ 1200; omega⟩ dL_areBlocksSo_89 ?_
    refine g_sipush (pc := 92) C dL_areBlocksSo_92 (by decide) ?_
    refine g_icmp_gt (pc := 95) (tgt := 112) C dL_areBlocksSo_95 (by decide) (by omega) (by omega) (fun h95 => ?_) (fun h95 => ?_)
    · refine g_iconst (pc := 112) C dL_areBlocksSo_112 ?_
      refine g_goto (pc := 113) (tgt := 117) C dL_areBlocksSo_113 (by decide) ?_
      refine g_zret (pc := 117) C (by omega) (by omega) (by omega) dL_areBlocksSo_117 ?_
      exact ⟨rfl, rfl, rfl⟩
    · have hS := pw_szp hg.1 h95
      refine g_aload_0 (pc := 98) C dL_areBlocksSo_98 ?_
      refine g_iload_1 (pc := 99) C dL_areBlocksSo_99 ?_
      refine g_aload_0 (pc := 100) C dL_areBlocksSo_100 ?_
      refine g_iload_1 (pc := 101) C dL_areBlocksSo_101 ?_
      refine g_cY1Pv (pc := 102) C cs_L_90 (q_size hI hs) ⟨Nat.le_of_ble_eq_true rfl, Nat.le_of_ble_eq_true rfl⟩ (by omega) (Nat.le_of_ble_eq_true rfl) ⟨by show _ ≤ 200; omega, by show _ ≤ 1200; omega⟩ dL_areBlocksSo_102 ?_
      refine g_cY2Pv (pc := 105) C cs_L_102 (q_itn hI hs hS (Int.lt_irrefl _)) ⟨Nat.le_of_ble_eq_true rfl, Nat.le_of_ble_eq_true rfl⟩ (by omega) (Nat.le_of_ble_eq_true rfl) ⟨by show _ ≤ 200; omega, by show _ ≤ 1200; omega⟩ dL_areBlocksSo_105 ?_
      refine g_iconst (pc := 108) C dL_areBlocksSo_108 ?_
      refine g_icmp_ne (pc := 109) (tgt := 116) C dL_areBlocksSo_109 (by decide) (by omega) (by omega) (fun h109 => absurd h109 (by omega)) (fun _ => ?_)
      refine g_iconst (pc := 112) C dL_areBlocksSo_112 ?_
      refine g_goto (pc := 113) (tgt := 117) C dL_areBlocksSo_113 (by decide) ?_
      refine g_zret (pc := 117) C (by omega) (by omega) (by omega) dL_areBlocksSo_117 ?_
      exact ⟨rfl, rfl, rfl⟩
  · have hj12 : j < 12 := Classical.byContradiction fun q => by have := hp.2.2 (by omega); omega
    have hS := hp.2.1 hj12
    have h0 := hI.itw0 hs hS h18
    have hib := itw_bd T x (2 ^ j)
    have hz3 := hz.2.2 h18
    have hz1 := hz.1
    have hz2 := hz.2.1
    have e2 : (2 : Int) ^ (j + 1) = 2 ^ j * 2 := Int.pow_succ _ _
    have hnx : (2 : Int) ^ (j + 1) < T 16 x.toNat → itwC T x (2 ^ j) ≤ itwC T x (2 ^ (j + 1)) := fun q => by
      have hj11 : j + 1 < 12 := Classical.byContradiction fun q2 => by have := (p2j (j + 1) (by omega)).2.2 (by omega); omega
      have hS2 := (p2j (j + 1) (by omega)).2.1 hj11
      have e3 : (2 : Int) ^ (j + 1) = 2 * 2 ^ j := by rw [e2]; omega
      rw [e3] at q hS2 ⊢
      exact hI.itwm hs hS hS2 q
    by_cases hm : itwC T x (2 ^ j) = 0
    · have hle := h0.mp hm
      refine g_aload_0 (pc := 21) C dL_areBlocksSo_21 ?_
      refine g_iload_1 (pc := 22) C dL_areBlocksSo_22 ?_
      refine g_iload_4 (pc := 23) C dL_areBlocksSo_23 ?_
      refine g_cY2Pv (pc := 25) C cs_L_102 (q_itw hI hs hS h18) ⟨Nat.le_of_ble_eq_true rfl, Nat.le_of_ble_eq_true rfl⟩ (by omega) (Nat.le_of_ble_eq_true rfl) ⟨by show _ ≤ 200; omega, by show _ ≤ 1200; omega⟩ dL_areBlocksSo_25 ?_
      refine g_istore_5 (pc := 28) C dL_areBlocksSo_28 ?_
      refine g_iload_5 (pc := 30) C dL_areBlocksSo_30 ?_
      refine g_if_ne (pc := 32) (tgt := 39) C dL_areBlocksSo_32 (by decide) (by omega) (fun h32 => absurd h32 (by omega)) (fun _ => ?_)
      refine g_iconst (pc := 35) C dL_areBlocksSo_35 ?_
      refine g_goto (pc := 36) (tgt := 40) C dL_areBlocksSo_36 (by decide) ?_
      refine g_iload_4 (pc := 40) C dL_areBlocksSo_40 ?_
      refine g_iload_2 (pc := 42) C dL_areBlocksSo_42 ?_
      refine g_icmp_gt (pc := 43) (tgt := 50) C dL_areBlocksSo_43 (by decide) (by omega) (by omega) (fun h43 => absurd h43 (by omega)) (fun _ => ?_)
      refine g_iconst (pc := 46) C dL_areBlocksSo_46 ?_
      refine g_goto (pc := 47) (tgt := 51) C dL_areBlocksSo_47 (by decide) ?_
      refine g_icmp_ne (pc := 51) (tgt := 60) C dL_areBlocksSo_51 (by decide) (by omega) (by omega) (fun h51 => absurd h51 (by omega)) (fun _ => ?_)
      refine g_iload_5 (pc := 54) C dL_areBlocksSo_54 ?_
      refine g_iload_3 (pc := 56) C dL_areBlocksSo_56 ?_
      refine g_icmp_ge (pc := 57) (tgt := 62) C dL_areBlocksSo_57 (by decide) (by omega) (by omega) (fun _ => ?_) (fun h57 => absurd h57 (by omega))
      refine g_iload_5 (pc := 62) C dL_areBlocksSo_62 ?_
      refine g_istore_3 (pc := 64) C dL_areBlocksSo_64 ?_
      refine g_iload_4 (pc := 65) C dL_areBlocksSo_65 ?_
      refine g_iconst (pc := 67) C dL_areBlocksSo_67 ?_
      refine g_imul (pc := 68) C dL_areBlocksSo_68 ?_
      refine g_istore_4 (pc := 69) C dL_areBlocksSo_69 ?_
      refine g_goto (pc := 71) (tgt := 11) C dL_areBlocksSo_71 (by decide) ?_
      exact g_wid (by omega) (by omega) (g_eq rfl (by rw [e2]) rfl (ih (itwC T x (2 ^ j), some (.int (zI (itwC T x (2 ^ j))))) (by omega) ⟨hib.1, hib.2, hnx⟩))
    · have hle : ¬ (2 : Int) ^ j ≤ gfC T x := fun q => hm (h0.mpr q)
      refine g_aload_0 (pc := 21) C dL_areBlocksSo_21 ?_
      refine g_iload_1 (pc := 22) C dL_areBlocksSo_22 ?_
      refine g_iload_4 (pc := 23) C dL_areBlocksSo_23 ?_
      refine g_cY2Pv (pc := 25) C cs_L_102 (q_itw hI hs hS h18) ⟨Nat.le_of_ble_eq_true rfl, Nat.le_of_ble_eq_true rfl⟩ (by omega) (Nat.le_of_ble_eq_true rfl) ⟨by show _ ≤ 200; omega, by show _ ≤ 1200; omega⟩ dL_areBlocksSo_25 ?_
      refine g_istore_5 (pc := 28) C dL_areBlocksSo_28 ?_
      refine g_iload_5 (pc := 30) C dL_areBlocksSo_30 ?_
      refine g_if_ne (pc := 32) (tgt := 39) C dL_areBlocksSo_32 (by decide) (by omega) (fun _ => ?_) (fun h32 => absurd h32 (by omega))
      refine g_iconst (pc := 39) C dL_areBlocksSo_39 ?_
      refine g_iload_4 (pc := 40) C dL_areBlocksSo_40 ?_
      refine g_iload_2 (pc := 42) C dL_areBlocksSo_42 ?_
      refine g_icmp_gt (pc := 43) (tgt := 50) C dL_areBlocksSo_43 (by decide) (by omega) (by omega) (fun _ => ?_) (fun h43 => absurd h43 (by omega))
      refine g_iconst (pc := 50) C dL_areBlocksSo_50 ?_
      refine g_icmp_ne (pc := 51) (tgt := 60) C dL_areBlocksSo_51 (by decide) (by omega) (by omega) (fun h51 => absurd h51 (by omega)) (fun _ => ?_)
      refine g_iload_5 (pc := 54) C dL_areBlocksSo_54 ?_
      refine g_iload_3 (pc := 56) C dL_areBlocksSo_56 ?_
      refine g_icmp_ge (pc := 57) (tgt := 62) C dL_areBlocksSo_57 (by decide) (by omega) (by omega) (fun _ => ?_) (fun h57 => absurd h57 (by omega))
      refine g_iload_5 (pc := 62) C dL_areBlocksSo_62 ?_
      refine g_istore_3 (pc := 64) C dL_areBlocksSo_64 ?_
      refine g_iload_4 (pc := 65) C dL_areBlocksSo_65 ?_
      refine g_iconst (pc := 67) C dL_areBlocksSo_67 ?_
      refine g_imul (pc := 68) C dL_areBlocksSo_68 ?_
      refine g_istore_4 (pc := 69) C dL_areBlocksSo_69 ?_
      refine g_goto (pc := 71) (tgt := 11) C dL_areBlocksSo_71 (by decide) ?_
      exact g_wid (by omega) (by omega) (g_eq rfl (by rw [e2]) rfl (ih (itwC T x (2 ^ j), some (.int (zI (itwC T x (2 ^ j))))) (by omega) ⟨hib.1, hib.2, hnx⟩))
/-! the same of books alike -/
theorem pq.ow {U T : MT} (h : pq U T) (o : Int) : owC U o = owC T o := by
  unfold owC
  rw [hid_eq, hid_eq, ownS_sm, ownS_sm, h.f (r := 1) (by omega), h.f (r := 17) (by omega)]
  refine sm_c (fun j _ => ?_)
  rw [h.out]
theorem pq.ns {U T : MT} (h : pq U T) (a : Int) : nsC U a = nsC T a := by
  unfold nsC
  rw [hid_eq, hid_eq]
  exact nsI_f (fun i _ => ⟨h 1 i (by omega) (by omega), fun _ => ⟨h 14 i (by omega) (by omega), h 15 i (by omega) (by omega), h 16 i (by omega) (by omega)⟩⟩) a 60
theorem pq.os {U T : MT} (h : pq U T) (n : Nat) : osC U n = osC T n := by
  unfold osC
  rw [hid_eq, hid_eq]
  exact sm_c (fun o _ => h.ow o)
theorem k_L_areOwnersSo {l : Launch} {cs : CSt} {np : Nat} {ad : Nat → Nat} {T : MT} (hI : Inv np T) (v : Int) : KC l cs yL_areOwnersSo (Cond.code yL_areOwnersSo cL_areOwnersSo 6 (some .boolean) :: GW) 8 400 2400 [.ref (ad 0), .int (zI v)] np ad T (fun w u => w = some (.int (zI 1)) ∧ ∃ U, u = (np, ad, U) ∧ Inv np U ∧ pq U T) (fun _ _ => False) := by
  have h13 := hI.n13
  refine KC_of (cc := cL_areOwnersSo) (nL := 6) (rt := (some .boolean)) (by decide) (by simp [grf_cat, cat_int, cat_ref]) (by simp) ?_
  intro p e s m args below meth c A C hE hin
  refine g_eq (lv2 := [some (.ref (ad 0)), some (.int (zI v)), none, none, none, none]) rfl rfl rfl ?_
  refine g_iconst (pc := 0) C dL_areOwnersSo_0 ?_
  refine g_istore_2 (pc := 1) C dL_areOwnersSo_1 ?_
  refine g_iconst (pc := 2) C dL_areOwnersSo_2 ?_
  refine g_istore_3 (pc := 3) C dL_areOwnersSo_3 ?_
  refine g_eq (lv2 := [some (.ref (ad 0)), some (.int (zI v)), some (.int (zI (osC T 0))), some (.int (zI ((0 : Nat) : Int))), none, none]) rfl (by rw [osC_0]; rfl) rfl ?_
  refine g_loopk (σ := MT × Option Value × Option Value) (k0 := 0) (ck := 16) (n0 := 0) (cn := 96) (Tf := fun _ z => z.1) (lvf := fun j z => [some (.ref (ad 0)), some (.int (zI v)), some (.int (zI (osC T j))), some (.int (zI (j : Int))), z.2.1, z.2.2]) (inv := fun _ z => Inv np z.1 ∧ pq z.1 T) (N := 8) 0 (T, none, none) ⟨hI, pq.rf T⟩ (by omega) (fun j z hz hN ih => ?_)
  obtain ⟨U, z4, z5⟩ := z
  obtain ⟨hU, hq⟩ := hz
  have hU : Inv np U := hU
  have hq : pq U T := hq
  refine g_iload_3 (pc := 4) C dL_areOwnersSo_4 ?_
  refine g_bipush (pc := 5) C dL_areOwnersSo_5 (by decide) ?_
  refine g_icmp_ge (pc := 7) (tgt := 67) C dL_areOwnersSo_7 (by decide) (by omega) (by omega) (fun h7 => ?_) (fun h7 => ?_)
  · obtain rfl : j = 8 := by omega
    refine g_iconst (pc := 67) C dL_areOwnersSo_67 ?_
    refine g_istore_3 (pc := 68) C dL_areOwnersSo_68 ?_
    refine g_loopk (σ := MT × Option Value × Option Value) (k0 := 128) (ck := 19) (n0 := 768) (cn := 114) (Tf := fun _ z => z.1) (lvf := fun i z => [some (.ref (ad 0)), some (.int (zI v)), some (.int (zI (osC T 8))), some (.int (zI (i : Int))), z.2.1, z.2.2]) (inv := fun _ z => Inv np z.1 ∧ pq z.1 T) (N := 6) 0 (U, z4, z5) ⟨hU, hq⟩ (by omega) (fun i z hz hN2 ih2 => ?_)
    obtain ⟨V, y4, y5⟩ := z
    obtain ⟨hV, hr⟩ := hz
    have hV : Inv np V := hV
    have hr : pq V T := hr
    refine g_iload_3 (pc := 69) C dL_areOwnersSo_69 ?_
    refine g_bipush (pc := 70) C dL_areOwnersSo_70 (by decide) ?_
    refine g_icmp_ge (pc := 72) (tgt := 146) C dL_areOwnersSo_72 (by decide) (by omega) (by omega) (fun h72 => ?_) (fun h72 => ?_)
    · obtain rfl : i = 6 := by omega
      have ho := hI.os8
      refine g_iload_2 (pc := 146) C dL_areOwnersSo_146 ?_
      refine g_sipush (pc := 147) C dL_areOwnersSo_147 (by decide) ?_
      refine g_icmp_ne (pc := 150) (tgt := 157) C dL_areOwnersSo_150 (by decide) (by omega) (by omega) (fun h150 => absurd h150 (by omega)) (fun _ => ?_)
      refine g_iconst (pc := 153) C dL_areOwnersSo_153 ?_
      refine g_goto (pc := 154) (tgt := 158) C dL_areOwnersSo_154 (by decide) ?_
      refine g_zret (pc := 158) C (by omega) (by omega) (by omega) dL_areOwnersSo_158 ?_
      exact ⟨rfl, V, rfl, hV, hr⟩
    · have hlo := lo_bd (zI (v * (2 * (i : Int) + 1))) (n := 4096) (by decide)
      have hW := hV.lyR
      have hns := hW.nsC hlo
      have ens := (lyR_pq (T := V)).ns (lo (zI (v * (2 * (i : Int) + 1))) 4096)
      rw [ens] at hns
      have hnb := hW.bd hns.2.2.1
      have hna := hns.1.2.2
      refine g_iload_1 (pc := 75) C dL_areOwnersSo_75 ?_
      refine g_iconst (pc := 76) C dL_areOwnersSo_76 ?_
      refine g_iload_3 (pc := 77) C dL_areOwnersSo_77 ?_
      refine g_imul (pc := 78) C dL_areOwnersSo_78 ?_
      refine g_iconst (pc := 79) C dL_areOwnersSo_79 ?_
      refine g_iadd (pc := 80) C dL_areOwnersSo_80 ?_
      refine g_imul (pc := 81) C dL_areOwnersSo_81 ?_
      refine g_sipush (pc := 82) C dL_areOwnersSo_82 (by decide) ?_
      refine g_cT2Pv (pc := 85) C cs_L_47 (k_L_low (zI (v * (2 * (i : Int) + 1))) 4096 (by decide)) ⟨Nat.le_of_ble_eq_true rfl, Nat.le_of_ble_eq_true rfl⟩ (Nat.le_of_ble_eq_true rfl) ⟨by show _ ≤ 400; omega, by show _ ≤ 2400; omega⟩ dL_areOwnersSo_85 ?_
      refine g_istore_4 (pc := 88) C dL_areOwnersSo_88 ?_
      generalize lo (zI (v * (2 * (i : Int) + 1))) 4096 = a at hlo hns hnb hna ⊢
      refine g_aload_0 (pc := 90) C dL_areOwnersSo_90 ?_
      refine g_iload_4 (pc := 91) C dL_areOwnersSo_91 ?_
      refine g_cY1Pv (pc := 93) C cs_L_111 (q_near hV hlo) ⟨Nat.le_of_ble_eq_true rfl, Nat.le_of_ble_eq_true rfl⟩ (by omega) (Nat.le_of_ble_eq_true rfl) ⟨by show _ ≤ 400; omega, by show _ ≤ 2400; omega⟩ dL_areOwnersSo_93 ?_
      refine g_istore_5 (pc := 96) C dL_areOwnersSo_96 ?_
      refine g_aload_0 (pc := 98) C dL_areOwnersSo_98 ?_
      refine g_iload_4 (pc := 99) C dL_areOwnersSo_99 ?_
      refine g_cY1Pv (pc := 101) C cs_L_114 (q_row hV hlo) ⟨Nat.le_of_ble_eq_true rfl, Nat.le_of_ble_eq_true rfl⟩ (by omega) (Nat.le_of_ble_eq_true rfl) ⟨by show _ ≤ 400; omega, by show _ ≤ 2400; omega⟩ dL_areOwnersSo_101 ?_
      refine g_iload_5 (pc := 104) C dL_areOwnersSo_104 ?_
      refine g_icmp_ne (pc := 106) (tgt := 138) C dL_areOwnersSo_106 (by decide) (by omega) (by omega) (fun h106 => absurd h106 (by omega)) (fun _ => ?_)
      refine g_iload_4 (pc := 109) C dL_areOwnersSo_109 ?_
      refine g_aload_0 (pc := 111) C dL_areOwnersSo_111 ?_
      refine g_iload_5 (pc := 112) C dL_areOwnersSo_112 ?_
      refine g_cY1Pv (pc := 114) C cs_L_87 (q_base hW hns.2.2.1) ⟨Nat.le_of_ble_eq_true rfl, Nat.le_of_ble_eq_true rfl⟩ (by omega) (Nat.le_of_ble_eq_true rfl) ⟨by show _ ≤ 400; omega, by show _ ≤ 2400; omega⟩ dL_areOwnersSo_114 ?_
      refine g_icmp_lt (pc := 117) (tgt := 138) C dL_areOwnersSo_117 (by decide) (by omega) (by omega) (fun h117 => absurd h117 (by omega)) (fun _ => ?_)
      refine g_iload_4 (pc := 120) C dL_areOwnersSo_120 ?_
      refine g_aload_0 (pc := 122) C dL_areOwnersSo_122 ?_
      refine g_iload_5 (pc := 123) C dL_areOwnersSo_123 ?_
      refine g_cY1Pv (pc := 125) C cs_L_87 (q_base hW hns.2.2.1) ⟨Nat.le_of_ble_eq_true rfl, Nat.le_of_ble_eq_true rfl⟩ (by omega) (Nat.le_of_ble_eq_true rfl) ⟨by show _ ≤ 400; omega, by show _ ≤ 2400; omega⟩ dL_areOwnersSo_125 ?_
      refine g_aload_0 (pc := 128) C dL_areOwnersSo_128 ?_
      refine g_iload_5 (pc := 129) C dL_areOwnersSo_129 ?_
      refine g_cY1Pv (pc := 131) C cs_L_90 (q_size hW hns.2.2.1) ⟨Nat.le_of_ble_eq_true rfl, Nat.le_of_ble_eq_true rfl⟩ (by omega) (Nat.le_of_ble_eq_true rfl) ⟨by show _ ≤ 400; omega, by show _ ≤ 2400; omega⟩ dL_areOwnersSo_131 ?_
      refine g_iadd (pc := 134) C dL_areOwnersSo_134 ?_
      refine g_icmp_lt (pc := 135) (tgt := 140) C dL_areOwnersSo_135 (by decide) (by omega) (by omega) (fun _ => ?_) (fun h135 => absurd h135 (by omega))
      refine g_iinc_3 (pc := 140) C dL_areOwnersSo_140 ?_
      refine g_goto (pc := 143) (tgt := 69) C dL_areOwnersSo_143 (by decide) ?_
      exact g_wid (by omega) (by omega) (g_eq rfl rfl rfl (ih2 (lyR V, some (.int (zI a)), some (.int (zI (nsC V a)))) (by omega) ⟨hW, lyR_pq.tr hr⟩))
  · have ho : 0 ≤ (j : Int) ∧ (j : Int) < 8 := by omega
    have hbo := hU.bl_ow j
    have e1 := osC_s T j
    rw [← hq.ow] at e1
    by_cases h0 : owC U j = 0
    · have hb0 := hbo.2.2.2.mp h0
      refine g_aload_0 (pc := 10) C dL_areOwnersSo_10 ?_
      refine g_iload_3 (pc := 11) C dL_areOwnersSo_11 ?_
      refine g_cY1Pv (pc := 12) C cs_L_105 (q_owned hU ho) ⟨Nat.le_of_ble_eq_true rfl, Nat.le_of_ble_eq_true rfl⟩ (by omega) (Nat.le_of_ble_eq_true rfl) ⟨by show _ ≤ 400; omega, by show _ ≤ 2400; omega⟩ dL_areOwnersSo_12 ?_
      refine g_istore_4 (pc := 15) C dL_areOwnersSo_15 ?_
      refine g_aload_0 (pc := 17) C dL_areOwnersSo_17 ?_
      refine g_iload_3 (pc := 18) C dL_areOwnersSo_18 ?_
      refine g_cY1Pv (pc := 19) C cs_L_108 (q_blocks hU ho) ⟨Nat.le_of_ble_eq_true rfl, Nat.le_of_ble_eq_true rfl⟩ (by omega) (Nat.le_of_ble_eq_true rfl) ⟨by show _ ≤ 400; omega, by show _ ≤ 2400; omega⟩ dL_areOwnersSo_19 ?_
      refine g_istore_5 (pc := 22) C dL_areOwnersSo_22 ?_
      refine g_iload_2 (pc := 24) C dL_areOwnersSo_24 ?_
      refine g_iload_4 (pc := 25) C dL_areOwnersSo_25 ?_
      refine g_iadd (pc := 27) C dL_areOwnersSo_27 ?_
      refine g_istore_2 (pc := 28) C dL_areOwnersSo_28 ?_
      refine g_iload_4 (pc := 29) C dL_areOwnersSo_29 ?_
      refine g_if_ne (pc := 31) (tgt := 38) C dL_areOwnersSo_31 (by decide) (by omega) (fun h31 => absurd h31 (by omega)) (fun _ => ?_)
      refine g_iconst (pc := 34) C dL_areOwnersSo_34 ?_
      refine g_goto (pc := 35) (tgt := 39) C dL_areOwnersSo_35 (by decide) ?_
      refine g_iload_5 (pc := 39) C dL_areOwnersSo_39 ?_
      refine g_if_ne (pc := 41) (tgt := 48) C dL_areOwnersSo_41 (by decide) (by omega) (fun h41 => absurd h41 (by omega)) (fun _ => ?_)
      refine g_iconst (pc := 44) C dL_areOwnersSo_44 ?_
      refine g_goto (pc := 45) (tgt := 49) C dL_areOwnersSo_45 (by decide) ?_
      refine g_icmp_ne (pc := 49) (tgt := 59) C dL_areOwnersSo_49 (by decide) (by omega) (by omega) (fun h49 => absurd h49 (by omega)) (fun _ => ?_)
      refine g_iload_5 (pc := 52) C dL_areOwnersSo_52 ?_
      refine g_iload_4 (pc := 54) C dL_areOwnersSo_54 ?_
      refine g_icmp_le (pc := 56) (tgt := 61) C dL_areOwnersSo_56 (by decide) (by omega) (by omega) (fun _ => ?_) (fun h56 => absurd h56 (by omega))
      refine g_iinc_3 (pc := 61) C dL_areOwnersSo_61 ?_
      refine g_goto (pc := 64) (tgt := 4) C dL_areOwnersSo_64 (by decide) ?_
      exact g_wid (by omega) (by omega) (g_eq rfl (by rw [e1]; rfl) rfl (ih (lyR U, some (.int (zI (owC U j))), some (.int (zI (blC U j)))) (by omega) ⟨hU.lyR, lyR_pq.tr hq⟩))
    · have hb0 : blC U j ≠ 0 := fun q => h0 (hbo.2.2.2.mpr q)
      refine g_aload_0 (pc := 10) C dL_areOwnersSo_10 ?_
      refine g_iload_3 (pc := 11) C dL_areOwnersSo_11 ?_
      refine g_cY1Pv (pc := 12) C cs_L_105 (q_owned hU ho) ⟨Nat.le_of_ble_eq_true rfl, Nat.le_of_ble_eq_true rfl⟩ (by omega) (Nat.le_of_ble_eq_true rfl) ⟨by show _ ≤ 400; omega, by show _ ≤ 2400; omega⟩ dL_areOwnersSo_12 ?_
      refine g_istore_4 (pc := 15) C dL_areOwnersSo_15 ?_
      refine g_aload_0 (pc := 17) C dL_areOwnersSo_17 ?_
      refine g_iload_3 (pc := 18) C dL_areOwnersSo_18 ?_
      refine g_cY1Pv (pc := 19) C cs_L_108 (q_blocks hU ho) ⟨Nat.le_of_ble_eq_true rfl, Nat.le_of_ble_eq_true rfl⟩ (by omega) (Nat.le_of_ble_eq_true rfl) ⟨by show _ ≤ 400; omega, by show _ ≤ 2400; omega⟩ dL_areOwnersSo_19 ?_
      refine g_istore_5 (pc := 22) C dL_areOwnersSo_22 ?_
      refine g_iload_2 (pc := 24) C dL_areOwnersSo_24 ?_
      refine g_iload_4 (pc := 25) C dL_areOwnersSo_25 ?_
      refine g_iadd (pc := 27) C dL_areOwnersSo_27 ?_
      refine g_istore_2 (pc := 28) C dL_areOwnersSo_28 ?_
      refine g_iload_4 (pc := 29) C dL_areOwnersSo_29 ?_
      refine g_if_ne (pc := 31) (tgt := 38) C dL_areOwnersSo_31 (by decide) (by omega) (fun _ => ?_) (fun h31 => absurd h31 (by omega))
      refine g_iconst (pc := 38) C dL_areOwnersSo_38 ?_
      refine g_iload_5 (pc := 39) C dL_areOwnersSo_39 ?_
      refine g_if_ne (pc := 41) (tgt := 48) C dL_areOwnersSo_41 (by decide) (by omega) (fun _ => ?_) (fun h41 => absurd h41 (by omega))
      refine g_iconst (pc := 48) C dL_areOwnersSo_48 ?_
      refine g_icmp_ne (pc := 49) (tgt := 59) C dL_areOwnersSo_49 (by decide) (by omega) (by omega) (fun h49 => absurd h49 (by omega)) (fun _ => ?_)
      refine g_iload_5 (pc := 52) C dL_areOwnersSo_52 ?_
      refine g_iload_4 (pc := 54) C dL_areOwnersSo_54 ?_
      refine g_icmp_le (pc := 56) (tgt := 61) C dL_areOwnersSo_56 (by decide) (by omega) (by omega) (fun _ => ?_) (fun h56 => absurd h56 (by omega))
      refine g_iinc_3 (pc := 61) C dL_areOwnersSo_61 ?_
      refine g_goto (pc := 64) (tgt := 4) C dL_areOwnersSo_64 (by decide) ?_
      exact g_wid (by omega) (by omega) (g_eq rfl (by rw [e1]; rfl) rfl (ih (lyR U, some (.int (zI (owC U j))), some (.int (zI (blC U j)))) (by omega) ⟨hU.lyR, lyR_pq.tr hq⟩))
