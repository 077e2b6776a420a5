/-! Span: end, has, meets -/
theorem k_X0_end {l : Launch} {cs : CSt} {np : Nat} {ad : Nat → Nat} {T : MT} (x : Int) (hx : 0 ≤ x ∧ x + 13 < np) : KD l cs yX0_end (Cond.code yX0_end cX0_end 1 (some .int) :: GW) 0 0 0 [grf ad x] np ad T 0 (some (.int (zI (T 15 x.toNat + T 16 x.toNat)))) (np, ad, T) := by
  refine KC_of (cc := cX0_end) (nL := 1) (rt := (some .int)) (by decide) (by simp [grf_cat, cat_int, cat_ref]) (by simp) ?_
  intro p e s m args below meth c A C hE hin
  refine g_eq (lv2 := [some (grf ad x)]) rfl rfl rfl ?_
  refine g_sload_0 C dX0_end_0 ?_
  first | refine g_getn_X0_17 C (by omega) dX0_end_1 ?_ | refine g_get_X0_17 C (by omega) dX0_end_1 ?_
  refine g_sload_0 C dX0_end_4 ?_
  first | refine g_getn_X0_20 C (by omega) dX0_end_5 ?_ | refine g_get_X0_20 C (by omega) dX0_end_5 ?_
  refine g_iadd C dX0_end_8 ?_
  refine g_iret C (Nat.le_of_ble_eq_true rfl) (Nat.le_of_ble_eq_true rfl) dX0_end_9 ?_
  exact ⟨rfl, rfl, rfl⟩
theorem k_X0_has {l : Launch} {cs : CSt} {np : Nat} {ad : Nat → Nat} {T : MT} (x a : Int) (hx : 0 ≤ x ∧ x + 13 < np) (hb : 0 ≤ T 15 x.toNat ∧ 0 ≤ T 16 x.toNat ∧ T 15 x.toNat + T 16 x.toNat ≤ 4096) (ha : -2147483648 ≤ a ∧ a < 2147483648) : KD l cs yX0_has (Cond.code yX0_has cX0_has 2 (some .boolean) :: GW) 1 0 0 [grf ad x, .int (zI a)] np ad T 0 (some (.int (zI (if T 15 x.toNat ≤ a ∧ a < T 15 x.toNat + T 16 x.toNat then 1 else 0)))) (np, ad, T) := by
  refine KC_of (cc := cX0_has) (nL := 2) (rt := (some .boolean)) (by decide) (by simp [grf_cat, cat_int, cat_ref]) (by simp) ?_
  intro p e s m args below meth c A C hE hin
  refine g_eq (lv2 := [some (grf ad x), some (.int (zI a))]) rfl rfl rfl ?_
  refine g_iload_1 C dX0_has_0 ?_
  refine g_sload_0 C dX0_has_1 ?_
  first | refine g_getn_X0_17 C (by omega) dX0_has_2 ?_ | refine g_get_X0_17 C (by omega) dX0_has_2 ?_
  refine g_icmp_lt (tgt := 20) C dX0_has_5 (by decide) (by omega) (by omega) (fun h5 => ?_) (fun h5 => ?_)
  · refine g_iconst C dX0_has_20 ?_
    refine g_zret C (by omega) (Nat.le_of_ble_eq_true rfl) (Nat.le_of_ble_eq_true rfl) dX0_has_21 ?_
    exact ⟨rfl, by rw [if_neg (by omega)], rfl⟩
  · refine g_iload_1 C dX0_has_8 ?_
    refine g_sload_0 C dX0_has_9 ?_
    refine g_cS0Pv C cs_X0_26 (k_X0_end x hx) ⟨Nat.le_of_ble_eq_true rfl, Nat.le_of_ble_eq_true rfl⟩ (by omega) (Nat.le_of_ble_eq_true rfl) ⟨Nat.le_of_ble_eq_true rfl, Nat.le_of_ble_eq_true rfl⟩ dX0_has_10 ?_
    refine g_icmp_ge (tgt := 20) C dX0_has_13 (by decide) (by omega) (by omega) (fun h13 => ?_) (fun h13 => ?_)
    · refine g_iconst C dX0_has_20 ?_
      refine g_zret C (by omega) (Nat.le_of_ble_eq_true rfl) (Nat.le_of_ble_eq_true rfl) dX0_has_21 ?_
      exact ⟨rfl, by rw [if_neg (by omega)], rfl⟩
    · refine g_iconst C dX0_has_16 ?_
      refine g_goto (tgt := 21) C dX0_has_17 (by decide) ?_
      refine g_zret C (by omega) (Nat.le_of_ble_eq_true rfl) (Nat.le_of_ble_eq_true rfl) dX0_has_21 ?_
      exact ⟨rfl, by rw [if_pos (by omega)], rfl⟩
theorem k_X0_meets {l : Launch} {cs : CSt} {np : Nat} {ad : Nat → Nat} {T : MT} (x B S : Int) (hx : 0 ≤ x ∧ x + 13 < np) (hb : 0 ≤ T 15 x.toNat ∧ 0 ≤ T 16 x.toNat ∧ T 15 x.toNat + T 16 x.toNat ≤ 4096) (ha : -4096 ≤ B ∧ B ≤ 8192 ∧ 0 ≤ S ∧ S ≤ 8192) : KD l cs yX0_meets (Cond.code yX0_meets cX0_meets 3 (some .boolean) :: GW) 1 0 0 [grf ad x, .int (zI B), .int (zI S)] np ad T 0 (some (.int (zI (if T 15 x.toNat < B + S ∧ B < T 15 x.toNat + T 16 x.toNat then 1 else 0)))) (np, ad, T) := by
  refine KC_of (cc := cX0_meets) (nL := 3) (rt := (some .boolean)) (by decide) (by simp [grf_cat, cat_int, cat_ref]) (by simp) ?_
  intro p e s m args below meth c A C hE hin
  refine g_eq (lv2 := [some (grf ad x), some (.int (zI B)), some (.int (zI S))]) rfl rfl rfl ?_
  refine g_sload_0 C dX0_meets_0 ?_
  first | refine g_getn_X0_17 C (by omega) dX0_meets_1 ?_ | refine g_get_X0_17 C (by omega) dX0_meets_1 ?_
  refine g_iload_1 C dX0_meets_4 ?_
  refine g_iload_2 C dX0_meets_5 ?_
  refine g_iadd C dX0_meets_6 ?_
  refine g_icmp_ge (tgt := 22) C dX0_meets_7 (by decide) (by omega) (by omega) (fun h7 => ?_) (fun h7 => ?_)
  · refine g_iconst C dX0_meets_22 ?_
    refine g_zret C (by omega) (Nat.le_of_ble_eq_true rfl) (Nat.le_of_ble_eq_true rfl) dX0_meets_23 ?_
    exact ⟨rfl, by rw [if_neg (by omega)], rfl⟩
  · refine g_iload_1 C dX0_meets_10 ?_
    refine g_sload_0 C dX0_meets_11 ?_
    refine g_cS0Pv C cs_X0_26 (k_X0_end x hx) ⟨Nat.le_of_ble_eq_true rfl, Nat.le_of_ble_eq_true rfl⟩ (by omega) (Nat.le_of_ble_eq_true rfl) ⟨Nat.le_of_ble_eq_true rfl, Nat.le_of_ble_eq_true rfl⟩ dX0_meets_12 ?_
    refine g_icmp_ge (tgt := 22) C dX0_meets_15 (by decide) (by omega) (by omega) (fun h15 => ?_) (fun h15 => ?_)
    · refine g_iconst C dX0_meets_22 ?_
      refine g_zret C (by omega) (Nat.le_of_ble_eq_true rfl) (Nat.le_of_ble_eq_true rfl) dX0_meets_23 ?_
      exact ⟨rfl, by rw [if_neg (by omega)], rfl⟩
    · refine g_iconst C dX0_meets_18 ?_
      refine g_goto (tgt := 23) C dX0_meets_19 (by decide) ?_
      refine g_zret C (by omega) (Nat.le_of_ble_eq_true rfl) (Nat.le_of_ble_eq_true rfl) dX0_meets_23 ?_
      exact ⟨rfl, by rw [if_pos (by omega)], rfl⟩
theorem kn_X0_end {l : Launch} {cs : CSt} {np : Nat} {ad : Nat → Nat} {T : MT} (x : Nat) (hx : 0 ≤ (x : Int) ∧ (x : Int) + 13 < np) : KD l cs yX0_end (Cond.code yX0_end cX0_end 1 (some .int) :: GW) 0 0 0 [grf ad (x : Int)] np ad T 0 (some (.int (zI (T 15 x + T 16 x)))) (np, ad, T) := k_X0_end x hx
theorem kn_X0_has {l : Launch} {cs : CSt} {np : Nat} {ad : Nat → Nat} {T : MT} (x : Nat) (a : Int) (hx : 0 ≤ (x : Int) ∧ (x : Int) + 13 < np) (hb : 0 ≤ T 15 x ∧ 0 ≤ T 16 x ∧ T 15 x + T 16 x ≤ 4096) (ha : -2147483648 ≤ a ∧ a < 2147483648) : KD l cs yX0_has (Cond.code yX0_has cX0_has 2 (some .boolean) :: GW) 1 0 0 [grf ad (x : Int), .int (zI a)] np ad T 0 (some (.int (zI (if T 15 x ≤ a ∧ a < T 15 x + T 16 x then 1 else 0)))) (np, ad, T) := k_X0_has x a hx hb ha
theorem kn_X0_meets {l : Launch} {cs : CSt} {np : Nat} {ad : Nat → Nat} {T : MT} (x : Nat) (B S : Int) (hx : 0 ≤ (x : Int) ∧ (x : Int) + 13 < np) (hb : 0 ≤ T 15 x ∧ 0 ≤ T 16 x ∧ T 15 x + T 16 x ≤ 4096) (ha : -4096 ≤ B ∧ B ≤ 8192 ∧ 0 ≤ S ∧ S ≤ 8192) : KD l cs yX0_meets (Cond.code yX0_meets cX0_meets 3 (some .boolean) :: GW) 1 0 0 [grf ad (x : Int), .int (zI B), .int (zI S)] np ad T 0 (some (.int (zI (if T 15 x < B + S ∧ B < T 15 x + T 16 x then 1 else 0)))) (np, ad, T) := k_X0_meets x B S hx hb ha
