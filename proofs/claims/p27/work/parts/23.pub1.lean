theorem szp_mod {a S : Int} (ha : 0 ≤ a ∧ a < 2147483648) (hS : szp S) : zI a &&& zI (S - 1) = zI (a % S) := by
  by_cases h1 : S = 1
  · subst h1
    rw [Int.emod_one, Int.sub_self]
    have e : zI (0 : Int) = 0 := by decide
    rw [e]
    exact Int32.and_zero
  · exact and_p2 ha (by unfold szp at hS; omega)
theorem szp_bd {S : Int} (hS : szp S) : 1 ≤ S ∧ S ≤ 2048 := by unfold szp at hS; omega
theorem cbI_bd {np : Nat} {T : MT} (hV : VC np T) {x : Int} (hx : isS T x) (S : Int) (lst : Bool) (j : Nat) : -1 ≤ (cbI T x S lst j).1 ∧ (cbI T x S lst j).1 ≤ 4096 ∧ T 15 x.toNat ≤ (cbI T x S lst j).2.2 ∧ (cbI T x S lst j).2.2 ≤ 4096 := by
  have hV0 := hV.s hx
  have key : ∀ u : Int × Int × Int, (-1 ≤ u.1 ∧ u.1 ≤ 4096 ∧ T 15 x.toNat ≤ u.2.2 ∧ u.2.2 ≤ 4096) → (-1 ≤ (cbS T x S lst u).1 ∧ (cbS T x S lst u).1 ≤ 4096 ∧ T 15 x.toNat ≤ (cbS T x S lst u).2.2 ∧ (cbS T x S lst u).2.2 ≤ 4096) := by
    intro u ih
    unfold cbS
    by_cases h1 : T 15 x.toNat + T 16 x.toNat ≤ u.2.2
    · rw [if_pos h1]; exact ih
    · rw [if_neg h1]
      have hcb := chC_bd T x u.2.2 60
      by_cases h2 : 0 ≤ chC T x u.2.2 60
      · rw [if_pos h2]
        have hcc : isS T (chC T x u.2.2 60) := ⟨h2, hcb.2.1, (hcb.2.2 h2).1⟩
        have hcs := hV.s hcc
        have h3 := (hcb.2.2 h2).2.2
        exact ⟨ih.1, ih.2.1, by show T 15 x.toNat ≤ T 15 (chC T x u.2.2 60).toNat + T 16 (chC T x u.2.2 60).toNat; omega, by show T 15 (chC T x u.2.2 60).toNat + T 16 (chC T x u.2.2 60).toNat ≤ 4096; omega⟩
      · rw [if_neg h2]
        have hrm0 := roomC_bd hV hx (a := u.2.2) (by omega)
        by_cases h4 : S ≤ roomC T x u.2.2 ∧ (u.1 = -1 ∨ (if lst = true then roomC T x u.2.2 < u.2.1 else u.2.1 < roomC T x u.2.2))
        · rw [if_pos h4]
          exact ⟨by show -1 ≤ u.2.2; omega, by show u.2.2 ≤ 4096; omega, by show _ ≤ u.2.2 + roomC T x u.2.2; omega, by show u.2.2 + roomC T x u.2.2 ≤ 4096; omega⟩
        · rw [if_neg h4]
          exact ⟨ih.1, ih.2.1, by show _ ≤ u.2.2 + roomC T x u.2.2; omega, by show u.2.2 + roomC T x u.2.2 ≤ 4096; omega⟩
  induction j with
  | zero => exact ⟨by show (-1 : Int) ≤ -1; omega, by show (-1 : Int) ≤ 4096; omega, Int.le_refl _, by show T 15 x.toNat ≤ 4096; omega⟩
  | succ j ih => exact key _ ih
theorem k_X1_base {l : Launch} {cs : CSt} {np : Nat} {ad : Nat → Nat} {T : MT} (hV : VC np T) (a : Int) (ha : -2147483648 ≤ a ∧ a < 2147483648) : KD l cs yX1_base (Cond.code yX1_base cX1_base 2 (some .int) :: GW) 7 1 6 [.ref (ad 0), .int (zI a)] np ad T (if fsp T a < 0 then 1 else 0) (some (.int (zI (T 15 a.toNat)))) (np, ad, T) := by
  have hV0 := hV.1
  refine KC_of (cc := cX1_base) (nL := 2) (rt := (some .int)) (by decide) (by simp [grf_cat, cat_int, cat_ref]) (by simp) ?_
  intro p e s m args below meth c A C hE hin
  refine g_eq (lv2 := [some (.ref (ad 0)), some (.int (zI a))]) rfl rfl rfl ?_
  refine g_aload_0 (pc := 0) C dX1_base_0 ?_
  refine g_iload_1 (pc := 1) C dX1_base_1 ?_
  refine g_cY1Dv (pc := 2) C hE cs_X1_43 (k_X1_spanOf a (by omega) ha) ⟨Nat.le_of_ble_eq_true rfl, Nat.le_of_ble_eq_true rfl⟩ (by omega) (Nat.le_of_ble_eq_true rfl) ⟨Nat.le_of_ble_eq_true rfl, Nat.le_of_ble_eq_true rfl⟩ ⟨Nat.le_of_ble_eq_true rfl, Nat.le_of_ble_eq_true rfl⟩ (fun hx2 => ?_) dX1_base_2 (fun hn2 => ?_)
  · have h2 := exq_ne hx2
    exact dEx_of (c := 1) (by rw [if_pos (by omega)]) (by decide) (by rw [exq_f h2])
  · have h2 := exq_eq hn2 (by decide)
    rcases fsp_or T a with ⟨q1, q2⟩ | ⟨q1, q2⟩
    · omega
    have hV1 := hV.s q2
    rw [q1]
    first | refine g_getn_X1_101 (pc := 5) C (by omega) dX1_base_5 ?_ | refine g_get_X1_101 (pc := 5) C (by omega) dX1_base_5 ?_
    refine g_iret (pc := 8) C (Nat.le_of_ble_eq_true rfl) (Nat.le_of_ble_eq_true rfl) dX1_base_8 ?_
    exact ⟨by rw [if_neg (by omega)], rfl, rfl⟩
theorem k_X1_size {l : Launch} {cs : CSt} {np : Nat} {ad : Nat → Nat} {T : MT} (hV : VC np T) (a : Int) (ha : -2147483648 ≤ a ∧ a < 2147483648) : KD l cs yX1_size (Cond.code yX1_size cX1_size 2 (some .int) :: GW) 7 1 6 [.ref (ad 0), .int (zI a)] np ad T (if fsp T a < 0 then 1 else 0) (some (.int (zI (T 16 a.toNat)))) (np, ad, T) := by
  have hV0 := hV.1
  refine KC_of (cc := cX1_size) (nL := 2) (rt := (some .int)) (by decide) (by simp [grf_cat, cat_int, cat_ref]) (by simp) ?_
  intro p e s m args below meth c A C hE hin
  refine g_eq (lv2 := [some (.ref (ad 0)), some (.int (zI a))]) rfl rfl rfl ?_
  refine g_aload_0 (pc := 0) C dX1_size_0 ?_
  refine g_iload_1 (pc := 1) C dX1_size_1 ?_
  refine g_cY1Dv (pc := 2) C hE cs_X1_43 (k_X1_spanOf a (by omega) ha) ⟨Nat.le_of_ble_eq_true rfl, Nat.le_of_ble_eq_true rfl⟩ (by omega) (Nat.le_of_ble_eq_true rfl) ⟨Nat.le_of_ble_eq_true rfl, Nat.le_of_ble_eq_true rfl⟩ ⟨Nat.le_of_ble_eq_true rfl, Nat.le_of_ble_eq_true rfl⟩ (fun hx2 => ?_) dX1_size_2 (fun hn2 => ?_)
  · have h2 := exq_ne hx2
    exact dEx_of (c := 1) (by rw [if_pos (by omega)]) (by decide) (by rw [exq_f h2])
  · have h2 := exq_eq hn2 (by decide)
    rcases fsp_or T a with ⟨q1, q2⟩ | ⟨q1, q2⟩
    · omega
    have hV1 := hV.s q2
    rw [q1]
    first | refine g_getn_X1_114 (pc := 5) C (by omega) dX1_size_5 ?_ | refine g_get_X1_114 (pc := 5) C (by omega) dX1_size_5 ?_
    refine g_iret (pc := 8) C (Nat.le_of_ble_eq_true rfl) (Nat.le_of_ble_eq_true rfl) dX1_size_8 ?_
    exact ⟨by rw [if_neg (by omega)], rfl, rfl⟩
def VT (T : MT) : Prop := ∀ j : Nat, j < 60 → T 1 j ≠ 0 → 0 ≤ T 14 j → T 1 (T 14 j).toNat ≠ 0
theorem k_X1_parent {l : Launch} {cs : CSt} {np : Nat} {ad : Nat → Nat} {T : MT} (hV : VC np T) (hT : VT T) (a : Int) (ha : -2147483648 ≤ a ∧ a < 2147483648) : KD l cs yX1_parent (Cond.code yX1_parent cX1_parent 3 (some .int) :: GW) 7 1 6 [.ref (ad 0), .int (zI a)] np ad T (if fsp T a < 0 then 1 else 0) (some (.int (zI (T 14 a.toNat)))) (np, ad, T) := by
  have hV0 := hV.1
  refine KC_of (cc := cX1_parent) (nL := 3) (rt := (some .int)) (by decide) (by simp [grf_cat, cat_int, cat_ref]) (by simp) ?_
  intro p e s m args below meth c A C hE hin
  refine g_eq (lv2 := [some (.ref (ad 0)), some (.int (zI a)), none]) rfl rfl rfl ?_
  refine g_aload_0 (pc := 0) C dX1_parent_0 ?_
  refine g_iload_1 (pc := 1) C dX1_parent_1 ?_
  refine g_cY1Dv (pc := 2) C hE cs_X1_43 (k_X1_spanOf a (by omega) ha) ⟨Nat.le_of_ble_eq_true rfl, Nat.le_of_ble_eq_true rfl⟩ (by omega) (Nat.le_of_ble_eq_true rfl) ⟨Nat.le_of_ble_eq_true rfl, Nat.le_of_ble_eq_true rfl⟩ ⟨Nat.le_of_ble_eq_true rfl, Nat.le_of_ble_eq_true rfl⟩ (fun hx2 => ?_) dX1_parent_2 (fun hn2 => ?_)
  · have h2 := exq_ne hx2
    exact dEx_of (c := 1) (by rw [if_pos (by omega)]) (by decide) (by rw [exq_f h2])
  · have h2 := exq_eq hn2 (by decide)
    rcases fsp_or T a with ⟨q1, q2⟩ | ⟨q1, q2⟩
    · omega
    have hV1 := hV.s q2
    rw [q1]
    first | refine g_getn_X1_94 (pc := 5) C (by omega) dX1_parent_5 ?_ | refine g_get_X1_94 (pc := 5) C (by omega) dX1_parent_5 ?_
    refine g_sstore_2 (pc := 8) C dX1_parent_8 ?_
    refine g_sload_2 (pc := 9) C dX1_parent_9 ?_
    refine g_ifnonnull (pc := 10) (tgt := 17) C dX1_parent_10 (by decide) (fun h10 => ?_) (fun h10 => ?_)
    · have hp := hV.s (x := T 14 a.toNat) ⟨h10, by omega, hT a.toNat (by omega) q2.2.2 h10⟩
      refine g_sload_2 (pc := 17) C dX1_parent_17 ?_
      first | refine g_getn_X1_154 (pc := 18) C (by omega) dX1_parent_18 ?_ | refine g_get_X1_154 (pc := 18) C (by omega) dX1_parent_18 ?_
      refine g_iret (pc := 21) C (Nat.le_of_ble_eq_true rfl) (Nat.le_of_ble_eq_true rfl) dX1_parent_21 ?_
      exact ⟨by rw [if_neg (by omega)], by rw [hp.2.2.2.2.1], rfl⟩
    · refine g_iconst (pc := 13) C dX1_parent_13 ?_
      refine g_goto (pc := 14) (tgt := 21) C dX1_parent_14 (by decide) ?_
      refine g_iret (pc := 21) C (Nat.le_of_ble_eq_true rfl) (Nat.le_of_ble_eq_true rfl) dX1_parent_21 ?_
      exact ⟨by rw [if_neg (by omega)], by rw [show T 14 a.toNat = -1 by omega], rfl⟩
theorem k_X1_free {l : Launch} {cs : CSt} {np : Nat} {ad : Nat → Nat} {T : MT} (hV : VC np T) (hA : VA T) (a : Int) (ha : -2147483648 ≤ a ∧ a < 2147483648) : KD l cs yX1_free (Cond.code yX1_free cX1_free 3 (some .int) :: GW) 7 1 6 [.ref (ad 0), .int (zI a)] np ad T (if fsp T a < 0 then 1 else 0) (some (.int (zI (outC T a - liiC T a)))) (np, ad, T) := by
  have hV0 := hV.1
  refine KC_of (cc := cX1_free) (nL := 3) (rt := (some .int)) (by decide) (by simp [grf_cat, cat_int, cat_ref]) (by simp) ?_
  intro p e s m args below meth c A C hE hin
  refine g_eq (lv2 := [some (.ref (ad 0)), some (.int (zI a)), none]) rfl rfl rfl ?_
  refine g_aload_0 (pc := 0) C dX1_free_0 ?_
  refine g_iload_1 (pc := 1) C dX1_free_1 ?_
  refine g_cY1Dv (pc := 2) C hE cs_X1_43 (k_X1_spanOf a (by omega) ha) ⟨Nat.le_of_ble_eq_true rfl, Nat.le_of_ble_eq_true rfl⟩ (by omega) (Nat.le_of_ble_eq_true rfl) ⟨Nat.le_of_ble_eq_true rfl, Nat.le_of_ble_eq_true rfl⟩ ⟨Nat.le_of_ble_eq_true rfl, Nat.le_of_ble_eq_true rfl⟩ (fun hx2 => ?_) dX1_free_2 (fun hn2 => ?_)
  · have h2 := exq_ne hx2
    exact dEx_of (c := 1) (by rw [if_pos (by omega)]) (by decide) (by rw [exq_f h2])
  · have h2 := exq_eq hn2 (by decide)
    rcases fsp_or T a with ⟨q1, q2⟩ | ⟨q1, q2⟩
    · omega
    have hV1 := hV.s q2
    rw [q1]
    refine g_sstore_2 (pc := 5) C dX1_free_5 ?_
    refine g_aload_0 (pc := 6) C dX1_free_6 ?_
    refine g_sload_2 (pc := 7) C dX1_free_7 ?_
    refine g_cY1Pv (pc := 8) C cs_X1_157 (k_X1_outsideChildren hV a (by omega)) ⟨Nat.le_of_ble_eq_true rfl, Nat.le_of_ble_eq_true rfl⟩ (by omega) (Nat.le_of_ble_eq_true rfl) ⟨Nat.le_of_ble_eq_true rfl, Nat.le_of_ble_eq_true rfl⟩ dX1_free_8 ?_
    refine g_aload_0 (pc := 11) C dX1_free_11 ?_
    refine g_sload_2 (pc := 12) C dX1_free_12 ?_
    refine g_cY1Pv (pc := 13) C cs_X1_160 (k_X1_lentInItself hV hA a q2) ⟨Nat.le_of_ble_eq_true rfl, Nat.le_of_ble_eq_true rfl⟩ (by omega) (Nat.le_of_ble_eq_true rfl) ⟨Nat.le_of_ble_eq_true rfl, Nat.le_of_ble_eq_true rfl⟩ dX1_free_13 ?_
    refine g_isub (pc := 16) C dX1_free_16 ?_
    refine g_iret (pc := 17) C (Nat.le_of_ble_eq_true rfl) (Nat.le_of_ble_eq_true rfl) dX1_free_17 ?_
    exact ⟨by rw [if_neg (by omega)], rfl, rfl⟩
noncomputable def gfC (T : MT) (x : Int) : Int := if chB T x 1 false = -1 then 0 else if roomC T x (chB T x 1 false) < T 16 x.toNat then roomC T x (chB T x 1 false) else T 16 x.toNat / 2
theorem k_X1_greatestFree {l : Launch} {cs : CSt} {np : Nat} {ad : Nat → Nat} {T : MT} (hV : VC np T) (a : Int) (ha : -2147483648 ≤ a ∧ a < 2147483648) : KD l cs yX1_greatestFree (Cond.code yX1_greatestFree cX1_greatestFree 5 (some .int) :: GW) 7 8 48 [.ref (ad 0), .int (zI a)] np ad T (if fsp T a < 0 then 1 else 0) (some (.int (zI (gfC T a)))) (np, ad, T) := by
  have hV0 := hV.1
  refine KC_of (cc := cX1_greatestFree) (nL := 5) (rt := (some .int)) (by decide) (by simp [grf_cat, cat_int, cat_ref]) (by simp) ?_
  intro p e s m args below meth c A C hE hin
  refine g_eq (lv2 := [some (.ref (ad 0)), some (.int (zI a)), none, none, none]) rfl rfl rfl ?_
  refine g_aload_0 (pc := 0) C dX1_greatestFree_0 ?_
  refine g_iload_1 (pc := 1) C dX1_greatestFree_1 ?_
  refine g_cY1Dv (pc := 2) C hE cs_X1_43 (k_X1_spanOf a (by omega) ha) ⟨Nat.le_of_ble_eq_true rfl, Nat.le_of_ble_eq_true rfl⟩ (by omega) (Nat.le_of_ble_eq_true rfl) ⟨Nat.le_of_ble_eq_true rfl, Nat.le_of_ble_eq_true rfl⟩ ⟨Nat.le_of_ble_eq_true rfl, Nat.le_of_ble_eq_true rfl⟩ (fun hx2 => ?_) dX1_greatestFree_2 (fun hn2 => ?_)
  · have h2 := exq_ne hx2
    exact dEx_of (c := 1) (by rw [if_pos (by omega)]) (by decide) (by rw [exq_f h2])
  · have h2 := exq_eq hn2 (by decide)
    rcases fsp_or T a with ⟨q1, q2⟩ | ⟨q1, q2⟩
    · omega
    have hV1 := hV.s q2
    rw [q1]
    have hcb : -1 ≤ chB T a 1 false ∧ chB T a 1 false ≤ 4096 := by rw [chB_eq]; exact ⟨(cbI_bd hV q2 1 false 4096).1, (cbI_bd hV q2 1 false 4096).2.1⟩
    have hg2 := roomC_b2 T a (chB T a 1 false)
    refine g_sstore_2 (pc := 5) C dX1_greatestFree_5 ?_
    refine g_aload_0 (pc := 6) C dX1_greatestFree_6 ?_
    refine g_sload_2 (pc := 7) C dX1_greatestFree_7 ?_
    refine g_iconst (pc := 8) C dX1_greatestFree_8 ?_
    refine g_iconst (pc := 9) C dX1_greatestFree_9 ?_
    refine g_cY3Pv (pc := 10) C cs_X1_65 (k_X1_chosenBlock hV a 1 false q2 (by omega)) ⟨Nat.le_of_ble_eq_true rfl, Nat.le_of_ble_eq_true rfl⟩ (by omega) (Nat.le_of_ble_eq_true rfl) ⟨Nat.le_of_ble_eq_true rfl, Nat.le_of_ble_eq_true rfl⟩ dX1_greatestFree_10 ?_
    refine g_istore_3 (pc := 13) C dX1_greatestFree_13 ?_
    refine g_iload_3 (pc := 14) C dX1_greatestFree_14 ?_
    refine g_iconst (pc := 15) C dX1_greatestFree_15 ?_
    refine g_icmp_ne (pc := 16) (tgt := 21) C dX1_greatestFree_16 (by decide) (by omega) (by omega) (fun h16 => ?_) (fun h16 => ?_)
    · refine g_aload_0 (pc := 21) C dX1_greatestFree_21 ?_
      refine g_sload_2 (pc := 22) C dX1_greatestFree_22 ?_
      refine g_iload_3 (pc := 23) C dX1_greatestFree_23 ?_
      refine g_cY2Pv (pc := 24) C cs_X1_74 (k_X1_roomAt hV a _ q2 (by omega)) ⟨Nat.le_of_ble_eq_true rfl, Nat.le_of_ble_eq_true rfl⟩ (by omega) (Nat.le_of_ble_eq_true rfl) ⟨Nat.le_of_ble_eq_true rfl, Nat.le_of_ble_eq_true rfl⟩ dX1_greatestFree_24 ?_
      refine g_istore_4 (pc := 27) C dX1_greatestFree_27 ?_
      refine g_iload_4 (pc := 29) C dX1_greatestFree_29 ?_
      refine g_sload_2 (pc := 31) C dX1_greatestFree_31 ?_
      first | refine g_getn_X1_114 (pc := 32) C (by omega) dX1_greatestFree_32 ?_ | refine g_get_X1_114 (pc := 32) C (by omega) dX1_greatestFree_32 ?_
      refine g_icmp_ge (pc := 35) (tgt := 43) C dX1_greatestFree_35 (by decide) (by omega) (by omega) (fun h35 => ?_) (fun h35 => ?_)
      · refine g_sload_2 (pc := 43) C dX1_greatestFree_43 ?_
        first | refine g_getn_X1_114 (pc := 44) C (by omega) dX1_greatestFree_44 ?_ | refine g_get_X1_114 (pc := 44) C (by omega) dX1_greatestFree_44 ?_
        refine g_iconst (pc := 47) C dX1_greatestFree_47 ?_
        refine g_idiv (pc := 48) C dX1_greatestFree_48 (by omega) (by omega) ?_
        refine g_iret (pc := 49) C (Nat.le_of_ble_eq_true rfl) (Nat.le_of_ble_eq_true rfl) dX1_greatestFree_49 ?_
        exact ⟨by rw [if_neg (by omega)], by rw [gfC, if_neg h16, if_neg (by omega)], rfl⟩
      · refine g_iload_4 (pc := 38) C dX1_greatestFree_38 ?_
        refine g_goto (pc := 40) (tgt := 49) C dX1_greatestFree_40 (by decide) ?_
        refine g_iret (pc := 49) C (Nat.le_of_ble_eq_true rfl) (Nat.le_of_ble_eq_true rfl) dX1_greatestFree_49 ?_
        exact ⟨by rw [if_neg (by omega)], by rw [gfC, if_neg h16, if_pos (by omega)], rfl⟩
    · refine g_iconst (pc := 19) C dX1_greatestFree_19 ?_
      refine g_iret (pc := 20) C (Nat.le_of_ble_eq_true rfl) (Nat.le_of_ble_eq_true rfl) dX1_greatestFree_20 ?_
      exact ⟨by rw [if_neg (by omega)], by rw [gfC, if_pos h16], rfl⟩
theorem k_X1_day {l : Launch} {cs : CSt} {np : Nat} {ad : Nat → Nat} {T : MT} (h13 : 13 ≤ np) : KD l cs yX1_day (Cond.code yX1_day cX1_day 1 (some .int) :: GW) 7 0 0 [.ref (ad 0)] np ad T 0 (some (.int (zI (T 0 5)))) (np, ad, T) := by
  refine KC_of (cc := cX1_day) (nL := 1) (rt := (some .int)) (by decide) (by simp [grf_cat, cat_int, cat_ref]) (by simp) ?_
  intro p e s m args below meth c A C hE hin
  refine g_eq (lv2 := [some (.ref (ad 0))]) rfl rfl rfl ?_
  refine g_aload_0 (pc := 0) C dX1_day_0 ?_
  refine g_get_X1_33 (pc := 1) C (by omega) dX1_day_1 ?_
  refine g_iret (pc := 4) C (Nat.le_of_ble_eq_true rfl) (Nat.le_of_ble_eq_true rfl) dX1_day_4 ?_
  exact ⟨rfl, rfl, rfl⟩
theorem k_X1_lent {l : Launch} {cs : CSt} {np : Nat} {ad : Nat → Nat} {T : MT} (h13 : 13 ≤ np) : KD l cs yX1_lent (Cond.code yX1_lent cX1_lent 1 (some .int) :: GW) 7 0 0 [.ref (ad 0)] np ad T 0 (some (.int (zI (T 0 4)))) (np, ad, T) := by
  refine KC_of (cc := cX1_lent) (nL := 1) (rt := (some .int)) (by decide) (by simp [grf_cat, cat_int, cat_ref]) (by simp) ?_
  intro p e s m args below meth c A C hE hin
  refine g_eq (lv2 := [some (.ref (ad 0))]) rfl rfl rfl ?_
  refine g_aload_0 (pc := 0) C dX1_lent_0 ?_
  refine g_get_X1_30 (pc := 1) C (by omega) dX1_lent_1 ?_
  refine g_iret (pc := 4) C (Nat.le_of_ble_eq_true rfl) (Nat.le_of_ble_eq_true rfl) dX1_lent_4 ?_
  exact ⟨rfl, rfl, rfl⟩
theorem k_X1_isThere {l : Launch} {cs : CSt} {np : Nat} {ad : Nat → Nat} {T : MT} (h13 : 13 ≤ np) (a : Int) (ha : -2147483648 ≤ a ∧ a < 2147483648) : KD l cs yX1_isThere (Cond.code yX1_isThere cX1_isThere 2 (some .boolean) :: GW) 7 0 0 [.ref (ad 0), .int (zI a)] np ad T 0 (some (.int (zI (if fsp T a < 0 then 0 else 1)))) (np, ad, T) := by
  refine KC_of (cc := cX1_isThere) (nL := 2) (rt := (some .boolean)) (by decide) (by simp [grf_cat, cat_int, cat_ref]) (by simp) ?_
  intro p e s m args below meth c A C hE hin
  refine g_eq (lv2 := [some (.ref (ad 0)), some (.int (zI a))]) rfl rfl rfl ?_
  refine g_aload_0 (pc := 0) C dX1_isThere_0 ?_
  refine g_iload_1 (pc := 1) C dX1_isThere_1 ?_
  refine g_cY1Pv (pc := 2) C cs_X1_151 (k_X1_findSpan a h13 ha) ⟨Nat.le_of_ble_eq_true rfl, Nat.le_of_ble_eq_true rfl⟩ (by omega) (Nat.le_of_ble_eq_true rfl) ⟨Nat.le_of_ble_eq_true rfl, Nat.le_of_ble_eq_true rfl⟩ dX1_isThere_2 ?_
  refine g_ifnull (pc := 5) (tgt := 12) C dX1_isThere_5 (by decide) (fun h5 => ?_) (fun h5 => ?_)
  · refine g_iconst (pc := 12) C dX1_isThere_12 ?_
    refine g_zret (pc := 13) C (by omega) (Nat.le_of_ble_eq_true rfl) (Nat.le_of_ble_eq_true rfl) dX1_isThere_13 ?_
    exact ⟨rfl, by rw [if_pos h5], rfl⟩
  · refine g_iconst (pc := 8) C dX1_isThere_8 ?_
    refine g_goto (pc := 9) (tgt := 13) C dX1_isThere_9 (by decide) ?_
    refine g_zret (pc := 13) C (by omega) (Nat.le_of_ble_eq_true rfl) (Nat.le_of_ble_eq_true rfl) dX1_isThere_13 ?_
    exact ⟨rfl, by rw [if_neg (by omega)], rfl⟩
theorem k_X1_nearestByRow {l : Launch} {cs : CSt} {np : Nat} {ad : Nat → Nat} {T : MT} (hV : VC np T) (hA : VA T) (a : Int) (ha : -2147483648 ≤ a ∧ a < 2147483648) : KD l cs yX1_nearestByRow (Cond.code yX1_nearestByRow cX1_nearestByRow 2 (some .int) :: GW) 7 8 48 [.ref (ad 0), .int (zI a)] np ad T (exq (0 ≤ a ∧ a < 4096) 1) (some (.int (zI (lyR T 3 a.toNat)))) (np, ad, lyR T) := by
  have hV0 := hV.1
  refine KC_of (cc := cX1_nearestByRow) (nL := 2) (rt := (some .int)) (by decide) (by simp [grf_cat, cat_int, cat_ref]) (by simp) ?_
  intro p e s m args below meth c A C hE hin
  refine g_eq (lv2 := [some (.ref (ad 0)), some (.int (zI a))]) rfl rfl rfl ?_
  refine g_iload_1 (pc := 0) C dX1_nearestByRow_0 ?_
  refine g_cT1Dn (pc := 1) C hE cs_X1_141 (k_X1_checkAddress a ha) ⟨Nat.le_of_ble_eq_true rfl, Nat.le_of_ble_eq_true rfl⟩ (Nat.le_of_ble_eq_true rfl) ⟨Nat.le_of_ble_eq_true rfl, Nat.le_of_ble_eq_true rfl⟩ ⟨Nat.le_of_ble_eq_true rfl, Nat.le_of_ble_eq_true rfl⟩ (fun hx1 => ?_) dX1_nearestByRow_1 (fun hn1 => ?_)
  · exact dEx_of (c := 1) (exq_f (exq_ne hx1)) (by decide) (by rw [exq_f (exq_ne hx1)])
  · have h2 := exq_eq hn1 (by decide)
    refine g_aload_0 (pc := 4) C dX1_nearestByRow_4 ?_
    refine g_cY0Pn (pc := 5) C cs_X1_172 (k_X1_layRow hV hA) ⟨Nat.le_of_ble_eq_true rfl, Nat.le_of_ble_eq_true rfl⟩ (by omega) (Nat.le_of_ble_eq_true rfl) ⟨Nat.le_of_ble_eq_true rfl, Nat.le_of_ble_eq_true rfl⟩ dX1_nearestByRow_5 ?_
    refine g_aload_0 (pc := 8) C dX1_nearestByRow_8 ?_
    refine g_get_X1_36 (pc := 9) C (by omega) dX1_nearestByRow_9 ?_
    refine g_iload_1 (pc := 12) C dX1_nearestByRow_12 ?_
    first | refine g_aldn_3 (pc := 13) C (by omega) (by omega) dX1_nearestByRow_13 ?_ | refine g_ald_3 (pc := 13) C (by omega) (by omega) dX1_nearestByRow_13 ?_
    refine g_iret (pc := 14) C (Nat.le_of_ble_eq_true rfl) (Nat.le_of_ble_eq_true rfl) dX1_nearestByRow_14 ?_
    exact ⟨hn1, rfl, rfl⟩
theorem k_X1_setOwner {l : Launch} {cs : CSt} {np : Nat} {ad : Nat → Nat} {T : MT} (hV : VC np T) (a o : Int) (ha : -2147483648 ≤ a ∧ a < 2147483648) (ho : -2147483648 ≤ o ∧ o < 2147483648) : KD l cs yX1_setOwner (Cond.code yX1_setOwner cX1_setOwner 5 (some .int) :: GW) 7 8 48 [.ref (ad 0), .int (zI a), .int (zI o)] np ad T (if fsp T a < 0 then 1 else if 0 ≤ o ∧ o < 8 then 0 else 2) (some (.int (zI (T 17 a.toNat)))) (np, ad, mst T 17 a.toNat o) := by
  have hV0 := hV.1
  refine KC_of (cc := cX1_setOwner) (nL := 5) (rt := (some .int)) (by decide) (by simp [grf_cat, cat_int, cat_ref]) (by simp) ?_
  intro p e s m args below meth c A C hE hin
  refine g_eq (lv2 := [some (.ref (ad 0)), some (.int (zI a)), some (.int (zI o)), none, none]) rfl rfl rfl ?_
  refine g_aload_0 (pc := 0) C dX1_setOwner_0 ?_
  refine g_iload_1 (pc := 1) C dX1_setOwner_1 ?_
  refine g_cY1Dv (pc := 2) C hE cs_X1_43 (k_X1_spanOf a (by omega) ha) ⟨Nat.le_of_ble_eq_true rfl, Nat.le_of_ble_eq_true rfl⟩ (by omega) (Nat.le_of_ble_eq_true rfl) ⟨Nat.le_of_ble_eq_true rfl, Nat.le_of_ble_eq_true rfl⟩ ⟨Nat.le_of_ble_eq_true rfl, Nat.le_of_ble_eq_true rfl⟩ (fun hx2 => ?_) dX1_setOwner_2 (fun hn2 => ?_)
  · have h2 := exq_ne hx2
    exact dEx_of (c := 1) (by rw [if_pos (by omega)]) (by decide) (by rw [exq_f h2])
  · have h2 := exq_eq hn2 (by decide)
    rcases fsp_or T a with ⟨q1, q2⟩ | ⟨q1, q2⟩
    · omega
    have hV1 := hV.s q2
    rw [q1]
    refine g_sstore_3 (pc := 5) C dX1_setOwner_5 ?_
    refine g_iload_2 (pc := 6) C dX1_setOwner_6 ?_
    refine g_cT1Dn (pc := 7) C hE cs_X1_51 (k_X1_checkOwner o ho) ⟨Nat.le_of_ble_eq_true rfl, Nat.le_of_ble_eq_true rfl⟩ (Nat.le_of_ble_eq_true rfl) ⟨Nat.le_of_ble_eq_true rfl, Nat.le_of_ble_eq_true rfl⟩ ⟨Nat.le_of_ble_eq_true rfl, Nat.le_of_ble_eq_true rfl⟩ (fun hx7 => ?_) dX1_setOwner_7 (fun hn7 => ?_)
    · exact dEx_of (c := 2) (by rw [if_neg (by omega), if_neg (exq_ne hx7)]) (by decide) (by rw [exq_f (exq_ne hx7)])
    · have h3 := exq_eq hn7 (by decide)
      refine g_sload_3 (pc := 10) C dX1_setOwner_10 ?_
      first | refine g_getn_X1_125 (pc := 11) C (by omega) dX1_setOwner_11 ?_ | refine g_get_X1_125 (pc := 11) C (by omega) dX1_setOwner_11 ?_
      refine g_istore_4 (pc := 14) C dX1_setOwner_14 ?_
      refine g_sload_3 (pc := 16) C dX1_setOwner_16 ?_
      refine g_iload_2 (pc := 17) C dX1_setOwner_17 ?_
      refine g_put_X1_125 (pc := 18) C (by omega) dX1_setOwner_18 ?_
      refine g_iload_4 (pc := 21) C dX1_setOwner_21 ?_
      refine g_iret (pc := 23) C (Nat.le_of_ble_eq_true rfl) (Nat.le_of_ble_eq_true rfl) dX1_setOwner_23 ?_
      exact ⟨by rw [if_neg (by omega), if_pos h3], rfl, rfl⟩
theorem k_X1_takeBack {l : Launch} {cs : CSt} {np : Nat} {ad : Nat → Nat} {T : MT} (h13 : 13 ≤ np) (hA : VA T) (a : Int) (ha : -2147483648 ≤ a ∧ a < 2147483648) : KD l cs yX1_takeBack (Cond.code yX1_takeBack cX1_takeBack 3 (some .int) :: GW) 7 8 48 [.ref (ad 0), .int (zI a)] np ad T (if ¬ (0 ≤ a ∧ a < 4096) then 1 else if T 2 a.toNat = 0 then 3 else 0) (some (.int (zI (if T 2 a.toNat = -1 then 0 else T 2 a.toNat - T 0 5)))) (np, ad, mst (mst T 2 a.toNat 0) 0 4 (T 0 4 - 1)) := by
  refine KC_of (cc := cX1_takeBack) (nL := 3) (rt := (some .int)) (by decide) (by simp [grf_cat, cat_int, cat_ref]) (by simp) ?_
  intro p e s m args below meth c A C hE hin
  refine g_eq (lv2 := [some (.ref (ad 0)), some (.int (zI a)), none]) rfl rfl rfl ?_
  refine g_iload_1 (pc := 0) C dX1_takeBack_0 ?_
  refine g_cT1Dn (pc := 1) C hE cs_X1_141 (k_X1_checkAddress a ha) ⟨Nat.le_of_ble_eq_true rfl, Nat.le_of_ble_eq_true rfl⟩ (Nat.le_of_ble_eq_true rfl) ⟨Nat.le_of_ble_eq_true rfl, Nat.le_of_ble_eq_true rfl⟩ ⟨Nat.le_of_ble_eq_true rfl, Nat.le_of_ble_eq_true rfl⟩ (fun hx1 => ?_) dX1_takeBack_1 (fun hn1 => ?_)
  · exact dEx_of (c := 1) (by rw [if_pos (exq_ne hx1)]) (by decide) (by rw [exq_f (exq_ne hx1)])
  · have h2 := exq_eq hn1 (by decide)
    have h3 := hA.2 a.toNat (by omega)
    refine g_aload_0 (pc := 4) C dX1_takeBack_4 ?_
    refine g_get_X1_26 (pc := 5) C (by omega) dX1_takeBack_5 ?_
    refine g_iload_1 (pc := 8) C dX1_takeBack_8 ?_
    first | refine g_aldn_2 (pc := 9) C (by omega) (by omega) dX1_takeBack_9 ?_ | refine g_ald_2 (pc := 9) C (by omega) (by omega) dX1_takeBack_9 ?_
    refine g_istore_2 (pc := 10) C dX1_takeBack_10 ?_
    refine g_iload_2 (pc := 11) C dX1_takeBack_11 ?_
    refine g_if_ne (pc := 12) (tgt := 25) C dX1_takeBack_12 (by decide) (by omega) (fun h12 => ?_) (fun h12 => ?_)
    · refine g_aload_0 (pc := 25) C dX1_takeBack_25 ?_
      refine g_get_X1_26 (pc := 26) C (by omega) dX1_takeBack_26 ?_
      refine g_iload_1 (pc := 29) C dX1_takeBack_29 ?_
      refine g_iconst (pc := 30) C dX1_takeBack_30 ?_
      first | refine g_astn_2 (pc := 31) C (by omega) (by omega) dX1_takeBack_31 ?_ | refine g_ast_2 (pc := 31) C (by omega) (by omega) dX1_takeBack_31 ?_
      refine g_aload_0 (pc := 32) C dX1_takeBack_32 ?_
      refine g_dup (pc := 33) C dX1_takeBack_33 rfl ?_
      refine g_get_X1_30 (pc := 34) C (by omega) dX1_takeBack_34 ?_
      rw [mst_r (by decide)]
      refine g_iconst (pc := 37) C dX1_takeBack_37 ?_
      refine g_isub (pc := 38) C dX1_takeBack_38 ?_
      refine g_put_X1_30 (pc := 39) C (by omega) dX1_takeBack_39 ?_
      refine g_iload_2 (pc := 42) C dX1_takeBack_42 ?_
      refine g_iconst (pc := 43) C dX1_takeBack_43 ?_
      refine g_icmp_ne (pc := 44) (tgt := 51) C dX1_takeBack_44 (by decide) (by omega) (by omega) (fun h44 => ?_) (fun h44 => ?_)
      · refine g_iload_2 (pc := 51) C dX1_takeBack_51 ?_
        refine g_aload_0 (pc := 52) C dX1_takeBack_52 ?_
        refine g_get_X1_33 (pc := 53) C (by omega) dX1_takeBack_53 ?_
        rw [mst_ne (by decide), mst_r (by decide)]
        refine g_isub (pc := 56) C dX1_takeBack_56 ?_
        refine g_iret (pc := 57) C (Nat.le_of_ble_eq_true rfl) (Nat.le_of_ble_eq_true rfl) dX1_takeBack_57 ?_
        exact ⟨by rw [if_neg (by omega), if_neg h12], by rw [if_neg h44], rfl⟩
      · refine g_iconst (pc := 47) C dX1_takeBack_47 ?_
        refine g_goto (pc := 48) (tgt := 57) C dX1_takeBack_48 (by decide) ?_
        refine g_iret (pc := 57) C (Nat.le_of_ble_eq_true rfl) (Nat.le_of_ble_eq_true rfl) dX1_takeBack_57 ?_
        exact ⟨by rw [if_neg (by omega), if_neg h12], by rw [if_pos h44], rfl⟩
    · refine g_throw_3 (pc := 15) C hE (text := "the address is not lent") (by decide) dX1_takeBack_15 dX1_takeBack_18 dX1_takeBack_19 dX1_takeBack_21 dX1_takeBack_24 ⟨Nat.le_of_ble_eq_true rfl, Nat.le_of_ble_eq_true rfl, Nat.le_of_ble_eq_true rfl, Nat.le_of_ble_eq_true rfl⟩ ⟨Nat.le_of_ble_eq_true rfl, Nat.le_of_ble_eq_true rfl⟩ ?_
      exact dEx_of (c := 3) (by rw [if_neg (by omega), if_pos h12]) (by decide) rfl
