/-! the law: low -/
def lo (x : Int32) (n : Int) : Int := ((x.toBitVec.toNat % 2147483648 : Nat) : Int) % n
theorem lo_bd (x : Int32) {n : Int} (hn : 0 < n) : 0 ≤ lo x n ∧ lo x n < n := ⟨Int.emod_nonneg _ (by omega), Int.emod_lt_of_pos _ hn⟩
theorem lo_and (x : Int32) : x &&& 2147483647 = zI ((x.toBitVec.toNat % 2147483648 : Nat) : Int) := by
  rw [pk_and x 31 (by decide)]
  exact zI_ofNat _
theorem k_L_low {l : Launch} {cs : CSt} {np : Nat} {ad : Nat → Nat} {T : MT} (x : Int32) (z : Int) (hz : 1 ≤ z ∧ z < 2147483648) : KD l cs yL_low (Cond.code yL_low cL_low 2 (some .int) :: GW) 0 0 0 [.int x, .int (zI z)] np ad T 0 (some (.int (zI (lo x z)))) (np, ad, T) := by
  refine KC_of (cc := cL_low) (nL := 2) (rt := (some .int)) (by decide) (by simp [grf_cat, cat_int, cat_ref]) (by simp) ?_
  intro p e s m args below meth c A C hE hin
  refine g_eq (lv2 := [some (.int x), some (.int (zI z))]) rfl rfl rfl ?_
  have hb : 0 ≤ ((x.toBitVec.toNat % 2147483648 : Nat) : Int) ∧ ((x.toBitVec.toNat % 2147483648 : Nat) : Int) < 2147483648 := by omega
  refine g_iload_0 (pc := 0) C dL_low_0 ?_
  refine g_ldci (pc := 1) C dL_low_1 ct_L_7 ?_
  refine g_iandz (pc := 3) C dL_low_3 (lo_and x) ?_
  refine g_iload_1 (pc := 4) C dL_low_4 ?_
  refine g_irem (pc := 5) C dL_low_5 hb (by omega) ?_
  refine g_iret (pc := 6) C (Nat.le_of_ble_eq_true rfl) (Nat.le_of_ble_eq_true rfl) dL_low_6 ?_
  exact ⟨rfl, rfl, rfl⟩
