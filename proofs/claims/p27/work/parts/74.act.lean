/-! the law: act -/
def shr (x : Int32) (n : Int) : Int32 := x >>> (zI n &&& 31)
noncomputable def aSp (x : Int32) : Int := if lo (shr x 24) 9 = 0 then lo (shr x 4) 63 - 1 else lo (shr x 4) 14 - 0
noncomputable def aSz (x : Int32) : Int := if lo (shr x 24) 9 = 0 then lo (shr x 10) 4200 else 2 ^ (lo (shr x 10) 12).toNat
noncomputable def aOw (x : Int32) : Int := if lo (shr x 24) 9 = 0 then lo (shr x 14) 10 - 1 else lo (shr x 14) 8
noncomputable def aWy (x : Int32) : Int := if lo (shr x 24) 9 = 0 then lo (shr x 17) 4 else lo (shr x 17) 3
noncomputable def aBs (x : Int32) : Int := if lo (shr x 24) 9 = 0 then lo (shr x 14) 5000 - 50 else 2 ^ (lo (shr x 10) 12).toNat * lo (shr x 14) (4096 / 2 ^ (lo (shr x 10) 12).toNat)
noncomputable def aDy (x : Int32) : Int := if lo (shr x 24) 9 = 0 then lo (shr x 14) 105 - 2 else lo (shr x 14) 6
noncomputable def aAd (x : Int32) : Int := if lo (shr x 24) 9 = 0 then lo (shr x 10) 4100 - 2 else lo (shr x 10) 64 * 64
noncomputable def aPs (x : Int32) : Int := if lo (shr x 24) 9 = 0 then lo (shr x 10) 1005 else 1 + lo (shr x 10) 3
noncomputable def actC (x : Int32) (T : MT) : Cmd :=
  if lo x 16 < 5 then cCv T (aSp x) (aSz x) (aOw x) (aWy x)
  else if lo x 16 < 6 then cCa T (aSp x) (aBs x) (aSz x) (lo (shr x 4) 8)
  else if lo x 16 < 7 then cRm T (aSp x)
  else if lo x 16 < 9 then cGr T (aSp x)
  else if lo x 16 < 10 then cHv T (aSp x)
  else if lo x 16 < 11 then cSo T (aSp x) (aOw x)
  else if lo x 16 < 14 then cLe T (aSp x) (aDy x)
  else if lo x 16 < 15 then cTk T (aAd x)
  else cPs T (aPs x)
theorem sz12 : ∀ k : Nat, k < 12 → (1 : Int32) <<< (zI (k : Int) &&& 31) = zI ((2 : Int) ^ k) ∧ 1 ≤ (2 : Int) ^ k ∧ (2 : Int) ^ k ≤ 2048 ∧ 1 ≤ (4096 : Int) / 2 ^ k ∧ (4096 : Int) / 2 ^ k ≤ 4096 ∧ (4096 : Int) / 2 ^ k * 2 ^ k = 4096 := by decide
theorem sz12z (x : Int32) : zI 1 <<< (zI (lo x 12) &&& 31) = zI ((2 : Int) ^ (lo x 12).toNat) ∧ 1 ≤ (2 : Int) ^ (lo x 12).toNat ∧ (2 : Int) ^ (lo x 12).toNat ≤ 2048 ∧ 1 ≤ (4096 : Int) / 2 ^ (lo x 12).toNat ∧ (4096 : Int) / 2 ^ (lo x 12).toNat ≤ 4096 ∧ (4096 : Int) / 2 ^ (lo x 12).toNat * 2 ^ (lo x 12).toNat = 4096 := by
  have h := lo_bd x (n := 12) (by decide)
  have h1 := sz12 (lo x 12).toNat (by omega)
  rw [Int.toNat_of_nonneg h.1] at h1
  exact h1
theorem act_s1 {l : Launch} {cs : CSt} {np : Nat} {ad : Nat → Nat} {T : MT} (hI : Inv np T) (x : Int32) (ho : lo (shr x 24) 9 = 0) {p : Program} {e : Env} {s : State} {m : MethodId} {args : Array Value} {below : List Frame} {meth : Method} {c : Code} {A : Nat → Prop} (C : gC p l s m args meth c cs A 5 cL_act RL (some .int)) : GG p l e (rmL 9 8 48) s m args below meth c (kQ cs A (aPR (actC x T) np ad T) (fun _ _ => False) below args s 8 48) cs A 5 0 0 np ad T 82 [some (.ref (ad 0)), some (.int x), some (.int (zI 1)), some (.int (zI (lo (shr x 4) 63 - 1))), some (.int (zI (lo (shr x 10) 4200)))] [.int (zI (lo x 16))] := by
  have h13 := hI.n13
  have hy := lo_bd x (n := 16) (by decide)
  have hsp := lo_bd (shr x 4) (n := 63) (by decide)
  have hsz := lo_bd (shr x 10) (n := 4200) (by decide)
  have how := lo_bd (shr x 14) (n := 10) (by decide)
  have hwy := lo_bd (shr x 17) (n := 4) (by decide)
  have hbs := lo_bd (shr x 14) (n := 5000) (by decide)
  have ho2 := lo_bd (shr x 4) (n := 8) (by decide)
  have hdy := lo_bd (shr x 14) (n := 105) (by decide)
  have had := lo_bd (shr x 10) (n := 4100) (by decide)
  have hps := lo_bd (shr x 10) (n := 1005) (by decide)
  have esp : aSp x = (lo (shr x 4) 63 - 1) := if_pos ho
  have esz : aSz x = (lo (shr x 10) 4200) := if_pos ho
  have hy2 : lo x 16 = 0 ∨ lo x 16 = 1 ∨ lo x 16 = 2 ∨ lo x 16 = 3 ∨ lo x 16 = 4 ∨ lo x 16 = 5 ∨ lo x 16 = 6 ∨ lo x 16 = 7 ∨ lo x 16 = 8 ∨ lo x 16 = 9 ∨ lo x 16 = 10 ∨ lo x 16 = 11 ∨ lo x 16 = 12 ∨ lo x 16 = 13 ∨ lo x 16 = 14 ∨ lo x 16 = 15 := by omega
  rcases hy2 with hy0 | hy1 | hy2 | hy3 | hy4 | hy5 | hy6 | hy7 | hy8 | hy9 | hy10 | hy11 | hy12 | hy13 | hy14 | hy15
  · have hyj : lo x 16 = 0 := hy0
    rw [hyj]
    refine g_tabI (pc := 82) (tgt := 156) (off := 74) C (by decide) (by decide) (by decide) (by decide) dL_act_82 ?_
    have he : actC x T = cCv T (aSp x) (aSz x) (aOw x) (aWy x) := by rw [actC, if_pos (by omega)]
    have eow : aOw x = (lo (shr x 14) 10 - 1) := if_pos ho
    have ewy : aWy x = (lo (shr x 17) 4) := if_pos ho
    rw [esp, esz, eow, ewy] at he
    refine g_aload_0 (pc := 156) C dL_act_156 ?_
    refine g_iload_3 (pc := 157) C dL_act_157 ?_
    refine g_iload_4 (pc := 158) C dL_act_158 ?_
    refine g_iload_2 (pc := 160) C dL_act_160 ?_
    refine g_if_eq (pc := 161) (tgt := 178) C dL_act_161 (by decide) (by omega) (fun h161 => absurd h161 (by omega)) (fun _ => ?_)
    refine g_iload_1 (pc := 164) C dL_act_164 ?_
    refine g_bipush (pc := 165) C dL_act_165 (by decide) ?_
    refine g_ishr (pc := 167) C dL_act_167 ?_
    refine g_bipush (pc := 168) C dL_act_168 (by decide) ?_
    refine g_cT2Pv (pc := 170) C cs_L_47 (k_L_low (shr x 14) 10 (by decide)) ⟨Nat.le_of_ble_eq_true rfl, Nat.le_of_ble_eq_true rfl⟩ (Nat.le_of_ble_eq_true rfl) ⟨Nat.le_of_ble_eq_true rfl, Nat.le_of_ble_eq_true rfl⟩ dL_act_170 ?_
    refine g_iconst (pc := 173) C dL_act_173 ?_
    refine g_isub (pc := 174) C dL_act_174 ?_
    refine g_goto (pc := 175) (tgt := 187) C dL_act_175 (by decide) ?_
    refine g_iload_1 (pc := 187) C dL_act_187 ?_
    refine g_bipush (pc := 188) C dL_act_188 (by decide) ?_
    refine g_ishr (pc := 190) C dL_act_190 ?_
    refine g_iload_2 (pc := 191) C dL_act_191 ?_
    refine g_if_eq (pc := 192) (tgt := 199) C dL_act_192 (by decide) (by omega) (fun h192 => absurd h192 (by omega)) (fun _ => ?_)
    refine g_iconst (pc := 195) C dL_act_195 ?_
    refine g_goto (pc := 196) (tgt := 200) C dL_act_196 (by decide) ?_
    refine g_cT2Pv (pc := 200) C cs_L_47 (k_L_low (shr x 17) 4 (by decide)) ⟨Nat.le_of_ble_eq_true rfl, Nat.le_of_ble_eq_true rfl⟩ (Nat.le_of_ble_eq_true rfl) ⟨Nat.le_of_ble_eq_true rfl, Nat.le_of_ble_eq_true rfl⟩ dL_act_200 ?_
    refine g_cX (pc := 203) C cx_L_52 (As := [.ref (ad 0), .int (zI (lo (shr x 4) 63 - 1)), .int (zI (lo (shr x 10) 4200)), .int (zI (lo (shr x 14) 10 - 1)), .int (zI (lo (shr x 17) 4))]) (rest := []) (a_carve hI (lo (shr x 4) 63 - 1) (lo (shr x 10) 4200) (lo (shr x 14) 10 - 1) (lo (shr x 17) 4) (by omega) (by omega) (by omega) (by omega)) ⟨Nat.le_of_ble_eq_true rfl, Nat.le_of_ble_eq_true rfl⟩ (Nat.le_of_ble_eq_true rfl) ⟨Nat.le_of_ble_eq_true rfl, Nat.le_of_ble_eq_true rfl⟩ dL_act_203 (fun v u h => ?_)
    obtain ⟨z, rfl⟩ := aPR_int h
    refine g_iret (pc := 206) C (Nat.le_of_ble_eq_true rfl) (Nat.le_of_ble_eq_true rfl) dL_act_206 ?_
    rw [he]
    exact h
  · have hyj : lo x 16 = 1 := hy1
    rw [hyj]
    refine g_tabI (pc := 82) (tgt := 156) (off := 74) C (by decide) (by decide) (by decide) (by decide) dL_act_82 ?_
    have he : actC x T = cCv T (aSp x) (aSz x) (aOw x) (aWy x) := by rw [actC, if_pos (by omega)]
    have eow : aOw x = (lo (shr x 14) 10 - 1) := if_pos ho
    have ewy : aWy x = (lo (shr x 17) 4) := if_pos ho
    rw [esp, esz, eow, ewy] at he
    refine g_aload_0 (pc := 156) C dL_act_156 ?_
    refine g_iload_3 (pc := 157) C dL_act_157 ?_
    refine g_iload_4 (pc := 158) C dL_act_158 ?_
    refine g_iload_2 (pc := 160) C dL_act_160 ?_
    refine g_if_eq (pc := 161) (tgt := 178) C dL_act_161 (by decide) (by omega) (fun h161 => absurd h161 (by omega)) (fun _ => ?_)
    refine g_iload_1 (pc := 164) C dL_act_164 ?_
    refine g_bipush (pc := 165) C dL_act_165 (by decide) ?_
    refine g_ishr (pc := 167) C dL_act_167 ?_
    refine g_bipush (pc := 168) C dL_act_168 (by decide) ?_
    refine g_cT2Pv (pc := 170) C cs_L_47 (k_L_low (shr x 14) 10 (by decide)) ⟨Nat.le_of_ble_eq_true rfl, Nat.le_of_ble_eq_true rfl⟩ (Nat.le_of_ble_eq_true rfl) ⟨Nat.le_of_ble_eq_true rfl, Nat.le_of_ble_eq_true rfl⟩ dL_act_170 ?_
    refine g_iconst (pc := 173) C dL_act_173 ?_
    refine g_isub (pc := 174) C dL_act_174 ?_
    refine g_goto (pc := 175) (tgt := 187) C dL_act_175 (by decide) ?_
    refine g_iload_1 (pc := 187) C dL_act_187 ?_
    refine g_bipush (pc := 188) C dL_act_188 (by decide) ?_
    refine g_ishr (pc := 190) C dL_act_190 ?_
    refine g_iload_2 (pc := 191) C dL_act_191 ?_
    refine g_if_eq (pc := 192) (tgt := 199) C dL_act_192 (by decide) (by omega) (fun h192 => absurd h192 (by omega)) (fun _ => ?_)
    refine g_iconst (pc := 195) C dL_act_195 ?_
    refine g_goto (pc := 196) (tgt := 200) C dL_act_196 (by decide) ?_
    refine g_cT2Pv (pc := 200) C cs_L_47 (k_L_low (shr x 17) 4 (by decide)) ⟨Nat.le_of_ble_eq_true rfl, Nat.le_of_ble_eq_true rfl⟩ (Nat.le_of_ble_eq_true rfl) ⟨Nat.le_of_ble_eq_true rfl, Nat.le_of_ble_eq_true rfl⟩ dL_act_200 ?_
    refine g_cX (pc := 203) C cx_L_52 (As := [.ref (ad 0), .int (zI (lo (shr x 4) 63 - 1)), .int (zI (lo (shr x 10) 4200)), .int (zI (lo (shr x 14) 10 - 1)), .int (zI (lo (shr x 17) 4))]) (rest := []) (a_carve hI (lo (shr x 4) 63 - 1) (lo (shr x 10) 4200) (lo (shr x 14) 10 - 1) (lo (shr x 17) 4) (by omega) (by omega) (by omega) (by omega)) ⟨Nat.le_of_ble_eq_true rfl, Nat.le_of_ble_eq_true rfl⟩ (Nat.le_of_ble_eq_true rfl) ⟨Nat.le_of_ble_eq_true rfl, Nat.le_of_ble_eq_true rfl⟩ dL_act_203 (fun v u h => ?_)
    obtain ⟨z, rfl⟩ := aPR_int h
    refine g_iret (pc := 206) C (Nat.le_of_ble_eq_true rfl) (Nat.le_of_ble_eq_true rfl) dL_act_206 ?_
    rw [he]
    exact h
  · have hyj : lo x 16 = 2 := hy2
    rw [hyj]
    refine g_tabI (pc := 82) (tgt := 156) (off := 74) C (by decide) (by decide) (by decide) (by decide) dL_act_82 ?_
    have he : actC x T = cCv T (aSp x) (aSz x) (aOw x) (aWy x) := by rw [actC, if_pos (by omega)]
    have eow : aOw x = (lo (shr x 14) 10 - 1) := if_pos ho
    have ewy : aWy x = (lo (shr x 17) 4) := if_pos ho
    rw [esp, esz, eow, ewy] at he
    refine g_aload_0 (pc := 156) C dL_act_156 ?_
    refine g_iload_3 (pc := 157) C dL_act_157 ?_
    refine g_iload_4 (pc := 158) C dL_act_158 ?_
    refine g_iload_2 (pc := 160) C dL_act_160 ?_
    refine g_if_eq (pc := 161) (tgt := 178) C dL_act_161 (by decide) (by omega) (fun h161 => absurd h161 (by omega)) (fun _ => ?_)
    refine g_iload_1 (pc := 164) C dL_act_164 ?_
    refine g_bipush (pc := 165) C dL_act_165 (by decide) ?_
    refine g_ishr (pc := 167) C dL_act_167 ?_
    refine g_bipush (pc := 168) C dL_act_168 (by decide) ?_
    refine g_cT2Pv (pc := 170) C cs_L_47 (k_L_low (shr x 14) 10 (by decide)) ⟨Nat.le_of_ble_eq_true rfl, Nat.le_of_ble_eq_true rfl⟩ (Nat.le_of_ble_eq_true rfl) ⟨Nat.le_of_ble_eq_true rfl, Nat.le_of_ble_eq_true rfl⟩ dL_act_170 ?_
    refine g_iconst (pc := 173) C dL_act_173 ?_
    refine g_isub (pc := 174) C dL_act_174 ?_
    refine g_goto (pc := 175) (tgt := 187) C dL_act_175 (by decide) ?_
    refine g_iload_1 (pc := 187) C dL_act_187 ?_
    refine g_bipush (pc := 188) C dL_act_188 (by decide) ?_
    refine g_ishr (pc := 190) C dL_act_190 ?_
    refine g_iload_2 (pc := 191) C dL_act_191 ?_
    refine g_if_eq (pc := 192) (tgt := 199) C dL_act_192 (by decide) (by omega) (fun h192 => absurd h192 (by omega)) (fun _ => ?_)
    refine g_iconst (pc := 195) C dL_act_195 ?_
    refine g_goto (pc := 196) (tgt := 200) C dL_act_196 (by decide) ?_
    refine g_cT2Pv (pc := 200) C cs_L_47 (k_L_low (shr x 17) 4 (by decide)) ⟨Nat.le_of_ble_eq_true rfl, Nat.le_of_ble_eq_true rfl⟩ (Nat.le_of_ble_eq_true rfl) ⟨Nat.le_of_ble_eq_true rfl, Nat.le_of_ble_eq_true rfl⟩ dL_act_200 ?_
    refine g_cX (pc := 203) C cx_L_52 (As := [.ref (ad 0), .int (zI (lo (shr x 4) 63 - 1)), .int (zI (lo (shr x 10) 4200)), .int (zI (lo (shr x 14) 10 - 1)), .int (zI (lo (shr x 17) 4))]) (rest := []) (a_carve hI (lo (shr x 4) 63 - 1) (lo (shr x 10) 4200) (lo (shr x 14) 10 - 1) (lo (shr x 17) 4) (by omega) (by omega) (by omega) (by omega)) ⟨Nat.le_of_ble_eq_true rfl, Nat.le_of_ble_eq_true rfl⟩ (Nat.le_of_ble_eq_true rfl) ⟨Nat.le_of_ble_eq_true rfl, Nat.le_of_ble_eq_true rfl⟩ dL_act_203 (fun v u h => ?_)
    obtain ⟨z, rfl⟩ := aPR_int h
    refine g_iret (pc := 206) C (Nat.le_of_ble_eq_true rfl) (Nat.le_of_ble_eq_true rfl) dL_act_206 ?_
    rw [he]
    exact h
  · have hyj : lo x 16 = 3 := hy3
    rw [hyj]
    refine g_tabI (pc := 82) (tgt := 156) (off := 74) C (by decide) (by decide) (by decide) (by decide) dL_act_82 ?_
    have he : actC x T = cCv T (aSp x) (aSz x) (aOw x) (aWy x) := by rw [actC, if_pos (by omega)]
    have eow : aOw x = (lo (shr x 14) 10 - 1) := if_pos ho
    have ewy : aWy x = (lo (shr x 17) 4) := if_pos ho
    rw [esp, esz, eow, ewy] at he
    refine g_aload_0 (pc := 156) C dL_act_156 ?_
    refine g_iload_3 (pc := 157) C dL_act_157 ?_
    refine g_iload_4 (pc := 158) C dL_act_158 ?_
    refine g_iload_2 (pc := 160) C dL_act_160 ?_
    refine g_if_eq (pc := 161) (tgt := 178) C dL_act_161 (by decide) (by omega) (fun h161 => absurd h161 (by omega)) (fun _ => ?_)
    refine g_iload_1 (pc := 164) C dL_act_164 ?_
    refine g_bipush (pc := 165) C dL_act_165 (by decide) ?_
    refine g_ishr (pc := 167) C dL_act_167 ?_
    refine g_bipush (pc := 168) C dL_act_168 (by decide) ?_
    refine g_cT2Pv (pc := 170) C cs_L_47 (k_L_low (shr x 14) 10 (by decide)) ⟨Nat.le_of_ble_eq_true rfl, Nat.le_of_ble_eq_true rfl⟩ (Nat.le_of_ble_eq_true rfl) ⟨Nat.le_of_ble_eq_true rfl, Nat.le_of_ble_eq_true rfl⟩ dL_act_170 ?_
    refine g_iconst (pc := 173) C dL_act_173 ?_
    refine g_isub (pc := 174) C dL_act_174 ?_
    refine g_goto (pc := 175) (tgt := 187) C dL_act_175 (by decide) ?_
    refine g_iload_1 (pc := 187) C dL_act_187 ?_
    refine g_bipush (pc := 188) C dL_act_188 (by decide) ?_
    refine g_ishr (pc := 190) C dL_act_190 ?_
    refine g_iload_2 (pc := 191) C dL_act_191 ?_
    refine g_if_eq (pc := 192) (tgt := 199) C dL_act_192 (by decide) (by omega) (fun h192 => absurd h192 (by omega)) (fun _ => ?_)
    refine g_iconst (pc := 195) C dL_act_195 ?_
    refine g_goto (pc := 196) (tgt := 200) C dL_act_196 (by decide) ?_
    refine g_cT2Pv (pc := 200) C cs_L_47 (k_L_low (shr x 17) 4 (by decide)) ⟨Nat.le_of_ble_eq_true rfl, Nat.le_of_ble_eq_true rfl⟩ (Nat.le_of_ble_eq_true rfl) ⟨Nat.le_of_ble_eq_true rfl, Nat.le_of_ble_eq_true rfl⟩ dL_act_200 ?_
    refine g_cX (pc := 203) C cx_L_52 (As := [.ref (ad 0), .int (zI (lo (shr x 4) 63 - 1)), .int (zI (lo (shr x 10) 4200)), .int (zI (lo (shr x 14) 10 - 1)), .int (zI (lo (shr x 17) 4))]) (rest := []) (a_carve hI (lo (shr x 4) 63 - 1) (lo (shr x 10) 4200) (lo (shr x 14) 10 - 1) (lo (shr x 17) 4) (by omega) (by omega) (by omega) (by omega)) ⟨Nat.le_of_ble_eq_true rfl, Nat.le_of_ble_eq_true rfl⟩ (Nat.le_of_ble_eq_true rfl) ⟨Nat.le_of_ble_eq_true rfl, Nat.le_of_ble_eq_true rfl⟩ dL_act_203 (fun v u h => ?_)
    obtain ⟨z, rfl⟩ := aPR_int h
    refine g_iret (pc := 206) C (Nat.le_of_ble_eq_true rfl) (Nat.le_of_ble_eq_true rfl) dL_act_206 ?_
    rw [he]
    exact h
  · have hyj : lo x 16 = 4 := hy4
    rw [hyj]
    refine g_tabI (pc := 82) (tgt := 156) (off := 74) C (by decide) (by decide) (by decide) (by decide) dL_act_82 ?_
    have he : actC x T = cCv T (aSp x) (aSz x) (aOw x) (aWy x) := by rw [actC, if_pos (by omega)]
    have eow : aOw x = (lo (shr x 14) 10 - 1) := if_pos ho
    have ewy : aWy x = (lo (shr x 17) 4) := if_pos ho
    rw [esp, esz, eow, ewy] at he
    refine g_aload_0 (pc := 156) C dL_act_156 ?_
    refine g_iload_3 (pc := 157) C dL_act_157 ?_
    refine g_iload_4 (pc := 158) C dL_act_158 ?_
    refine g_iload_2 (pc := 160) C dL_act_160 ?_
    refine g_if_eq (pc := 161) (tgt := 178) C dL_act_161 (by decide) (by omega) (fun h161 => absurd h161 (by omega)) (fun _ => ?_)
    refine g_iload_1 (pc := 164) C dL_act_164 ?_
    refine g_bipush (pc := 165) C dL_act_165 (by decide) ?_
    refine g_ishr (pc := 167) C dL_act_167 ?_
    refine g_bipush (pc := 168) C dL_act_168 (by decide) ?_
    refine g_cT2Pv (pc := 170) C cs_L_47 (k_L_low (shr x 14) 10 (by decide)) ⟨Nat.le_of_ble_eq_true rfl, Nat.le_of_ble_eq_true rfl⟩ (Nat.le_of_ble_eq_true rfl) ⟨Nat.le_of_ble_eq_true rfl, Nat.le_of_ble_eq_true rfl⟩ dL_act_170 ?_
    refine g_iconst (pc := 173) C dL_act_173 ?_
    refine g_isub (pc := 174) C dL_act_174 ?_
    refine g_goto (pc := 175) (tgt := 187) C dL_act_175 (by decide) ?_
    refine g_iload_1 (pc := 187) C dL_act_187 ?_
    refine g_bipush (pc := 188) C dL_act_188 (by decide) ?_
    refine g_ishr (pc := 190) C dL_act_190 ?_
    refine g_iload_2 (pc := 191) C dL_act_191 ?_
    refine g_if_eq (pc := 192) (tgt := 199) C dL_act_192 (by decide) (by omega) (fun h192 => absurd h192 (by omega)) (fun _ => ?_)
    refine g_iconst (pc := 195) C dL_act_195 ?_
    refine g_goto (pc := 196) (tgt := 200) C dL_act_196 (by decide) ?_
    refine g_cT2Pv (pc := 200) C cs_L_47 (k_L_low (shr x 17) 4 (by decide)) ⟨Nat.le_of_ble_eq_true rfl, Nat.le_of_ble_eq_true rfl⟩ (Nat.le_of_ble_eq_true rfl) ⟨Nat.le_of_ble_eq_true rfl, Nat.le_of_ble_eq_true rfl⟩ dL_act_200 ?_
    refine g_cX (pc := 203) C cx_L_52 (As := [.ref (ad 0), .int (zI (lo (shr x 4) 63 - 1)), .int (zI (lo (shr x 10) 4200)), .int (zI (lo (shr x 14) 10 - 1)), .int (zI (lo (shr x 17) 4))]) (rest := []) (a_carve hI (lo (shr x 4) 63 - 1) (lo (shr x 10) 4200) (lo (shr x 14) 10 - 1) (lo (shr x 17) 4) (by omega) (by omega) (by omega) (by omega)) ⟨Nat.le_of_ble_eq_true rfl, Nat.le_of_ble_eq_true rfl⟩ (Nat.le_of_ble_eq_true rfl) ⟨Nat.le_of_ble_eq_true rfl, Nat.le_of_ble_eq_true rfl⟩ dL_act_203 (fun v u h => ?_)
    obtain ⟨z, rfl⟩ := aPR_int h
    refine g_iret (pc := 206) C (Nat.le_of_ble_eq_true rfl) (Nat.le_of_ble_eq_true rfl) dL_act_206 ?_
    rw [he]
    exact h
  · have hyj : lo x 16 = 5 := hy5
    rw [hyj]
    refine g_tabI (pc := 82) (tgt := 207) (off := 125) C (by decide) (by decide) (by decide) (by decide) dL_act_82 ?_
    have he : actC x T = cCa T (aSp x) (aBs x) (aSz x) (lo (shr x 4) 8) := by rw [actC, if_neg (by omega), if_pos (by omega)]
    have ebs : aBs x = (lo (shr x 14) 5000 - 50) := if_pos ho
    rw [esp, esz, ebs] at he
    refine g_aload_0 (pc := 207) C dL_act_207 ?_
    refine g_iload_3 (pc := 208) C dL_act_208 ?_
    refine g_iload_2 (pc := 209) C dL_act_209 ?_
    refine g_if_eq (pc := 210) (tgt := 229) C dL_act_210 (by decide) (by omega) (fun h210 => absurd h210 (by omega)) (fun _ => ?_)
    refine g_iload_1 (pc := 213) C dL_act_213 ?_
    refine g_bipush (pc := 214) C dL_act_214 (by decide) ?_
    refine g_ishr (pc := 216) C dL_act_216 ?_
    refine g_sipush (pc := 217) C dL_act_217 (by decide) ?_
    refine g_cT2Pv (pc := 220) C cs_L_47 (k_L_low (shr x 14) 5000 (by decide)) ⟨Nat.le_of_ble_eq_true rfl, Nat.le_of_ble_eq_true rfl⟩ (Nat.le_of_ble_eq_true rfl) ⟨Nat.le_of_ble_eq_true rfl, Nat.le_of_ble_eq_true rfl⟩ dL_act_220 ?_
    refine g_bipush (pc := 223) C dL_act_223 (by decide) ?_
    refine g_isub (pc := 225) C dL_act_225 ?_
    refine g_goto (pc := 226) (tgt := 245) C dL_act_226 (by decide) ?_
    refine g_iload_4 (pc := 245) C dL_act_245 ?_
    refine g_iload_1 (pc := 247) C dL_act_247 ?_
    refine g_iconst (pc := 248) C dL_act_248 ?_
    refine g_ishr (pc := 249) C dL_act_249 ?_
    refine g_bipush (pc := 250) C dL_act_250 (by decide) ?_
    refine g_cT2Pv (pc := 252) C cs_L_47 (k_L_low (shr x 4) 8 (by decide)) ⟨Nat.le_of_ble_eq_true rfl, Nat.le_of_ble_eq_true rfl⟩ (Nat.le_of_ble_eq_true rfl) ⟨Nat.le_of_ble_eq_true rfl, Nat.le_of_ble_eq_true rfl⟩ dL_act_252 ?_
    refine g_cX (pc := 255) C cx_L_55 (As := [.ref (ad 0), .int (zI (lo (shr x 4) 63 - 1)), .int (zI (lo (shr x 14) 5000 - 50)), .int (zI (lo (shr x 10) 4200)), .int (zI (lo (shr x 4) 8))]) (rest := []) (a_carveAt hI (lo (shr x 4) 63 - 1) (lo (shr x 14) 5000 - 50) (lo (shr x 10) 4200) (lo (shr x 4) 8) (by omega) (by omega) (by omega) (by omega)) ⟨Nat.le_of_ble_eq_true rfl, Nat.le_of_ble_eq_true rfl⟩ (Nat.le_of_ble_eq_true rfl) ⟨Nat.le_of_ble_eq_true rfl, Nat.le_of_ble_eq_true rfl⟩ dL_act_255 (fun v u h => ?_)
    obtain ⟨z, rfl⟩ := aPR_int h
    refine g_iret (pc := 258) C (Nat.le_of_ble_eq_true rfl) (Nat.le_of_ble_eq_true rfl) dL_act_258 ?_
    rw [he]
    exact h
  · have hyj : lo x 16 = 6 := hy6
    rw [hyj]
    refine g_tabI (pc := 82) (tgt := 259) (off := 177) C (by decide) (by decide) (by decide) (by decide) dL_act_82 ?_
    have he : actC x T = cRm T (aSp x) := by rw [actC, if_neg (by omega), if_neg (by omega), if_pos (by omega)]
    rw [esp] at he
    refine g_aload_0 (pc := 259) C dL_act_259 ?_
    refine g_iload_3 (pc := 260) C dL_act_260 ?_
    refine g_cX (pc := 261) C cx_L_57 (As := [.ref (ad 0), .int (zI (lo (shr x 4) 63 - 1))]) (rest := []) (a_remove hI (lo (shr x 4) 63 - 1) (by omega)) ⟨Nat.le_of_ble_eq_true rfl, Nat.le_of_ble_eq_true rfl⟩ (Nat.le_of_ble_eq_true rfl) ⟨Nat.le_of_ble_eq_true rfl, Nat.le_of_ble_eq_true rfl⟩ dL_act_261 (fun v u h => ?_)
    obtain ⟨z, rfl⟩ := aPR_int h
    refine g_iret (pc := 264) C (Nat.le_of_ble_eq_true rfl) (Nat.le_of_ble_eq_true rfl) dL_act_264 ?_
    rw [he]
    exact h
  · have hyj : lo x 16 = 7 := hy7
    rw [hyj]
    refine g_tabI (pc := 82) (tgt := 265) (off := 183) C (by decide) (by decide) (by decide) (by decide) dL_act_82 ?_
    have he : actC x T = cGr T (aSp x) := by rw [actC, if_neg (by omega), if_neg (by omega), if_neg (by omega), if_pos (by omega)]
    rw [esp] at he
    refine g_aload_0 (pc := 265) C dL_act_265 ?_
    refine g_iload_3 (pc := 266) C dL_act_266 ?_
    refine g_cX (pc := 267) C cx_L_60 (As := [.ref (ad 0), .int (zI (lo (shr x 4) 63 - 1))]) (rest := []) (a_grow hI (lo (shr x 4) 63 - 1) (by omega)) ⟨Nat.le_of_ble_eq_true rfl, Nat.le_of_ble_eq_true rfl⟩ (Nat.le_of_ble_eq_true rfl) ⟨Nat.le_of_ble_eq_true rfl, Nat.le_of_ble_eq_true rfl⟩ dL_act_267 (fun v u h => ?_)
    obtain ⟨z, rfl⟩ := aPR_int h
    refine g_iret (pc := 270) C (Nat.le_of_ble_eq_true rfl) (Nat.le_of_ble_eq_true rfl) dL_act_270 ?_
    rw [he]
    exact h
  · have hyj : lo x 16 = 8 := hy8
    rw [hyj]
    refine g_tabI (pc := 82) (tgt := 265) (off := 183) C (by decide) (by decide) (by decide) (by decide) dL_act_82 ?_
    have he : actC x T = cGr T (aSp x) := by rw [actC, if_neg (by omega), if_neg (by omega), if_neg (by omega), if_pos (by omega)]
    rw [esp] at he
    refine g_aload_0 (pc := 265) C dL_act_265 ?_
    refine g_iload_3 (pc := 266) C dL_act_266 ?_
    refine g_cX (pc := 267) C cx_L_60 (As := [.ref (ad 0), .int (zI (lo (shr x 4) 63 - 1))]) (rest := []) (a_grow hI (lo (shr x 4) 63 - 1) (by omega)) ⟨Nat.le_of_ble_eq_true rfl, Nat.le_of_ble_eq_true rfl⟩ (Nat.le_of_ble_eq_true rfl) ⟨Nat.le_of_ble_eq_true rfl, Nat.le_of_ble_eq_true rfl⟩ dL_act_267 (fun v u h => ?_)
    obtain ⟨z, rfl⟩ := aPR_int h
    refine g_iret (pc := 270) C (Nat.le_of_ble_eq_true rfl) (Nat.le_of_ble_eq_true rfl) dL_act_270 ?_
    rw [he]
    exact h
  · have hyj : lo x 16 = 9 := hy9
    rw [hyj]
    refine g_tabI (pc := 82) (tgt := 271) (off := 189) C (by decide) (by decide) (by decide) (by decide) dL_act_82 ?_
    have he : actC x T = cHv T (aSp x) := by rw [actC, if_neg (by omega), if_neg (by omega), if_neg (by omega), if_neg (by omega), if_pos (by omega)]
    rw [esp] at he
    refine g_aload_0 (pc := 271) C dL_act_271 ?_
    refine g_iload_3 (pc := 272) C dL_act_272 ?_
    refine g_cX (pc := 273) C cx_L_62 (As := [.ref (ad 0), .int (zI (lo (shr x 4) 63 - 1))]) (rest := []) (a_halve hI (lo (shr x 4) 63 - 1) (by omega)) ⟨Nat.le_of_ble_eq_true rfl, Nat.le_of_ble_eq_true rfl⟩ (Nat.le_of_ble_eq_true rfl) ⟨Nat.le_of_ble_eq_true rfl, Nat.le_of_ble_eq_true rfl⟩ dL_act_273 (fun v u h => ?_)
    obtain ⟨z, rfl⟩ := aPR_int h
    refine g_iret (pc := 276) C (Nat.le_of_ble_eq_true rfl) (Nat.le_of_ble_eq_true rfl) dL_act_276 ?_
    rw [he]
    exact h
  · have hyj : lo x 16 = 10 := hy10
    rw [hyj]
    refine g_tabI (pc := 82) (tgt := 277) (off := 195) C (by decide) (by decide) (by decide) (by decide) dL_act_82 ?_
    have he : actC x T = cSo T (aSp x) (aOw x) := by rw [actC, if_neg (by omega), if_neg (by omega), if_neg (by omega), if_neg (by omega), if_neg (by omega), if_pos (by omega)]
    have eow : aOw x = (lo (shr x 14) 10 - 1) := if_pos ho
    rw [esp, eow] at he
    refine g_aload_0 (pc := 277) C dL_act_277 ?_
    refine g_iload_3 (pc := 278) C dL_act_278 ?_
    refine g_iload_2 (pc := 279) C dL_act_279 ?_
    refine g_if_eq (pc := 280) (tgt := 297) C dL_act_280 (by decide) (by omega) (fun h280 => absurd h280 (by omega)) (fun _ => ?_)
    refine g_iload_1 (pc := 283) C dL_act_283 ?_
    refine g_bipush (pc := 284) C dL_act_284 (by decide) ?_
    refine g_ishr (pc := 286) C dL_act_286 ?_
    refine g_bipush (pc := 287) C dL_act_287 (by decide) ?_
    refine g_cT2Pv (pc := 289) C cs_L_47 (k_L_low (shr x 14) 10 (by decide)) ⟨Nat.le_of_ble_eq_true rfl, Nat.le_of_ble_eq_true rfl⟩ (Nat.le_of_ble_eq_true rfl) ⟨Nat.le_of_ble_eq_true rfl, Nat.le_of_ble_eq_true rfl⟩ dL_act_289 ?_
    refine g_iconst (pc := 292) C dL_act_292 ?_
    refine g_isub (pc := 293) C dL_act_293 ?_
    refine g_goto (pc := 294) (tgt := 306) C dL_act_294 (by decide) ?_
    refine g_cX (pc := 306) C cx_L_64 (As := [.ref (ad 0), .int (zI (lo (shr x 4) 63 - 1)), .int (zI (lo (shr x 14) 10 - 1))]) (rest := []) (a_setOwner hI (lo (shr x 4) 63 - 1) (lo (shr x 14) 10 - 1) (by omega) (by omega)) ⟨Nat.le_of_ble_eq_true rfl, Nat.le_of_ble_eq_true rfl⟩ (Nat.le_of_ble_eq_true rfl) ⟨Nat.le_of_ble_eq_true rfl, Nat.le_of_ble_eq_true rfl⟩ dL_act_306 (fun v u h => ?_)
    obtain ⟨z, rfl⟩ := aPR_int h
    refine g_iret (pc := 309) C (Nat.le_of_ble_eq_true rfl) (Nat.le_of_ble_eq_true rfl) dL_act_309 ?_
    rw [he]
    exact h
  · have hyj : lo x 16 = 11 := hy11
    rw [hyj]
    refine g_tabI (pc := 82) (tgt := 310) (off := 228) C (by decide) (by decide) (by decide) (by decide) dL_act_82 ?_
    have he : actC x T = cLe T (aSp x) (aDy x) := by rw [actC, if_neg (by omega), if_neg (by omega), if_neg (by omega), if_neg (by omega), if_neg (by omega), if_neg (by omega), if_pos (by omega)]
    have edy : aDy x = (lo (shr x 14) 105 - 2) := if_pos ho
    rw [esp, edy] at he
    refine g_aload_0 (pc := 310) C dL_act_310 ?_
    refine g_iload_3 (pc := 311) C dL_act_311 ?_
    refine g_iload_2 (pc := 312) C dL_act_312 ?_
    refine g_if_eq (pc := 313) (tgt := 330) C dL_act_313 (by decide) (by omega) (fun h313 => absurd h313 (by omega)) (fun _ => ?_)
    refine g_iload_1 (pc := 316) C dL_act_316 ?_
    refine g_bipush (pc := 317) C dL_act_317 (by decide) ?_
    refine g_ishr (pc := 319) C dL_act_319 ?_
    refine g_bipush (pc := 320) C dL_act_320 (by decide) ?_
    refine g_cT2Pv (pc := 322) C cs_L_47 (k_L_low (shr x 14) 105 (by decide)) ⟨Nat.le_of_ble_eq_true rfl, Nat.le_of_ble_eq_true rfl⟩ (Nat.le_of_ble_eq_true rfl) ⟨Nat.le_of_ble_eq_true rfl, Nat.le_of_ble_eq_true rfl⟩ dL_act_322 ?_
    refine g_iconst (pc := 325) C dL_act_325 ?_
    refine g_isub (pc := 326) C dL_act_326 ?_
    refine g_goto (pc := 327) (tgt := 339) C dL_act_327 (by decide) ?_
    refine g_cX (pc := 339) C cx_L_67 (As := [.ref (ad 0), .int (zI (lo (shr x 4) 63 - 1)), .int (zI (lo (shr x 14) 105 - 2))]) (rest := []) (a_lend hI (lo (shr x 4) 63 - 1) (lo (shr x 14) 105 - 2) (by omega) (by omega)) ⟨Nat.le_of_ble_eq_true rfl, Nat.le_of_ble_eq_true rfl⟩ (Nat.le_of_ble_eq_true rfl) ⟨Nat.le_of_ble_eq_true rfl, Nat.le_of_ble_eq_true rfl⟩ dL_act_339 (fun v u h => ?_)
    obtain ⟨z, rfl⟩ := aPR_int h
    refine g_iret (pc := 342) C (Nat.le_of_ble_eq_true rfl) (Nat.le_of_ble_eq_true rfl) dL_act_342 ?_
    rw [he]
    exact h
  · have hyj : lo x 16 = 12 := hy12
    rw [hyj]
    refine g_tabI (pc := 82) (tgt := 310) (off := 228) C (by decide) (by decide) (by decide) (by decide) dL_act_82 ?_
    have he : actC x T = cLe T (aSp x) (aDy x) := by rw [actC, if_neg (by omega), if_neg (by omega), if_neg (by omega), if_neg (by omega), if_neg (by omega), if_neg (by omega), if_pos (by omega)]
    have edy : aDy x = (lo (shr x 14) 105 - 2) := if_pos ho
    rw [esp, edy] at he
    refine g_aload_0 (pc := 310) C dL_act_310 ?_
    refine g_iload_3 (pc := 311) C dL_act_311 ?_
    refine g_iload_2 (pc := 312) C dL_act_312 ?_
    refine g_if_eq (pc := 313) (tgt := 330) C dL_act_313 (by decide) (by omega) (fun h313 => absurd h313 (by omega)) (fun _ => ?_)
    refine g_iload_1 (pc := 316) C dL_act_316 ?_
    refine g_bipush (pc := 317) C dL_act_317 (by decide) ?_
    refine g_ishr (pc := 319) C dL_act_319 ?_
    refine g_bipush (pc := 320) C dL_act_320 (by decide) ?_
    refine g_cT2Pv (pc := 322) C cs_L_47 (k_L_low (shr x 14) 105 (by decide)) ⟨Nat.le_of_ble_eq_true rfl, Nat.le_of_ble_eq_true rfl⟩ (Nat.le_of_ble_eq_true rfl) ⟨Nat.le_of_ble_eq_true rfl, Nat.le_of_ble_eq_true rfl⟩ dL_act_322 ?_
    refine g_iconst (pc := 325) C dL_act_325 ?_
    refine g_isub (pc := 326) C dL_act_326 ?_
    refine g_goto (pc := 327) (tgt := 339) C dL_act_327 (by decide) ?_
    refine g_cX (pc := 339) C cx_L_67 (As := [.ref (ad 0), .int (zI (lo (shr x 4) 63 - 1)), .int (zI (lo (shr x 14) 105 - 2))]) (rest := []) (a_lend hI (lo (shr x 4) 63 - 1) (lo (shr x 14) 105 - 2) (by omega) (by omega)) ⟨Nat.le_of_ble_eq_true rfl, Nat.le_of_ble_eq_true rfl⟩ (Nat.le_of_ble_eq_true rfl) ⟨Nat.le_of_ble_eq_true rfl, Nat.le_of_ble_eq_true rfl⟩ dL_act_339 (fun v u h => ?_)
    obtain ⟨z, rfl⟩ := aPR_int h
    refine g_iret (pc := 342) C (Nat.le_of_ble_eq_true rfl) (Nat.le_of_ble_eq_true rfl) dL_act_342 ?_
    rw [he]
    exact h
  · have hyj : lo x 16 = 13 := hy13
    rw [hyj]
    refine g_tabI (pc := 82) (tgt := 310) (off := 228) C (by decide) (by decide) (by decide) (by decide) dL_act_82 ?_
    have he : actC x T = cLe T (aSp x) (aDy x) := by rw [actC, if_neg (by omega), if_neg (by omega), if_neg (by omega), if_neg (by omega), if_neg (by omega), if_neg (by omega), if_pos (by omega)]
    have edy : aDy x = (lo (shr x 14) 105 - 2) := if_pos ho
    rw [esp, edy] at he
    refine g_aload_0 (pc := 310) C dL_act_310 ?_
    refine g_iload_3 (pc := 311) C dL_act_311 ?_
    refine g_iload_2 (pc := 312) C dL_act_312 ?_
    refine g_if_eq (pc := 313) (tgt := 330) C dL_act_313 (by decide) (by omega) (fun h313 => absurd h313 (by omega)) (fun _ => ?_)
    refine g_iload_1 (pc := 316) C dL_act_316 ?_
    refine g_bipush (pc := 317) C dL_act_317 (by decide) ?_
    refine g_ishr (pc := 319) C dL_act_319 ?_
    refine g_bipush (pc := 320) C dL_act_320 (by decide) ?_
    refine g_cT2Pv (pc := 322) C cs_L_47 (k_L_low (shr x 14) 105 (by decide)) ⟨Nat.le_of_ble_eq_true rfl, Nat.le_of_ble_eq_true rfl⟩ (Nat.le_of_ble_eq_true rfl) ⟨Nat.le_of_ble_eq_true rfl, Nat.le_of_ble_eq_true rfl⟩ dL_act_322 ?_
    refine g_iconst (pc := 325) C dL_act_325 ?_
    refine g_isub (pc := 326) C dL_act_326 ?_
    refine g_goto (pc := 327) (tgt := 339) C dL_act_327 (by decide) ?_
    refine g_cX (pc := 339) C cx_L_67 (As := [.ref (ad 0), .int (zI (lo (shr x 4) 63 - 1)), .int (zI (lo (shr x 14) 105 - 2))]) (rest := []) (a_lend hI (lo (shr x 4) 63 - 1) (lo (shr x 14) 105 - 2) (by omega) (by omega)) ⟨Nat.le_of_ble_eq_true rfl, Nat.le_of_ble_eq_true rfl⟩ (Nat.le_of_ble_eq_true rfl) ⟨Nat.le_of_ble_eq_true rfl, Nat.le_of_ble_eq_true rfl⟩ dL_act_339 (fun v u h => ?_)
    obtain ⟨z, rfl⟩ := aPR_int h
    refine g_iret (pc := 342) C (Nat.le_of_ble_eq_true rfl) (Nat.le_of_ble_eq_true rfl) dL_act_342 ?_
    rw [he]
    exact h
  · have hyj : lo x 16 = 14 := hy14
    rw [hyj]
    refine g_tabI (pc := 82) (tgt := 343) (off := 261) C (by decide) (by decide) (by decide) (by decide) dL_act_82 ?_
    have he : actC x T = cTk T (aAd x) := by rw [actC, if_neg (by omega), if_neg (by omega), if_neg (by omega), if_neg (by omega), if_neg (by omega), if_neg (by omega), if_neg (by omega), if_pos (by omega)]
    have ead : aAd x = (lo (shr x 10) 4100 - 2) := if_pos ho
    rw [ead] at he
    refine g_aload_0 (pc := 343) C dL_act_343 ?_
    refine g_iload_2 (pc := 344) C dL_act_344 ?_
    refine g_if_eq (pc := 345) (tgt := 363) C dL_act_345 (by decide) (by omega) (fun h345 => absurd h345 (by omega)) (fun _ => ?_)
    refine g_iload_1 (pc := 348) C dL_act_348 ?_
    refine g_bipush (pc := 349) C dL_act_349 (by decide) ?_
    refine g_ishr (pc := 351) C dL_act_351 ?_
    refine g_sipush (pc := 352) C dL_act_352 (by decide) ?_
    refine g_cT2Pv (pc := 355) C cs_L_47 (k_L_low (shr x 10) 4100 (by decide)) ⟨Nat.le_of_ble_eq_true rfl, Nat.le_of_ble_eq_true rfl⟩ (Nat.le_of_ble_eq_true rfl) ⟨Nat.le_of_ble_eq_true rfl, Nat.le_of_ble_eq_true rfl⟩ dL_act_355 ?_
    refine g_iconst (pc := 358) C dL_act_358 ?_
    refine g_isub (pc := 359) C dL_act_359 ?_
    refine g_goto (pc := 360) (tgt := 375) C dL_act_360 (by decide) ?_
    refine g_cX (pc := 375) C cx_L_69 (As := [.ref (ad 0), .int (zI (lo (shr x 10) 4100 - 2))]) (rest := []) (a_takeBack hI (lo (shr x 10) 4100 - 2) (by omega)) ⟨Nat.le_of_ble_eq_true rfl, Nat.le_of_ble_eq_true rfl⟩ (Nat.le_of_ble_eq_true rfl) ⟨Nat.le_of_ble_eq_true rfl, Nat.le_of_ble_eq_true rfl⟩ dL_act_375 (fun v u h => ?_)
    obtain ⟨z, rfl⟩ := aPR_int h
    refine g_iret (pc := 378) C (Nat.le_of_ble_eq_true rfl) (Nat.le_of_ble_eq_true rfl) dL_act_378 ?_
    rw [he]
    exact h
  · have hyj : lo x 16 = 15 := hy15
    rw [hyj]
    refine g_tabO (pc := 82) (tgt := 379) C (by decide) (by decide) (by decide) dL_act_82 ?_
    have he : actC x T = cPs T (aPs x) := by rw [actC, if_neg (by omega), if_neg (by omega), if_neg (by omega), if_neg (by omega), if_neg (by omega), if_neg (by omega), if_neg (by omega), if_neg (by omega)]
    have eps : aPs x = (lo (shr x 10) 1005) := if_pos ho
    rw [eps] at he
    refine g_aload_0 (pc := 379) C dL_act_379 ?_
    refine g_iload_2 (pc := 380) C dL_act_380 ?_
    refine g_if_eq (pc := 381) (tgt := 397) C dL_act_381 (by decide) (by omega) (fun h381 => absurd h381 (by omega)) (fun _ => ?_)
    refine g_iload_1 (pc := 384) C dL_act_384 ?_
    refine g_bipush (pc := 385) C dL_act_385 (by decide) ?_
    refine g_ishr (pc := 387) C dL_act_387 ?_
    refine g_sipush (pc := 388) C dL_act_388 (by decide) ?_
    refine g_cT2Pv (pc := 391) C cs_L_47 (k_L_low (shr x 10) 1005 (by decide)) ⟨Nat.le_of_ble_eq_true rfl, Nat.le_of_ble_eq_true rfl⟩ (Nat.le_of_ble_eq_true rfl) ⟨Nat.le_of_ble_eq_true rfl, Nat.le_of_ble_eq_true rfl⟩ dL_act_391 ?_
    refine g_goto (pc := 394) (tgt := 407) C dL_act_394 (by decide) ?_
    refine g_cX (pc := 407) C cx_L_71 (As := [.ref (ad 0), .int (zI (lo (shr x 10) 1005))]) (rest := []) (a_pass hI (lo (shr x 10) 1005) (by omega)) ⟨Nat.le_of_ble_eq_true rfl, Nat.le_of_ble_eq_true rfl⟩ (Nat.le_of_ble_eq_true rfl) ⟨Nat.le_of_ble_eq_true rfl, Nat.le_of_ble_eq_true rfl⟩ dL_act_407 (fun v u h => ?_)
    obtain ⟨z, rfl⟩ := aPR_int h
    refine g_iret (pc := 410) C (Nat.le_of_ble_eq_true rfl) (Nat.le_of_ble_eq_true rfl) dL_act_410 ?_
    rw [he]
    exact h
theorem act_s0 {l : Launch} {cs : CSt} {np : Nat} {ad : Nat → Nat} {T : MT} (hI : Inv np T) (x : Int32) (ho : lo (shr x 24) 9 ≠ 0) {p : Program} {e : Env} {s : State} {m : MethodId} {args : Array Value} {below : List Frame} {meth : Method} {c : Code} {A : Nat → Prop} (C : gC p l s m args meth c cs A 5 cL_act RL (some .int)) : GG p l e (rmL 9 8 48) s m args below meth c (kQ cs A (aPR (actC x T) np ad T) (fun _ _ => False) below args s 8 48) cs A 5 0 0 np ad T 82 [some (.ref (ad 0)), some (.int x), some (.int (zI 0)), some (.int (zI (lo (shr x 4) 14 - 0))), some (.int (zI (2 ^ (lo (shr x 10) 12).toNat)))] [.int (zI (lo x 16))] := by
  have h13 := hI.n13
  have hy := lo_bd x (n := 16) (by decide)
  have hsp := lo_bd (shr x 4) (n := 14) (by decide)
  have hsz := (sz12z (shr x 10)).2
  have how := lo_bd (shr x 14) (n := 8) (by decide)
  have hwy := lo_bd (shr x 17) (n := 3) (by decide)
  have hbs := lo_bd (shr x 14) (n := 4096 / 2 ^ (lo (shr x 10) 12).toNat) (by omega)
  have ho2 := lo_bd (shr x 4) (n := 8) (by decide)
  have hdy := lo_bd (shr x 14) (n := 6) (by decide)
  have had := lo_bd (shr x 10) (n := 64) (by decide)
  have hps := lo_bd (shr x 10) (n := 3) (by decide)
  have esp : aSp x = (lo (shr x 4) 14 - 0) := if_neg ho
  have esz : aSz x = (2 ^ (lo (shr x 10) 12).toNat) := if_neg ho
  have hbm : 0 ≤ 2 ^ (lo (shr x 10) 12).toNat * lo (shr x 14) (4096 / 2 ^ (lo (shr x 10) 12).toNat) ∧ 2 ^ (lo (shr x 10) 12).toNat * lo (shr x 14) (4096 / 2 ^ (lo (shr x 10) 12).toNat) ≤ 8388608 := by
    refine ⟨Int.mul_nonneg (by omega) hbs.1, ?_⟩
    have h1 : 2 ^ (lo (shr x 10) 12).toNat * lo (shr x 14) (4096 / 2 ^ (lo (shr x 10) 12).toNat) ≤ 2048 * 4096 := Int.mul_le_mul (by omega) (by omega) hbs.1 (by decide)
    omega
  have hy2 : lo x 16 = 0 ∨ lo x 16 = 1 ∨ lo x 16 = 2 ∨ lo x 16 = 3 ∨ lo x 16 = 4 ∨ lo x 16 = 5 ∨ lo x 16 = 6 ∨ lo x 16 = 7 ∨ lo x 16 = 8 ∨ lo x 16 = 9 ∨ lo x 16 = 10 ∨ lo x 16 = 11 ∨ lo x 16 = 12 ∨ lo x 16 = 13 ∨ lo x 16 = 14 ∨ lo x 16 = 15 := by omega
  rcases hy2 with hy0 | hy1 | hy2 | hy3 | hy4 | hy5 | hy6 | hy7 | hy8 | hy9 | hy10 | hy11 | hy12 | hy13 | hy14 | hy15
  · have hyj : lo x 16 = 0 := hy0
    rw [hyj]
    refine g_tabI (pc := 82) (tgt := 156) (off := 74) C (by decide) (by decide) (by decide) (by decide) dL_act_82 ?_
    have he : actC x T = cCv T (aSp x) (aSz x) (aOw x) (aWy x) := by rw [actC, if_pos (by omega)]
    have eow : aOw x = (lo (shr x 14) 8) := if_neg ho
    have ewy : aWy x = (lo (shr x 17) 3) := if_neg ho
    rw [esp, esz, eow, ewy] at he
    refine g_aload_0 (pc := 156) C dL_act_156 ?_
    refine g_iload_3 (pc := 157) C dL_act_157 ?_
    refine g_iload_4 (pc := 158) C dL_act_158 ?_
    refine g_iload_2 (pc := 160) C dL_act_160 ?_
    refine g_if_eq (pc := 161) (tgt := 178) C dL_act_161 (by decide) (by omega) (fun _ => ?_) (fun h161 => absurd h161 (by omega))
    refine g_iload_1 (pc := 178) C dL_act_178 ?_
    refine g_bipush (pc := 179) C dL_act_179 (by decide) ?_
    refine g_ishr (pc := 181) C dL_act_181 ?_
    refine g_bipush (pc := 182) C dL_act_182 (by decide) ?_
    refine g_cT2Pv (pc := 184) C cs_L_47 (k_L_low (shr x 14) 8 (by decide)) ⟨Nat.le_of_ble_eq_true rfl, Nat.le_of_ble_eq_true rfl⟩ (Nat.le_of_ble_eq_true rfl) ⟨Nat.le_of_ble_eq_true rfl, Nat.le_of_ble_eq_true rfl⟩ dL_act_184 ?_
    refine g_iload_1 (pc := 187) C dL_act_187 ?_
    refine g_bipush (pc := 188) C dL_act_188 (by decide) ?_
    refine g_ishr (pc := 190) C dL_act_190 ?_
    refine g_iload_2 (pc := 191) C dL_act_191 ?_
    refine g_if_eq (pc := 192) (tgt := 199) C dL_act_192 (by decide) (by omega) (fun _ => ?_) (fun h192 => absurd h192 (by omega))
    refine g_iconst (pc := 199) C dL_act_199 ?_
    refine g_cT2Pv (pc := 200) C cs_L_47 (k_L_low (shr x 17) 3 (by decide)) ⟨Nat.le_of_ble_eq_true rfl, Nat.le_of_ble_eq_true rfl⟩ (Nat.le_of_ble_eq_true rfl) ⟨Nat.le_of_ble_eq_true rfl, Nat.le_of_ble_eq_true rfl⟩ dL_act_200 ?_
    refine g_cX (pc := 203) C cx_L_52 (As := [.ref (ad 0), .int (zI (lo (shr x 4) 14 - 0)), .int (zI (2 ^ (lo (shr x 10) 12).toNat)), .int (zI (lo (shr x 14) 8)), .int (zI (lo (shr x 17) 3))]) (rest := []) (a_carve hI (lo (shr x 4) 14 - 0) (2 ^ (lo (shr x 10) 12).toNat) (lo (shr x 14) 8) (lo (shr x 17) 3) (by omega) (by omega) (by omega) (by omega)) ⟨Nat.le_of_ble_eq_true rfl, Nat.le_of_ble_eq_true rfl⟩ (Nat.le_of_ble_eq_true rfl) ⟨Nat.le_of_ble_eq_true rfl, Nat.le_of_ble_eq_true rfl⟩ dL_act_203 (fun v u h => ?_)
    obtain ⟨z, rfl⟩ := aPR_int h
    refine g_iret (pc := 206) C (Nat.le_of_ble_eq_true rfl) (Nat.le_of_ble_eq_true rfl) dL_act_206 ?_
    rw [he]
    exact h
  · have hyj : lo x 16 = 1 := hy1
    rw [hyj]
    refine g_tabI (pc := 82) (tgt := 156) (off := 74) C (by decide) (by decide) (by decide) (by decide) dL_act_82 ?_
    have he : actC x T = cCv T (aSp x) (aSz x) (aOw x) (aWy x) := by rw [actC, if_pos (by omega)]
    have eow : aOw x = (lo (shr x 14) 8) := if_neg ho
    have ewy : aWy x = (lo (shr x 17) 3) := if_neg ho
    rw [esp, esz, eow, ewy] at he
    refine g_aload_0 (pc := 156) C dL_act_156 ?_
    refine g_iload_3 (pc := 157) C dL_act_157 ?_
    refine g_iload_4 (pc := 158) C dL_act_158 ?_
    refine g_iload_2 (pc := 160) C dL_act_160 ?_
    refine g_if_eq (pc := 161) (tgt := 178) C dL_act_161 (by decide) (by omega) (fun _ => ?_) (fun h161 => absurd h161 (by omega))
    refine g_iload_1 (pc := 178) C dL_act_178 ?_
    refine g_bipush (pc := 179) C dL_act_179 (by decide) ?_
    refine g_ishr (pc := 181) C dL_act_181 ?_
    refine g_bipush (pc := 182) C dL_act_182 (by decide) ?_
    refine g_cT2Pv (pc := 184) C cs_L_47 (k_L_low (shr x 14) 8 (by decide)) ⟨Nat.le_of_ble_eq_true rfl, Nat.le_of_ble_eq_true rfl⟩ (Nat.le_of_ble_eq_true rfl) ⟨Nat.le_of_ble_eq_true rfl, Nat.le_of_ble_eq_true rfl⟩ dL_act_184 ?_
    refine g_iload_1 (pc := 187) C dL_act_187 ?_
    refine g_bipush (pc := 188) C dL_act_188 (by decide) ?_
    refine g_ishr (pc := 190) C dL_act_190 ?_
    refine g_iload_2 (pc := 191) C dL_act_191 ?_
    refine g_if_eq (pc := 192) (tgt := 199) C dL_act_192 (by decide) (by omega) (fun _ => ?_) (fun h192 => absurd h192 (by omega))
    refine g_iconst (pc := 199) C dL_act_199 ?_
    refine g_cT2Pv (pc := 200) C cs_L_47 (k_L_low (shr x 17) 3 (by decide)) ⟨Nat.le_of_ble_eq_true rfl, Nat.le_of_ble_eq_true rfl⟩ (Nat.le_of_ble_eq_true rfl) ⟨Nat.le_of_ble_eq_true rfl, Nat.le_of_ble_eq_true rfl⟩ dL_act_200 ?_
    refine g_cX (pc := 203) C cx_L_52 (As := [.ref (ad 0), .int (zI (lo (shr x 4) 14 - 0)), .int (zI (2 ^ (lo (shr x 10) 12).toNat)), .int (zI (lo (shr x 14) 8)), .int (zI (lo (shr x 17) 3))]) (rest := []) (a_carve hI (lo (shr x 4) 14 - 0) (2 ^ (lo (shr x 10) 12).toNat) (lo (shr x 14) 8) (lo (shr x 17) 3) (by omega) (by omega) (by omega) (by omega)) ⟨Nat.le_of_ble_eq_true rfl, Nat.le_of_ble_eq_true rfl⟩ (Nat.le_of_ble_eq_true rfl) ⟨Nat.le_of_ble_eq_true rfl, Nat.le_of_ble_eq_true rfl⟩ dL_act_203 (fun v u h => ?_)
    obtain ⟨z, rfl⟩ := aPR_int h
    refine g_iret (pc := 206) C (Nat.le_of_ble_eq_true rfl) (Nat.le_of_ble_eq_true rfl) dL_act_206 ?_
    rw [he]
    exact h
  · have hyj : lo x 16 = 2 := hy2
    rw [hyj]
    refine g_tabI (pc := 82) (tgt := 156) (off := 74) C (by decide) (by decide) (by decide) (by decide) dL_act_82 ?_
    have he : actC x T = cCv T (aSp x) (aSz x) (aOw x) (aWy x) := by rw [actC, if_pos (by omega)]
    have eow : aOw x = (lo (shr x 14) 8) := if_neg ho
    have ewy : aWy x = (lo (shr x 17) 3) := if_neg ho
    rw [esp, esz, eow, ewy] at he
    refine g_aload_0 (pc := 156) C dL_act_156 ?_
    refine g_iload_3 (pc := 157) C dL_act_157 ?_
    refine g_iload_4 (pc := 158) C dL_act_158 ?_
    refine g_iload_2 (pc := 160) C dL_act_160 ?_
    refine g_if_eq (pc := 161) (tgt := 178) C dL_act_161 (by decide) (by omega) (fun _ => ?_) (fun h161 => absurd h161 (by omega))
    refine g_iload_1 (pc := 178) C dL_act_178 ?_
    refine g_bipush (pc := 179) C dL_act_179 (by decide) ?_
    refine g_ishr (pc := 181) C dL_act_181 ?_
    refine g_bipush (pc := 182) C dL_act_182 (by decide) ?_
    refine g_cT2Pv (pc := 184) C cs_L_47 (k_L_low (shr x 14) 8 (by decide)) ⟨Nat.le_of_ble_eq_true rfl, Nat.le_of_ble_eq_true rfl⟩ (Nat.le_of_ble_eq_true rfl) ⟨Nat.le_of_ble_eq_true rfl, Nat.le_of_ble_eq_true rfl⟩ dL_act_184 ?_
    refine g_iload_1 (pc := 187) C dL_act_187 ?_
    refine g_bipush (pc := 188) C dL_act_188 (by decide) ?_
    refine g_ishr (pc := 190) C dL_act_190 ?_
    refine g_iload_2 (pc := 191) C dL_act_191 ?_
    refine g_if_eq (pc := 192) (tgt := 199) C dL_act_192 (by decide) (by omega) (fun _ => ?_) (fun h192 => absurd h192 (by omega))
    refine g_iconst (pc := 199) C dL_act_199 ?_
    refine g_cT2Pv (pc := 200) C cs_L_47 (k_L_low (shr x 17) 3 (by decide)) ⟨Nat.le_of_ble_eq_true rfl, Nat.le_of_ble_eq_true rfl⟩ (Nat.le_of_ble_eq_true rfl) ⟨Nat.le_of_ble_eq_true rfl, Nat.le_of_ble_eq_true rfl⟩ dL_act_200 ?_
    refine g_cX (pc := 203) C cx_L_52 (As := [.ref (ad 0), .int (zI (lo (shr x 4) 14 - 0)), .int (zI (2 ^ (lo (shr x 10) 12).toNat)), .int (zI (lo (shr x 14) 8)), .int (zI (lo (shr x 17) 3))]) (rest := []) (a_carve hI (lo (shr x 4) 14 - 0) (2 ^ (lo (shr x 10) 12).toNat) (lo (shr x 14) 8) (lo (shr x 17) 3) (by omega) (by omega) (by omega) (by omega)) ⟨Nat.le_of_ble_eq_true rfl, Nat.le_of_ble_eq_true rfl⟩ (Nat.le_of_ble_eq_true rfl) ⟨Nat.le_of_ble_eq_true rfl, Nat.le_of_ble_eq_true rfl⟩ dL_act_203 (fun v u h => ?_)
    obtain ⟨z, rfl⟩ := aPR_int h
    refine g_iret (pc := 206) C (Nat.le_of_ble_eq_true rfl) (Nat.le_of_ble_eq_true rfl) dL_act_206 ?_
    rw [he]
    exact h
  · have hyj : lo x 16 = 3 := hy3
    rw [hyj]
    refine g_tabI (pc := 82) (tgt := 156) (off := 74) C (by decide) (by decide) (by decide) (by decide) dL_act_82 ?_
    have he : actC x T = cCv T (aSp x) (aSz x) (aOw x) (aWy x) := by rw [actC, if_pos (by omega)]
    have eow : aOw x = (lo (shr x 14) 8) := if_neg ho
    have ewy : aWy x = (lo (shr x 17) 3) := if_neg ho
    rw [esp, esz, eow, ewy] at he
    refine g_aload_0 (pc := 156) C dL_act_156 ?_
    refine g_iload_3 (pc := 157) C dL_act_157 ?_
    refine g_iload_4 (pc := 158) C dL_act_158 ?_
    refine g_iload_2 (pc := 160) C dL_act_160 ?_
    refine g_if_eq (pc := 161) (tgt := 178) C dL_act_161 (by decide) (by omega) (fun _ => ?_) (fun h161 => absurd h161 (by omega))
    refine g_iload_1 (pc := 178) C dL_act_178 ?_
    refine g_bipush (pc := 179) C dL_act_179 (by decide) ?_
    refine g_ishr (pc := 181) C dL_act_181 ?_
    refine g_bipush (pc := 182) C dL_act_182 (by decide) ?_
    refine g_cT2Pv (pc := 184) C cs_L_47 (k_L_low (shr x 14) 8 (by decide)) ⟨Nat.le_of_ble_eq_true rfl, Nat.le_of_ble_eq_true rfl⟩ (Nat.le_of_ble_eq_true rfl) ⟨Nat.le_of_ble_eq_true rfl, Nat.le_of_ble_eq_true rfl⟩ dL_act_184 ?_
    refine g_iload_1 (pc := 187) C dL_act_187 ?_
    refine g_bipush (pc := 188) C dL_act_188 (by decide) ?_
    refine g_ishr (pc := 190) C dL_act_190 ?_
    refine g_iload_2 (pc := 191) C dL_act_191 ?_
    refine g_if_eq (pc := 192) (tgt := 199) C dL_act_192 (by decide) (by omega) (fun _ => ?_) (fun h192 => absurd h192 (by omega))
    refine g_iconst (pc := 199) C dL_act_199 ?_
    refine g_cT2Pv (pc := 200) C cs_L_47 (k_L_low (shr x 17) 3 (by decide)) ⟨Nat.le_of_ble_eq_true rfl, Nat.le_of_ble_eq_true rfl⟩ (Nat.le_of_ble_eq_true rfl) ⟨Nat.le_of_ble_eq_true rfl, Nat.le_of_ble_eq_true rfl⟩ dL_act_200 ?_
    refine g_cX (pc := 203) C cx_L_52 (As := [.ref (ad 0), .int (zI (lo (shr x 4) 14 - 0)), .int (zI (2 ^ (lo (shr x 10) 12).toNat)), .int (zI (lo (shr x 14) 8)), .int (zI (lo (shr x 17) 3))]) (rest := []) (a_carve hI (lo (shr x 4) 14 - 0) (2 ^ (lo (shr x 10) 12).toNat) (lo (shr x 14) 8) (lo (shr x 17) 3) (by omega) (by omega) (by omega) (by omega)) ⟨Nat.le_of_ble_eq_true rfl, Nat.le_of_ble_eq_true rfl⟩ (Nat.le_of_ble_eq_true rfl) ⟨Nat.le_of_ble_eq_true rfl, Nat.le_of_ble_eq_true rfl⟩ dL_act_203 (fun v u h => ?_)
    obtain ⟨z, rfl⟩ := aPR_int h
    refine g_iret (pc := 206) C (Nat.le_of_ble_eq_true rfl) (Nat.le_of_ble_eq_true rfl) dL_act_206 ?_
    rw [he]
    exact h
  · have hyj : lo x 16 = 4 := hy4
    rw [hyj]
    refine g_tabI (pc := 82) (tgt := 156) (off := 74) C (by decide) (by decide) (by decide) (by decide) dL_act_82 ?_
    have he : actC x T = cCv T (aSp x) (aSz x) (aOw x) (aWy x) := by rw [actC, if_pos (by omega)]
    have eow : aOw x = (lo (shr x 14) 8) := if_neg ho
    have ewy : aWy x = (lo (shr x 17) 3) := if_neg ho
    rw [esp, esz, eow, ewy] at he
    refine g_aload_0 (pc := 156) C dL_act_156 ?_
    refine g_iload_3 (pc := 157) C dL_act_157 ?_
    refine g_iload_4 (pc := 158) C dL_act_158 ?_
    refine g_iload_2 (pc := 160) C dL_act_160 ?_
    refine g_if_eq (pc := 161) (tgt := 178) C dL_act_161 (by decide) (by omega) (fun _ => ?_) (fun h161 => absurd h161 (by omega))
    refine g_iload_1 (pc := 178) C dL_act_178 ?_
    refine g_bipush (pc := 179) C dL_act_179 (by decide) ?_
    refine g_ishr (pc := 181) C dL_act_181 ?_
    refine g_bipush (pc := 182) C dL_act_182 (by decide) ?_
    refine g_cT2Pv (pc := 184) C cs_L_47 (k_L_low (shr x 14) 8 (by decide)) ⟨Nat.le_of_ble_eq_true rfl, Nat.le_of_ble_eq_true rfl⟩ (Nat.le_of_ble_eq_true rfl) ⟨Nat.le_of_ble_eq_true rfl, Nat.le_of_ble_eq_true rfl⟩ dL_act_184 ?_
    refine g_iload_1 (pc := 187) C dL_act_187 ?_
    refine g_bipush (pc := 188) C dL_act_188 (by decide) ?_
    refine g_ishr (pc := 190) C dL_act_190 ?_
    refine g_iload_2 (pc := 191) C dL_act_191 ?_
    refine g_if_eq (pc := 192) (tgt := 199) C dL_act_192 (by decide) (by omega) (fun _ => ?_) (fun h192 => absurd h192 (by omega))
    refine g_iconst (pc := 199) C dL_act_199 ?_
    refine g_cT2Pv (pc := 200) C cs_L_47 (k_L_low (shr x 17) 3 (by decide)) ⟨Nat.le_of_ble_eq_true rfl, Nat.le_of_ble_eq_true rfl⟩ (Nat.le_of_ble_eq_true rfl) ⟨Nat.le_of_ble_eq_true rfl, Nat.le_of_ble_eq_true rfl⟩ dL_act_200 ?_
    refine g_cX (pc := 203) C cx_L_52 (As := [.ref (ad 0), .int (zI (lo (shr x 4) 14 - 0)), .int (zI (2 ^ (lo (shr x 10) 12).toNat)), .int (zI (lo (shr x 14) 8)), .int (zI (lo (shr x 17) 3))]) (rest := []) (a_carve hI (lo (shr x 4) 14 - 0) (2 ^ (lo (shr x 10) 12).toNat) (lo (shr x 14) 8) (lo (shr x 17) 3) (by omega) (by omega) (by omega) (by omega)) ⟨Nat.le_of_ble_eq_true rfl, Nat.le_of_ble_eq_true rfl⟩ (Nat.le_of_ble_eq_true rfl) ⟨Nat.le_of_ble_eq_true rfl, Nat.le_of_ble_eq_true rfl⟩ dL_act_203 (fun v u h => ?_)
    obtain ⟨z, rfl⟩ := aPR_int h
    refine g_iret (pc := 206) C (Nat.le_of_ble_eq_true rfl) (Nat.le_of_ble_eq_true rfl) dL_act_206 ?_
    rw [he]
    exact h
  · have hyj : lo x 16 = 5 := hy5
    rw [hyj]
    refine g_tabI (pc := 82) (tgt := 207) (off := 125) C (by decide) (by decide) (by decide) (by decide) dL_act_82 ?_
    have he : actC x T = cCa T (aSp x) (aBs x) (aSz x) (lo (shr x 4) 8) := by rw [actC, if_neg (by omega), if_pos (by omega)]
    have ebs : aBs x = (2 ^ (lo (shr x 10) 12).toNat * lo (shr x 14) (4096 / 2 ^ (lo (shr x 10) 12).toNat)) := if_neg ho
    rw [esp, esz, ebs] at he
    refine g_aload_0 (pc := 207) C dL_act_207 ?_
    refine g_iload_3 (pc := 208) C dL_act_208 ?_
    refine g_iload_2 (pc := 209) C dL_act_209 ?_
    refine g_if_eq (pc := 210) (tgt := 229) C dL_act_210 (by decide) (by omega) (fun _ => ?_) (fun h210 => absurd h210 (by omega))
    refine g_iload_4 (pc := 229) C dL_act_229 ?_
    refine g_iload_1 (pc := 231) C dL_act_231 ?_
    refine g_bipush (pc := 232) C dL_act_232 (by decide) ?_
    refine g_ishr (pc := 234) C dL_act_234 ?_
    refine g_sipush (pc := 235) C dL_act_235 (by decide) ?_
    refine g_iload_4 (pc := 238) C dL_act_238 ?_
    refine g_idiv (pc := 240) C dL_act_240 (by decide) (by omega) ?_
    refine g_cT2Pv (pc := 241) C cs_L_47 (k_L_low (shr x 14) (4096 / 2 ^ (lo (shr x 10) 12).toNat) (by omega)) ⟨Nat.le_of_ble_eq_true rfl, Nat.le_of_ble_eq_true rfl⟩ (Nat.le_of_ble_eq_true rfl) ⟨Nat.le_of_ble_eq_true rfl, Nat.le_of_ble_eq_true rfl⟩ dL_act_241 ?_
    refine g_imul (pc := 244) C dL_act_244 ?_
    refine g_iload_4 (pc := 245) C dL_act_245 ?_
    refine g_iload_1 (pc := 247) C dL_act_247 ?_
    refine g_iconst (pc := 248) C dL_act_248 ?_
    refine g_ishr (pc := 249) C dL_act_249 ?_
    refine g_bipush (pc := 250) C dL_act_250 (by decide) ?_
    refine g_cT2Pv (pc := 252) C cs_L_47 (k_L_low (shr x 4) 8 (by decide)) ⟨Nat.le_of_ble_eq_true rfl, Nat.le_of_ble_eq_true rfl⟩ (Nat.le_of_ble_eq_true rfl) ⟨Nat.le_of_ble_eq_true rfl, Nat.le_of_ble_eq_true rfl⟩ dL_act_252 ?_
    refine g_cX (pc := 255) C cx_L_55 (As := [.ref (ad 0), .int (zI (lo (shr x 4) 14 - 0)), .int (zI (2 ^ (lo (shr x 10) 12).toNat * lo (shr x 14) (4096 / 2 ^ (lo (shr x 10) 12).toNat))), .int (zI (2 ^ (lo (shr x 10) 12).toNat)), .int (zI (lo (shr x 4) 8))]) (rest := []) (a_carveAt hI (lo (shr x 4) 14 - 0) (2 ^ (lo (shr x 10) 12).toNat * lo (shr x 14) (4096 / 2 ^ (lo (shr x 10) 12).toNat)) (2 ^ (lo (shr x 10) 12).toNat) (lo (shr x 4) 8) (by omega) (by omega) (by omega) (by omega)) ⟨Nat.le_of_ble_eq_true rfl, Nat.le_of_ble_eq_true rfl⟩ (Nat.le_of_ble_eq_true rfl) ⟨Nat.le_of_ble_eq_true rfl, Nat.le_of_ble_eq_true rfl⟩ dL_act_255 (fun v u h => ?_)
    obtain ⟨z, rfl⟩ := aPR_int h
    refine g_iret (pc := 258) C (Nat.le_of_ble_eq_true rfl) (Nat.le_of_ble_eq_true rfl) dL_act_258 ?_
    rw [he]
    exact h
  · have hyj : lo x 16 = 6 := hy6
    rw [hyj]
    refine g_tabI (pc := 82) (tgt := 259) (off := 177) C (by decide) (by decide) (by decide) (by decide) dL_act_82 ?_
    have he : actC x T = cRm T (aSp x) := by rw [actC, if_neg (by omega), if_neg (by omega), if_pos (by omega)]
    rw [esp] at he
    refine g_aload_0 (pc := 259) C dL_act_259 ?_
    refine g_iload_3 (pc := 260) C dL_act_260 ?_
    refine g_cX (pc := 261) C cx_L_57 (As := [.ref (ad 0), .int (zI (lo (shr x 4) 14 - 0))]) (rest := []) (a_remove hI (lo (shr x 4) 14 - 0) (by omega)) ⟨Nat.le_of_ble_eq_true rfl, Nat.le_of_ble_eq_true rfl⟩ (Nat.le_of_ble_eq_true rfl) ⟨Nat.le_of_ble_eq_true rfl, Nat.le_of_ble_eq_true rfl⟩ dL_act_261 (fun v u h => ?_)
    obtain ⟨z, rfl⟩ := aPR_int h
    refine g_iret (pc := 264) C (Nat.le_of_ble_eq_true rfl) (Nat.le_of_ble_eq_true rfl) dL_act_264 ?_
    rw [he]
    exact h
  · have hyj : lo x 16 = 7 := hy7
    rw [hyj]
    refine g_tabI (pc := 82) (tgt := 265) (off := 183) C (by decide) (by decide) (by decide) (by decide) dL_act_82 ?_
    have he : actC x T = cGr T (aSp x) := by rw [actC, if_neg (by omega), if_neg (by omega), if_neg (by omega), if_pos (by omega)]
    rw [esp] at he
    refine g_aload_0 (pc := 265) C dL_act_265 ?_
    refine g_iload_3 (pc := 266) C dL_act_266 ?_
    refine g_cX (pc := 267) C cx_L_60 (As := [.ref (ad 0), .int (zI (lo (shr x 4) 14 - 0))]) (rest := []) (a_grow hI (lo (shr x 4) 14 - 0) (by omega)) ⟨Nat.le_of_ble_eq_true rfl, Nat.le_of_ble_eq_true rfl⟩ (Nat.le_of_ble_eq_true rfl) ⟨Nat.le_of_ble_eq_true rfl, Nat.le_of_ble_eq_true rfl⟩ dL_act_267 (fun v u h => ?_)
    obtain ⟨z, rfl⟩ := aPR_int h
    refine g_iret (pc := 270) C (Nat.le_of_ble_eq_true rfl) (Nat.le_of_ble_eq_true rfl) dL_act_270 ?_
    rw [he]
    exact h
  · have hyj : lo x 16 = 8 := hy8
    rw [hyj]
    refine g_tabI (pc := 82) (tgt := 265) (off := 183) C (by decide) (by decide) (by decide) (by decide) dL_act_82 ?_
    have he : actC x T = cGr T (aSp x) := by rw [actC, if_neg (by omega), if_neg (by omega), if_neg (by omega), if_pos (by omega)]
    rw [esp] at he
    refine g_aload_0 (pc := 265) C dL_act_265 ?_
    refine g_iload_3 (pc := 266) C dL_act_266 ?_
    refine g_cX (pc := 267) C cx_L_60 (As := [.ref (ad 0), .int (zI (lo (shr x 4) 14 - 0))]) (rest := []) (a_grow hI (lo (shr x 4) 14 - 0) (by omega)) ⟨Nat.le_of_ble_eq_true rfl, Nat.le_of_ble_eq_true rfl⟩ (Nat.le_of_ble_eq_true rfl) ⟨Nat.le_of_ble_eq_true rfl, Nat.le_of_ble_eq_true rfl⟩ dL_act_267 (fun v u h => ?_)
    obtain ⟨z, rfl⟩ := aPR_int h
    refine g_iret (pc := 270) C (Nat.le_of_ble_eq_true rfl) (Nat.le_of_ble_eq_true rfl) dL_act_270 ?_
    rw [he]
    exact h
  · have hyj : lo x 16 = 9 := hy9
    rw [hyj]
    refine g_tabI (pc := 82) (tgt := 271) (off := 189) C (by decide) (by decide) (by decide) (by decide) dL_act_82 ?_
    have he : actC x T = cHv T (aSp x) := by rw [actC, if_neg (by omega), if_neg (by omega), if_neg (by omega), if_neg (by omega), if_pos (by omega)]
    rw [esp] at he
    refine g_aload_0 (pc := 271) C dL_act_271 ?_
    refine g_iload_3 (pc := 272) C dL_act_272 ?_
    refine g_cX (pc := 273) C cx_L_62 (As := [.ref (ad 0), .int (zI (lo (shr x 4) 14 - 0))]) (rest := []) (a_halve hI (lo (shr x 4) 14 - 0) (by omega)) ⟨Nat.le_of_ble_eq_true rfl, Nat.le_of_ble_eq_true rfl⟩ (Nat.le_of_ble_eq_true rfl) ⟨Nat.le_of_ble_eq_true rfl, Nat.le_of_ble_eq_true rfl⟩ dL_act_273 (fun v u h => ?_)
    obtain ⟨z, rfl⟩ := aPR_int h
    refine g_iret (pc := 276) C (Nat.le_of_ble_eq_true rfl) (Nat.le_of_ble_eq_true rfl) dL_act_276 ?_
    rw [he]
    exact h
  · have hyj : lo x 16 = 10 := hy10
    rw [hyj]
    refine g_tabI (pc := 82) (tgt := 277) (off := 195) C (by decide) (by decide) (by decide) (by decide) dL_act_82 ?_
    have he : actC x T = cSo T (aSp x) (aOw x) := by rw [actC, if_neg (by omega), if_neg (by omega), if_neg (by omega), if_neg (by omega), if_neg (by omega), if_pos (by omega)]
    have eow : aOw x = (lo (shr x 14) 8) := if_neg ho
    rw [esp, eow] at he
    refine g_aload_0 (pc := 277) C dL_act_277 ?_
    refine g_iload_3 (pc := 278) C dL_act_278 ?_
    refine g_iload_2 (pc := 279) C dL_act_279 ?_
    refine g_if_eq (pc := 280) (tgt := 297) C dL_act_280 (by decide) (by omega) (fun _ => ?_) (fun h280 => absurd h280 (by omega))
    refine g_iload_1 (pc := 297) C dL_act_297 ?_
    refine g_bipush (pc := 298) C dL_act_298 (by decide) ?_
    refine g_ishr (pc := 300) C dL_act_300 ?_
    refine g_bipush (pc := 301) C dL_act_301 (by decide) ?_
    refine g_cT2Pv (pc := 303) C cs_L_47 (k_L_low (shr x 14) 8 (by decide)) ⟨Nat.le_of_ble_eq_true rfl, Nat.le_of_ble_eq_true rfl⟩ (Nat.le_of_ble_eq_true rfl) ⟨Nat.le_of_ble_eq_true rfl, Nat.le_of_ble_eq_true rfl⟩ dL_act_303 ?_
    refine g_cX (pc := 306) C cx_L_64 (As := [.ref (ad 0), .int (zI (lo (shr x 4) 14 - 0)), .int (zI (lo (shr x 14) 8))]) (rest := []) (a_setOwner hI (lo (shr x 4) 14 - 0) (lo (shr x 14) 8) (by omega) (by omega)) ⟨Nat.le_of_ble_eq_true rfl, Nat.le_of_ble_eq_true rfl⟩ (Nat.le_of_ble_eq_true rfl) ⟨Nat.le_of_ble_eq_true rfl, Nat.le_of_ble_eq_true rfl⟩ dL_act_306 (fun v u h => ?_)
    obtain ⟨z, rfl⟩ := aPR_int h
    refine g_iret (pc := 309) C (Nat.le_of_ble_eq_true rfl) (Nat.le_of_ble_eq_true rfl) dL_act_309 ?_
    rw [he]
    exact h
  · have hyj : lo x 16 = 11 := hy11
    rw [hyj]
    refine g_tabI (pc := 82) (tgt := 310) (off := 228) C (by decide) (by decide) (by decide) (by decide) dL_act_82 ?_
    have he : actC x T = cLe T (aSp x) (aDy x) := by rw [actC, if_neg (by omega), if_neg (by omega), if_neg (by omega), if_neg (by omega), if_neg (by omega), if_neg (by omega), if_pos (by omega)]
    have edy : aDy x = (lo (shr x 14) 6) := if_neg ho
    rw [esp, edy] at he
    refine g_aload_0 (pc := 310) C dL_act_310 ?_
    refine g_iload_3 (pc := 311) C dL_act_311 ?_
    refine g_iload_2 (pc := 312) C dL_act_312 ?_
    refine g_if_eq (pc := 313) (tgt := 330) C dL_act_313 (by decide) (by omega) (fun _ => ?_) (fun h313 => absurd h313 (by omega))
    refine g_iload_1 (pc := 330) C dL_act_330 ?_
    refine g_bipush (pc := 331) C dL_act_331 (by decide) ?_
    refine g_ishr (pc := 333) C dL_act_333 ?_
    refine g_bipush (pc := 334) C dL_act_334 (by decide) ?_
    refine g_cT2Pv (pc := 336) C cs_L_47 (k_L_low (shr x 14) 6 (by decide)) ⟨Nat.le_of_ble_eq_true rfl, Nat.le_of_ble_eq_true rfl⟩ (Nat.le_of_ble_eq_true rfl) ⟨Nat.le_of_ble_eq_true rfl, Nat.le_of_ble_eq_true rfl⟩ dL_act_336 ?_
    refine g_cX (pc := 339) C cx_L_67 (As := [.ref (ad 0), .int (zI (lo (shr x 4) 14 - 0)), .int (zI (lo (shr x 14) 6))]) (rest := []) (a_lend hI (lo (shr x 4) 14 - 0) (lo (shr x 14) 6) (by omega) (by omega)) ⟨Nat.le_of_ble_eq_true rfl, Nat.le_of_ble_eq_true rfl⟩ (Nat.le_of_ble_eq_true rfl) ⟨Nat.le_of_ble_eq_true rfl, Nat.le_of_ble_eq_true rfl⟩ dL_act_339 (fun v u h => ?_)
    obtain ⟨z, rfl⟩ := aPR_int h
    refine g_iret (pc := 342) C (Nat.le_of_ble_eq_true rfl) (Nat.le_of_ble_eq_true rfl) dL_act_342 ?_
    rw [he]
    exact h
  · have hyj : lo x 16 = 12 := hy12
    rw [hyj]
    refine g_tabI (pc := 82) (tgt := 310) (off := 228) C (by decide) (by decide) (by decide) (by decide) dL_act_82 ?_
    have he : actC x T = cLe T (aSp x) (aDy x) := by rw [actC, if_neg (by omega), if_neg (by omega), if_neg (by omega), if_neg (by omega), if_neg (by omega), if_neg (by omega), if_pos (by omega)]
    have edy : aDy x = (lo (shr x 14) 6) := if_neg ho
    rw [esp, edy] at he
    refine g_aload_0 (pc := 310) C dL_act_310 ?_
    refine g_iload_3 (pc := 311) C dL_act_311 ?_
    refine g_iload_2 (pc := 312) C dL_act_312 ?_
    refine g_if_eq (pc := 313) (tgt := 330) C dL_act_313 (by decide) (by omega) (fun _ => ?_) (fun h313 => absurd h313 (by omega))
    refine g_iload_1 (pc := 330) C dL_act_330 ?_
    refine g_bipush (pc := 331) C dL_act_331 (by decide) ?_
    refine g_ishr (pc := 333) C dL_act_333 ?_
    refine g_bipush (pc := 334) C dL_act_334 (by decide) ?_
    refine g_cT2Pv (pc := 336) C cs_L_47 (k_L_low (shr x 14) 6 (by decide)) ⟨Nat.le_of_ble_eq_true rfl, Nat.le_of_ble_eq_true rfl⟩ (Nat.le_of_ble_eq_true rfl) ⟨Nat.le_of_ble_eq_true rfl, Nat.le_of_ble_eq_true rfl⟩ dL_act_336 ?_
    refine g_cX (pc := 339) C cx_L_67 (As := [.ref (ad 0), .int (zI (lo (shr x 4) 14 - 0)), .int (zI (lo (shr x 14) 6))]) (rest := []) (a_lend hI (lo (shr x 4) 14 - 0) (lo (shr x 14) 6) (by omega) (by omega)) ⟨Nat.le_of_ble_eq_true rfl, Nat.le_of_ble_eq_true rfl⟩ (Nat.le_of_ble_eq_true rfl) ⟨Nat.le_of_ble_eq_true rfl, Nat.le_of_ble_eq_true rfl⟩ dL_act_339 (fun v u h => ?_)
    obtain ⟨z, rfl⟩ := aPR_int h
    refine g_iret (pc := 342) C (Nat.le_of_ble_eq_true rfl) (Nat.le_of_ble_eq_true rfl) dL_act_342 ?_
    rw [he]
    exact h
  · have hyj : lo x 16 = 13 := hy13
    rw [hyj]
    refine g_tabI (pc := 82) (tgt := 310) (off := 228) C (by decide) (by decide) (by decide) (by decide) dL_act_82 ?_
    have he : actC x T = cLe T (aSp x) (aDy x) := by rw [actC, if_neg (by omega), if_neg (by omega), if_neg (by omega), if_neg (by omega), if_neg (by omega), if_neg (by omega), if_pos (by omega)]
    have edy : aDy x = (lo (shr x 14) 6) := if_neg ho
    rw [esp, edy] at he
    refine g_aload_0 (pc := 310) C dL_act_310 ?_
    refine g_iload_3 (pc := 311) C dL_act_311 ?_
    refine g_iload_2 (pc := 312) C dL_act_312 ?_
    refine g_if_eq (pc := 313) (tgt := 330) C dL_act_313 (by decide) (by omega) (fun _ => ?_) (fun h313 => absurd h313 (by omega))
    refine g_iload_1 (pc := 330) C dL_act_330 ?_
    refine g_bipush (pc := 331) C dL_act_331 (by decide) ?_
    refine g_ishr (pc := 333) C dL_act_333 ?_
    refine g_bipush (pc := 334) C dL_act_334 (by decide) ?_
    refine g_cT2Pv (pc := 336) C cs_L_47 (k_L_low (shr x 14) 6 (by decide)) ⟨Nat.le_of_ble_eq_true rfl, Nat.le_of_ble_eq_true rfl⟩ (Nat.le_of_ble_eq_true rfl) ⟨Nat.le_of_ble_eq_true rfl, Nat.le_of_ble_eq_true rfl⟩ dL_act_336 ?_
    refine g_cX (pc := 339) C cx_L_67 (As := [.ref (ad 0), .int (zI (lo (shr x 4) 14 - 0)), .int (zI (lo (shr x 14) 6))]) (rest := []) (a_lend hI (lo (shr x 4) 14 - 0) (lo (shr x 14) 6) (by omega) (by omega)) ⟨Nat.le_of_ble_eq_true rfl, Nat.le_of_ble_eq_true rfl⟩ (Nat.le_of_ble_eq_true rfl) ⟨Nat.le_of_ble_eq_true rfl, Nat.le_of_ble_eq_true rfl⟩ dL_act_339 (fun v u h => ?_)
    obtain ⟨z, rfl⟩ := aPR_int h
    refine g_iret (pc := 342) C (Nat.le_of_ble_eq_true rfl) (Nat.le_of_ble_eq_true rfl) dL_act_342 ?_
    rw [he]
    exact h
  · have hyj : lo x 16 = 14 := hy14
    rw [hyj]
    refine g_tabI (pc := 82) (tgt := 343) (off := 261) C (by decide) (by decide) (by decide) (by decide) dL_act_82 ?_
    have he : actC x T = cTk T (aAd x) := by rw [actC, if_neg (by omega), if_neg (by omega), if_neg (by omega), if_neg (by omega), if_neg (by omega), if_neg (by omega), if_neg (by omega), if_pos (by omega)]
    have ead : aAd x = (lo (shr x 10) 64 * 64) := if_neg ho
    rw [ead] at he
    refine g_aload_0 (pc := 343) C dL_act_343 ?_
    refine g_iload_2 (pc := 344) C dL_act_344 ?_
    refine g_if_eq (pc := 345) (tgt := 363) C dL_act_345 (by decide) (by omega) (fun _ => ?_) (fun h345 => absurd h345 (by omega))
    refine g_iload_1 (pc := 363) C dL_act_363 ?_
    refine g_bipush (pc := 364) C dL_act_364 (by decide) ?_
    refine g_ishr (pc := 366) C dL_act_366 ?_
    refine g_bipush (pc := 367) C dL_act_367 (by decide) ?_
    refine g_cT2Pv (pc := 369) C cs_L_47 (k_L_low (shr x 10) 64 (by decide)) ⟨Nat.le_of_ble_eq_true rfl, Nat.le_of_ble_eq_true rfl⟩ (Nat.le_of_ble_eq_true rfl) ⟨Nat.le_of_ble_eq_true rfl, Nat.le_of_ble_eq_true rfl⟩ dL_act_369 ?_
    refine g_bipush (pc := 372) C dL_act_372 (by decide) ?_
    refine g_imul (pc := 374) C dL_act_374 ?_
    refine g_cX (pc := 375) C cx_L_69 (As := [.ref (ad 0), .int (zI (lo (shr x 10) 64 * 64))]) (rest := []) (a_takeBack hI (lo (shr x 10) 64 * 64) (by omega)) ⟨Nat.le_of_ble_eq_true rfl, Nat.le_of_ble_eq_true rfl⟩ (Nat.le_of_ble_eq_true rfl) ⟨Nat.le_of_ble_eq_true rfl, Nat.le_of_ble_eq_true rfl⟩ dL_act_375 (fun v u h => ?_)
    obtain ⟨z, rfl⟩ := aPR_int h
    refine g_iret (pc := 378) C (Nat.le_of_ble_eq_true rfl) (Nat.le_of_ble_eq_true rfl) dL_act_378 ?_
    rw [he]
    exact h
  · have hyj : lo x 16 = 15 := hy15
    rw [hyj]
    refine g_tabO (pc := 82) (tgt := 379) C (by decide) (by decide) (by decide) dL_act_82 ?_
    have he : actC x T = cPs T (aPs x) := by rw [actC, if_neg (by omega), if_neg (by omega), if_neg (by omega), if_neg (by omega), if_neg (by omega), if_neg (by omega), if_neg (by omega), if_neg (by omega)]
    have eps : aPs x = (1 + lo (shr x 10) 3) := if_neg ho
    rw [eps] at he
    refine g_aload_0 (pc := 379) C dL_act_379 ?_
    refine g_iload_2 (pc := 380) C dL_act_380 ?_
    refine g_if_eq (pc := 381) (tgt := 397) C dL_act_381 (by decide) (by omega) (fun _ => ?_) (fun h381 => absurd h381 (by omega))
    refine g_iconst (pc := 397) C dL_act_397 ?_
    refine g_iload_1 (pc := 398) C dL_act_398 ?_
    refine g_bipush (pc := 399) C dL_act_399 (by decide) ?_
    refine g_ishr (pc := 401) C dL_act_401 ?_
    refine g_iconst (pc := 402) C dL_act_402 ?_
    refine g_cT2Pv (pc := 403) C cs_L_47 (k_L_low (shr x 10) 3 (by decide)) ⟨Nat.le_of_ble_eq_true rfl, Nat.le_of_ble_eq_true rfl⟩ (Nat.le_of_ble_eq_true rfl) ⟨Nat.le_of_ble_eq_true rfl, Nat.le_of_ble_eq_true rfl⟩ dL_act_403 ?_
    refine g_iadd (pc := 406) C dL_act_406 ?_
    refine g_cX (pc := 407) C cx_L_71 (As := [.ref (ad 0), .int (zI (1 + lo (shr x 10) 3))]) (rest := []) (a_pass hI (1 + lo (shr x 10) 3) (by omega)) ⟨Nat.le_of_ble_eq_true rfl, Nat.le_of_ble_eq_true rfl⟩ (Nat.le_of_ble_eq_true rfl) ⟨Nat.le_of_ble_eq_true rfl, Nat.le_of_ble_eq_true rfl⟩ dL_act_407 (fun v u h => ?_)
    obtain ⟨z, rfl⟩ := aPR_int h
    refine g_iret (pc := 410) C (Nat.le_of_ble_eq_true rfl) (Nat.le_of_ble_eq_true rfl) dL_act_410 ?_
    rw [he]
    exact h
theorem k_L_act {l : Launch} {cs : CSt} {np : Nat} {ad : Nat → Nat} {T : MT} (hI : Inv np T) (x : Int32) : KC l cs yL_act (Cond.code yL_act cL_act 5 (some .int) :: GW) 9 8 48 [.ref (ad 0), .int x] np ad T (aPR (actC x T) np ad T) (fun _ _ => False) := by
  have h13 := hI.n13
  have h24 := lo_bd (shr x 24) (n := 9) (by decide)
  have h63 := lo_bd (shr x 4) (n := 63) (by decide)
  have h14 := lo_bd (shr x 4) (n := 14) (by decide)
  refine KC_of (cc := cL_act) (nL := 5) (rt := (some .int)) (by decide) (by simp [grf_cat, cat_int, cat_ref]) (by simp) ?_
  intro p e s m args below meth c A C hE hin
  refine g_eq (lv2 := [some (.ref (ad 0)), some (.int x), none, none, none]) rfl rfl rfl ?_
  refine g_iload_1 (pc := 0) C dL_act_0 ?_
  refine g_bipush (pc := 1) C dL_act_1 (by decide) ?_
  refine g_ishr (pc := 3) C dL_act_3 ?_
  refine g_bipush (pc := 4) C dL_act_4 (by decide) ?_
  refine g_cT2Pv (pc := 6) C cs_L_47 (k_L_low (shr x 24) 9 (by decide)) ⟨Nat.le_of_ble_eq_true rfl, Nat.le_of_ble_eq_true rfl⟩ (Nat.le_of_ble_eq_true rfl) ⟨Nat.le_of_ble_eq_true rfl, Nat.le_of_ble_eq_true rfl⟩ dL_act_6 ?_
  refine g_if_ne (pc := 9) (tgt := 16) C dL_act_9 (by decide) (by omega) (fun h9 => ?_) (fun h9 => ?_)
  · refine g_iconst (pc := 16) C dL_act_16 ?_
    refine g_istore_2 (pc := 17) C dL_act_17 ?_
    refine g_iload_1 (pc := 18) C dL_act_18 ?_
    refine g_iconst (pc := 19) C dL_act_19 ?_
    refine g_ishr (pc := 20) C dL_act_20 ?_
    refine g_iload_2 (pc := 21) C dL_act_21 ?_
    refine g_if_eq (pc := 22) (tgt := 30) C dL_act_22 (by decide) (by omega) (fun _ => ?_) (fun h22 => absurd h22 (by omega))
    refine g_bipush (pc := 30) C dL_act_30 (by decide) ?_
    refine g_cT2Pv (pc := 32) C cs_L_47 (k_L_low (shr x 4) 14 (by decide)) ⟨Nat.le_of_ble_eq_true rfl, Nat.le_of_ble_eq_true rfl⟩ (Nat.le_of_ble_eq_true rfl) ⟨Nat.le_of_ble_eq_true rfl, Nat.le_of_ble_eq_true rfl⟩ dL_act_32 ?_
    refine g_iload_2 (pc := 35) C dL_act_35 ?_
    refine g_if_eq (pc := 36) (tgt := 43) C dL_act_36 (by decide) (by omega) (fun _ => ?_) (fun h36 => absurd h36 (by omega))
    refine g_iconst (pc := 43) C dL_act_43 ?_
    refine g_isub (pc := 44) C dL_act_44 ?_
    refine g_istore_3 (pc := 45) C dL_act_45 ?_
    refine g_iload_2 (pc := 46) C dL_act_46 ?_
    refine g_if_eq (pc := 47) (tgt := 63) C dL_act_47 (by decide) (by omega) (fun _ => ?_) (fun h47 => absurd h47 (by omega))
    refine g_iconst (pc := 63) C dL_act_63 ?_
    refine g_iload_1 (pc := 64) C dL_act_64 ?_
    refine g_bipush (pc := 65) C dL_act_65 (by decide) ?_
    refine g_ishr (pc := 67) C dL_act_67 ?_
    refine g_bipush (pc := 68) C dL_act_68 (by decide) ?_
    refine g_cT2Pv (pc := 70) C cs_L_47 (k_L_low (shr x 10) 12 (by decide)) ⟨Nat.le_of_ble_eq_true rfl, Nat.le_of_ble_eq_true rfl⟩ (Nat.le_of_ble_eq_true rfl) ⟨Nat.le_of_ble_eq_true rfl, Nat.le_of_ble_eq_true rfl⟩ dL_act_70 ?_
    refine g_ishlz (pc := 73) C dL_act_73 (sz12z (shr x 10)).1 ?_
    refine g_istore_4 (pc := 74) C dL_act_74 ?_
    refine g_iload_1 (pc := 76) C dL_act_76 ?_
    refine g_bipush (pc := 77) C dL_act_77 (by decide) ?_
    refine g_cT2Pv (pc := 79) C cs_L_47 (k_L_low x 16 (by decide)) ⟨Nat.le_of_ble_eq_true rfl, Nat.le_of_ble_eq_true rfl⟩ (Nat.le_of_ble_eq_true rfl) ⟨Nat.le_of_ble_eq_true rfl, Nat.le_of_ble_eq_true rfl⟩ dL_act_79 ?_
    exact act_s0 hI x h9 C
  · refine g_iconst (pc := 12) C dL_act_12 ?_
    refine g_goto (pc := 13) (tgt := 17) C dL_act_13 (by decide) ?_
    refine g_istore_2 (pc := 17) C dL_act_17 ?_
    refine g_iload_1 (pc := 18) C dL_act_18 ?_
    refine g_iconst (pc := 19) C dL_act_19 ?_
    refine g_ishr (pc := 20) C dL_act_20 ?_
    refine g_iload_2 (pc := 21) C dL_act_21 ?_
    refine g_if_eq (pc := 22) (tgt := 30) C dL_act_22 (by decide) (by omega) (fun h22 => absurd h22 (by omega)) (fun _ => ?_)
    refine g_bipush (pc := 25) C dL_act_25 (by decide) ?_
    refine g_goto (pc := 27) (tgt := 32) C dL_act_27 (by decide) ?_
    refine g_cT2Pv (pc := 32) C cs_L_47 (k_L_low (shr x 4) 63 (by decide)) ⟨Nat.le_of_ble_eq_true rfl, Nat.le_of_ble_eq_true rfl⟩ (Nat.le_of_ble_eq_true rfl) ⟨Nat.le_of_ble_eq_true rfl, Nat.le_of_ble_eq_true rfl⟩ dL_act_32 ?_
    refine g_iload_2 (pc := 35) C dL_act_35 ?_
    refine g_if_eq (pc := 36) (tgt := 43) C dL_act_36 (by decide) (by omega) (fun h36 => absurd h36 (by omega)) (fun _ => ?_)
    refine g_iconst (pc := 39) C dL_act_39 ?_
    refine g_goto (pc := 40) (tgt := 44) C dL_act_40 (by decide) ?_
    refine g_isub (pc := 44) C dL_act_44 ?_
    refine g_istore_3 (pc := 45) C dL_act_45 ?_
    refine g_iload_2 (pc := 46) C dL_act_46 ?_
    refine g_if_eq (pc := 47) (tgt := 63) C dL_act_47 (by decide) (by omega) (fun h47 => absurd h47 (by omega)) (fun _ => ?_)
    refine g_iload_1 (pc := 50) C dL_act_50 ?_
    refine g_bipush (pc := 51) C dL_act_51 (by decide) ?_
    refine g_ishr (pc := 53) C dL_act_53 ?_
    refine g_sipush (pc := 54) C dL_act_54 (by decide) ?_
    refine g_cT2Pv (pc := 57) C cs_L_47 (k_L_low (shr x 10) 4200 (by decide)) ⟨Nat.le_of_ble_eq_true rfl, Nat.le_of_ble_eq_true rfl⟩ (Nat.le_of_ble_eq_true rfl) ⟨Nat.le_of_ble_eq_true rfl, Nat.le_of_ble_eq_true rfl⟩ dL_act_57 ?_
    refine g_goto (pc := 60) (tgt := 74) C dL_act_60 (by decide) ?_
    refine g_istore_4 (pc := 74) C dL_act_74 ?_
    refine g_iload_1 (pc := 76) C dL_act_76 ?_
    refine g_bipush (pc := 77) C dL_act_77 (by decide) ?_
    refine g_cT2Pv (pc := 79) C cs_L_47 (k_L_low x 16 (by decide)) ⟨Nat.le_of_ble_eq_true rfl, Nat.le_of_ble_eq_true rfl⟩ (Nat.le_of_ble_eq_true rfl) ⟨Nat.le_of_ble_eq_true rfl, Nat.le_of_ble_eq_true rfl⟩ dL_act_79 ?_
    exact act_s1 hI x h9 C
