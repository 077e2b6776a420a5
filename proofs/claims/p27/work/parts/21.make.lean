theorem k_X0_init {l : Launch} {cs : CSt} {np : Nat} {ad : Nat → Nat} {T : MT} (x i q B S o : Int) (hx : 0 ≤ x ∧ x + 13 < np) : KD l cs yX0_init (Cond.code yX0_init cX0_init 6 none :: GW) 1 0 0 [grf ad x, .int (zI i), grf ad q, .int (zI B), .int (zI S), .int (zI o)] np ad T 0 none (np, ad, mst (mst (mst (mst (mst T 13 x.toNat i) 14 x.toNat q) 15 x.toNat B) 16 x.toNat S) 17 x.toNat o) := by
  refine KC_of (cc := cX0_init) (nL := 6) (rt := none) (by decide) (by simp [grf_cat, cat_int, cat_ref]) (by simp) ?_
  intro p e s m args below meth c A C hE hin
  refine g_eq (lv2 := [some (grf ad x), some (.int (zI i)), some (grf ad q), some (.int (zI B)), some (.int (zI S)), some (.int (zI o))]) rfl rfl rfl ?_
  refine g_sload_0 (pc := 0) C dX0_init_0 ?_
  refine g_objI (pc := 1) C (by omega) ml_X0_1 ⟨Nat.le_of_ble_eq_true rfl, Nat.le_of_ble_eq_true rfl⟩ dX0_init_1 ?_
  refine g_sload_0 (pc := 4) C dX0_init_4 ?_
  refine g_iload_1 (pc := 5) C dX0_init_5 ?_
  refine g_put_X0_7 (pc := 6) C (by omega) hin dX0_init_6 ?_
  refine g_sload_0 (pc := 9) C dX0_init_9 ?_
  refine g_sload_2 (pc := 10) C dX0_init_10 ?_
  refine g_put_X0_13 (pc := 11) C (by omega) hin dX0_init_11 ?_
  refine g_sload_0 (pc := 14) C dX0_init_14 ?_
  refine g_iload_3 (pc := 15) C dX0_init_15 ?_
  refine g_put_X0_17 (pc := 16) C (by omega) dX0_init_16 ?_
  refine g_sload_0 (pc := 19) C dX0_init_19 ?_
  refine g_iload_4 (pc := 20) C dX0_init_20 ?_
  refine g_put_X0_20 (pc := 22) C (by omega) dX0_init_22 ?_
  refine g_sload_0 (pc := 25) C dX0_init_25 ?_
  refine g_iload_5 (pc := 26) C dX0_init_26 ?_
  refine g_put_X0_23 (pc := 28) C (by omega) dX0_init_28 ?_
  refine g_vret (pc := 31) C (Nat.le_of_ble_eq_true rfl) (Nat.le_of_ble_eq_true rfl) dX0_init_31 ?_
  exact ⟨rfl, rfl, rfl⟩
theorem initS_d : yX0_init.cls ≠ "java/lang/invoke/MethodHandle" ∧ yX0_init.cls ≠ "java/lang/invoke/VarHandle" ∧ (parseMethodDescriptor yX0_init.desc).map (fun d => d.parameters.length) = some 5 := by decide +kernel
/-- a span made: its number, its parent and the rest -/
def mkT (T : MT) (j : Nat) (x B S o : Int) : MT := fun r i =>
  if i = j ∧ 13 ≤ r ∧ r ≤ 17 then (if r = 13 then (j : Int) else if r = 14 then x else if r = 15 then B else if r = 16 then S else o)
  else if r = 1 ∧ i = j then 1 else if r = 0 ∧ i = 2 then T 0 2 + 1 else if r = 0 ∧ i = 7 then 0 else T r i
theorem mkT_eq (T : MT) (j : Nat) (x B S o : Int) (hj : (j : Int) = T 0 2) : mst (mst (mst (mst (mst (mst (mst (mst (newT T j) 13 j (T 0 2)) 14 j x) 15 j B) 16 j S) 17 j o) 1 j 1) 0 2 (T 0 2 + 1)) 0 7 0 = mkT T j x B S o := by
  funext r i
  unfold mkT
  by_cases h1 : i = j ∧ 13 ≤ r ∧ r ≤ 17
  · obtain ⟨rfl, h2, h3⟩ := h1
    have h4 : r = 13 ∨ r = 14 ∨ r = 15 ∨ r = 16 ∨ r = 17 := by omega
    rcases h4 with rfl | rfl | rfl | rfl | rfl <;> simp [mst, hj]
  · rw [if_neg h1]
    have h5 : newT T j r i = T r i := by unfold newT; rw [if_neg (by omega)]
    have h6 : ∀ (U : MT) (w : Nat) (v : Int), 13 ≤ w ∧ w ≤ 17 → mst U w j v r i = U r i := fun U w v hw => mst_ne (by omega)
    by_cases h7 : r = 0 ∧ i = 7
    · obtain ⟨rfl, rfl⟩ := h7
      simp [mst]
    · rw [mst_ne h7]
      by_cases h8 : r = 0 ∧ i = 2
      · obtain ⟨rfl, rfl⟩ := h8
        simp [mst]
      · rw [mst_ne h8]
        by_cases h9 : r = 1 ∧ i = j
        · obtain ⟨rfl, rfl⟩ := h9
          simp [mst]
        · rw [mst_ne h9, h6 _ 17 _ (by omega), h6 _ 16 _ (by omega), h6 _ 15 _ (by omega), h6 _ 14 _ (by omega), h6 _ 13 _ (by omega), h5, if_neg h9, if_neg h8, if_neg h7]
section
variable {p : Program} {l : Launch} {e : Env} {R : Room} {s : State} {m : MethodId} {args : Array Value} {below : List Frame} {meth : Method} {c : Code} {Q : State → Prop} {cs : CSt} {A : Nat → Prop} {nL : Nat}
variable {cc : ByteArray} {own : String} {rt : Option FieldType} {k n np : Nat} {ad : Nat → Nat} {T T' : MT} {pc : Nat} {lv : List (Option Value)} {rest : List Value}
theorem g_cInitS (C : gC p l s m args meth c cs A nL cc RX1 rt) {x : Int} {a1 a2 a3 a4 a5 : Value} (hx : 0 ≤ x) (K : KD l cs yX0_init (Cond.code yX0_init cX0_init 6 none :: GW) 1 0 0 [grf ad x, a1, a2, a3, a4, a5] np ad T 0 none (np, ad, T')) (hR : 2 ≤ R.frames ∧ 65 ≤ R.locals) (hW : (rest.map fun v => v.category).sum ≤ 8) (hf : k + 0 ≤ R.cells ∧ n + 0 ≤ R.slots) (dd : decode cc pc = .ok (.invokespecial 11, 3)) (kk : GG p l e R s m args below meth c Q cs A nL (k + 0) (n + 0) np ad T' (pc + 3) lv rest) : GG p l e R s m args below meth c Q cs A nL k n np ad T pc lv (a5 :: a4 :: a3 :: a2 :: a1 :: grf ad x :: rest) := by
  rw [grf_ref hx] at K ⊢
  exact g_call0 C (g_runI (As := [a1, a2, a3, a4, a5]) C K ml_X1_11 mi_X0_init ini_PrefixYard_Span mc_X0_init rfl initS_d hR hW hf dd) (fun E u h => absurd rfl h.1) (fun v u h => by obtain ⟨-, rfl, rfl⟩ := h; exact kk)
end
theorem k_X1_makeSpan {l : Launch} {cs : CSt} {np : Nat} {ad : Nat → Nat} {T : MT} (hV : VC np T) (hP : VP T) (x B S o : Int) (hx : 0 ≤ x ∧ x + 13 < np) : KC l cs yX1_makeSpan (Cond.code yX1_makeSpan cX1_makeSpan 6 (some .int) :: GW) 6 1 6 [.ref (ad 0), grf ad x, .int (zI B), .int (zI S), .int (zI o)] np ad T (fun v u => T 0 2 < 60 ∧ v = some (.int (zI (T 0 2))) ∧ ∃ q, u = (np + 1, va_up ad np q, mkT T (T 0 2).toNat x B S o)) (fun E u => ¬ T 0 2 < 60 ∧ E = xn 3 ∧ u = (np, ad, T)) := by
  have hV0 := hV.1
  refine KC_of (cc := cX1_makeSpan) (nL := 6) (rt := (some .int)) (by decide) (by simp [grf_cat, cat_int, cat_ref]) (by simp) ?_
  intro p e s m args below meth c A C hE hin
  refine g_eq (lv2 := [some (.ref (ad 0)), some (grf ad x), some (.int (zI B)), some (.int (zI S)), some (.int (zI o)), none]) rfl rfl rfl ?_
  refine g_aload_0 (pc := 0) C dX1_makeSpan_0 ?_
  refine g_get_X1_22 (pc := 1) C (by omega) dX1_makeSpan_1 ?_
  refine g_istore_5 (pc := 4) C dX1_makeSpan_4 ?_
  refine g_iload_5 (pc := 6) C dX1_makeSpan_6 ?_
  refine g_aload_0 (pc := 8) C dX1_makeSpan_8 ?_
  refine g_get_X1_18 (pc := 9) C (by omega) dX1_makeSpan_9 ?_
  refine g_alen1 (pc := 12) C (by omega) dX1_makeSpan_12 ?_
  refine g_icmp_lt (pc := 13) (tgt := 26) C dX1_makeSpan_13 (by decide) (by omega) (by omega) (fun h13 => ?_) (fun h13 => ?_)
  · have hj : np - 13 = (T 0 2).toNat := by omega
    have hm : T 1 (np - 13) = 0 := by
      have := hV.2 (np - 13) (by omega)
      omega
    refine g_aload_0 (pc := 26) C dX1_makeSpan_26 ?_
    refine g_get_X1_18 (pc := 27) C (by omega) dX1_makeSpan_27 ?_
    refine g_iload_5 (pc := 30) C dX1_makeSpan_30 ?_
    refine g_newS (pc := 32) C (by omega) hm (fun j hj => hP j (by omega)) cl_X1_7 ⟨Nat.le_of_ble_eq_true rfl, Nat.le_of_ble_eq_true rfl⟩ dX1_makeSpan_32 (fun q => ?_)
    have had : ∀ i, i < 13 → va_up ad np q i = ad i := fun i hi => va_up_ne _ _ (by omega)
    have hself : va_up ad np q np = q := va_up_self _ _ _
    have hgx : grf (va_up ad np q) x = grf ad x := grf_up (Or.inl (by omega))
    have hgn : grf (va_up ad np q) (T 0 2) = .ref q := by rw [grf_ref (by omega), show (T 0 2).toNat + 13 = np by omega, hself]
    obtain ⟨ad', hd'⟩ : ∃ ad', ad' = va_up ad np q := ⟨_, rfl⟩
    rw [← hd'] at had hself hgx hgn ⊢
    rw [hj]
    refine g_eq (lv2 := [some (.ref (ad' 0)), some (grf ad' x), some (.int (zI B)), some (.int (zI S)), some (.int (zI o)), some (.int (zI (T 0 2)))]) (st2 := [grf ad' (T 0 2), .int (zI (T 0 2)), .ref (ad' 1)]) rfl (by rw [had 0 (by omega), hgx]) (by rw [had 1 (by omega), hgn]) ?_
    refine g_dup (pc := 35) C dX1_makeSpan_35 grf_cat ?_
    refine g_iload_5 (pc := 36) C dX1_makeSpan_36 ?_
    refine g_sload_1 (pc := 38) C dX1_makeSpan_38 ?_
    refine g_iload_2 (pc := 39) C dX1_makeSpan_39 ?_
    refine g_iload_3 (pc := 40) C dX1_makeSpan_40 ?_
    refine g_iload_4 (pc := 41) C dX1_makeSpan_41 ?_
    refine g_cInitS (pc := 43) C (by omega) (k_X0_init (T 0 2) (T 0 2) x B S o (by omega)) ⟨Nat.le_of_ble_eq_true rfl, Nat.le_of_ble_eq_true rfl⟩ (by simp [grf_cat, cat_int, cat_ref]) ⟨Nat.le_of_ble_eq_true rfl, Nat.le_of_ble_eq_true rfl⟩ dX1_makeSpan_43 ?_
    refine g_aast (pc := 46) C (by omega) (by omega) dX1_makeSpan_46 ?_
    refine g_aload_0 (pc := 47) C dX1_makeSpan_47 ?_
    refine g_dup (pc := 48) C dX1_makeSpan_48 rfl ?_
    refine g_get_X1_22 (pc := 49) C (by omega) dX1_makeSpan_49 ?_
    have e1 : ∀ i, mst (mst (mst (mst (mst (mst (newT T (T 0 2).toNat) 13 (T 0 2).toNat (T 0 2)) 14 (T 0 2).toNat x) 15 (T 0 2).toNat B) 16 (T 0 2).toNat S) 17 (T 0 2).toNat o) 1 (T 0 2).toNat 1 0 i = T 0 i := fun i => by
      rw [mst_r (by decide), mst_r (by decide), mst_r (by decide), mst_r (by decide), mst_r (by decide), mst_r (by decide), newT, if_neg (by omega)]
    rw [e1]
    refine g_iconst (pc := 52) C dX1_makeSpan_52 ?_
    refine g_iadd (pc := 53) C dX1_makeSpan_53 ?_
    refine g_put_X1_22 (pc := 54) C (by omega) dX1_makeSpan_54 ?_
    refine g_aload_0 (pc := 57) C dX1_makeSpan_57 ?_
    refine g_iconst (pc := 58) C dX1_makeSpan_58 ?_
    refine g_put_X1_39 (pc := 59) C (by omega) (by omega) dX1_makeSpan_59 ?_
    refine g_iload_5 (pc := 62) C dX1_makeSpan_62 ?_
    refine g_iret (pc := 64) C (Nat.le_of_ble_eq_true rfl) (Nat.le_of_ble_eq_true rfl) dX1_makeSpan_64 ?_
    exact ⟨by omega, rfl, q, by rw [← hd', mkT_eq _ _ _ _ _ _ (by omega)]⟩
  · refine g_throw_3 (pc := 16) C hE (text := "60 spans were made") (by decide) dX1_makeSpan_16 dX1_makeSpan_19 dX1_makeSpan_20 dX1_makeSpan_22 dX1_makeSpan_25 ⟨Nat.le_of_ble_eq_true rfl, Nat.le_of_ble_eq_true rfl, Nat.le_of_ble_eq_true rfl, Nat.le_of_ble_eq_true rfl⟩ ⟨Nat.le_of_ble_eq_true rfl, Nat.le_of_ble_eq_true rfl⟩ ?_
    exact ⟨by omega, rfl, rfl⟩
