theorem and_31 (x : Int32) : ∃ y : Int, 0 ≤ y ∧ y ≤ 31 ∧ x &&& zI 31 = zI y := by
  refine ⟨(x &&& zI 31).toInt, ?_, ?_, (zI_self _).symm⟩
  all_goals
    have h1 : (x &&& zI 31).toBitVec.toNat ≤ 31 := by
      rw [Int32.toBitVec_and, BitVec.toNat_and]
      exact Nat.and_le_right
    have h2 : (x &&& zI 31).toInt = ((x &&& zI 31).toBitVec.toNat : Int) := by
      show (x &&& zI 31).toBitVec.toInt = _
      exact BitVec.toInt_eq_toNat_of_lt (by omega)
    omega
theorem law_sw {l : Launch} {p : Program} {e : Env} {s : State} {m : MethodId} {below : List Frame} {meth : Method} {c : Code} {cs : CSt} {b L : Nat} {xs : Nat → Int32} {k n np : Nat} {ad : Nat → Nat} {T : MT} {i y : Int} {z5 z6 : Option Value} (C : gC p l s m #[Value.ref b] meth c cs (fun q => s.heap.size ≤ q) 7 cL_law RL ret) (hX : scP b L xs (fun q => s.heap.size ≤ q) s) (hL : L ≤ 2560) (hi : 0 ≤ i ∧ i + 5 ≤ L) (hk : k ≤ 5000 ∧ n ≤ 60000) (h13 : 13 ≤ np) (hI : Inv np T) (hy : 0 ≤ y ∧ y ≤ 31) (tail : ∀ (np' : Nat) (ad' : Nat → Nat) (U : MT) (z5 z6 : Option Value), 13 ≤ np' → Inv np' U → GG p l e room_1 s m #[Value.ref b] below meth c (lw_Z below #[Value.ref b] s) cs (fun q => s.heap.size ≤ q) 7 (k + 8) (n + 48) np' ad' U 1447 [some (.ref b), some (.ref (ad' 0)), some (.ref (ad' 4)), some (.ref (ad' 12)), some (.int (zI i)), z5, z6] []) : GG p l e room_1 s m #[Value.ref b] below meth c (lw_Z below #[Value.ref b] s) cs (fun q => s.heap.size ≤ q) 7 k n np ad T 39 [some (.ref b), some (.ref (ad 0)), some (.ref (ad 4)), some (.ref (ad 12)), some (.int (zI i)), z5, z6] [.int (zI y)] := by
  have hy2 : y = 0 ∨ y = 1 ∨ y = 2 ∨ y = 3 ∨ y = 4 ∨ y = 5 ∨ y = 6 ∨ y = 7 ∨ y = 8 ∨ y = 9 ∨ y = 10 ∨ y = 11 ∨ y = 12 ∨ y = 13 ∨ y = 14 ∨ y = 15 ∨ y = 16 ∨ y = 17 ∨ y = 18 ∨ y = 19 ∨ y = 20 ∨ y = 21 ∨ y = 22 ∨ y = 23 ∨ 23 < y := by omega
  rcases hy2 with rfl | rfl | rfl | rfl | rfl | rfl | rfl | rfl | rfl | rfl | rfl | rfl | rfl | rfl | rfl | rfl | rfl | rfl | rfl | rfl | rfl | rfl | rfl | rfl | hy2
  · refine g_tabI (pc := 39) (tgt := 148) (off := 109) C (by decide) (by decide) (by decide) (by decide) dL_law_39 ?_
    obtain ⟨PRh, Kh, hp⟩ := st_carve (l := l) (cs := cs) (ad := ad) hI (xs (i + 1).toNat).toInt (xs (i + 2).toNat).toInt (xs (i + 3).toNat).toInt (xs (i + 4).toNat).toInt (rg32 _) (rg32 _) (rg32 _) (rg32 _)
    exact lw_carve C hX hL hi hk h13 Kh hp (fun np' ad' U r code h13' hI' => tail np' ad' U _ _ h13' hI')
  · refine g_tabI (pc := 39) (tgt := 240) (off := 201) C (by decide) (by decide) (by decide) (by decide) dL_law_39 ?_
    obtain ⟨PRh, Kh, hp⟩ := st_carveAt (l := l) (cs := cs) (ad := ad) hI (xs (i + 1).toNat).toInt (xs (i + 2).toNat).toInt (xs (i + 3).toNat).toInt (xs (i + 4).toNat).toInt (rg32 _) (rg32 _) (rg32 _) (rg32 _)
    exact lw_carveAt C hX hL hi hk h13 Kh hp (fun np' ad' U r code h13' hI' => tail np' ad' U _ _ h13' hI')
  · refine g_tabI (pc := 39) (tgt := 332) (off := 293) C (by decide) (by decide) (by decide) (by decide) dL_law_39 ?_
    obtain ⟨PRh, Kh, hp⟩ := st_remove (l := l) (cs := cs) (ad := ad) hI (xs (i + 1).toNat).toInt (rg32 _)
    exact lw_remove C hX hL hi hk h13 Kh hp (fun np' ad' U r code h13' hI' => tail np' ad' U _ _ h13' hI')
  · refine g_tabI (pc := 39) (tgt := 388) (off := 349) C (by decide) (by decide) (by decide) (by decide) dL_law_39 ?_
    obtain ⟨PRh, Kh, hp⟩ := st_grow (l := l) (cs := cs) (ad := ad) hI (xs (i + 1).toNat).toInt (rg32 _)
    exact lw_grow C hX hL hi hk h13 Kh hp (fun np' ad' U r code h13' hI' => tail np' ad' U _ _ h13' hI')
  · refine g_tabI (pc := 39) (tgt := 444) (off := 405) C (by decide) (by decide) (by decide) (by decide) dL_law_39 ?_
    obtain ⟨PRh, Kh, hp⟩ := st_halve (l := l) (cs := cs) (ad := ad) hI (xs (i + 1).toNat).toInt (rg32 _)
    exact lw_halve C hX hL hi hk h13 Kh hp (fun np' ad' U r code h13' hI' => tail np' ad' U _ _ h13' hI')
  · refine g_tabI (pc := 39) (tgt := 500) (off := 461) C (by decide) (by decide) (by decide) (by decide) dL_law_39 ?_
    obtain ⟨PRh, Kh, hp⟩ := st_setOwner (l := l) (cs := cs) (ad := ad) hI (xs (i + 1).toNat).toInt (xs (i + 2).toNat).toInt (rg32 _) (rg32 _)
    exact lw_setOwner C hX hL hi hk h13 Kh hp (fun np' ad' U r code h13' hI' => tail np' ad' U _ _ h13' hI')
  · refine g_tabI (pc := 39) (tgt := 568) (off := 529) C (by decide) (by decide) (by decide) (by decide) dL_law_39 ?_
    obtain ⟨PRh, Kh, hp⟩ := st_lend (l := l) (cs := cs) (ad := ad) hI (xs (i + 1).toNat).toInt (xs (i + 2).toNat).toInt (rg32 _) (rg32 _)
    exact lw_lend C hX hL hi hk h13 Kh hp (fun np' ad' U r code h13' hI' => tail np' ad' U _ _ h13' hI')
  · refine g_tabI (pc := 39) (tgt := 636) (off := 597) C (by decide) (by decide) (by decide) (by decide) dL_law_39 ?_
    obtain ⟨PRh, Kh, hp⟩ := st_takeBack (l := l) (cs := cs) (ad := ad) hI (xs (i + 1).toNat).toInt (rg32 _)
    exact lw_takeBack C hX hL hi hk h13 Kh hp (fun np' ad' U r code h13' hI' => tail np' ad' U _ _ h13' hI')
  · refine g_tabI (pc := 39) (tgt := 692) (off := 653) C (by decide) (by decide) (by decide) (by decide) dL_law_39 ?_
    obtain ⟨PRh, Kh, hp⟩ := st_pass (l := l) (cs := cs) (ad := ad) hI (xs (i + 1).toNat).toInt (rg32 _)
    exact lw_pass C hX hL hi hk h13 Kh hp (fun np' ad' U r code h13' hI' => tail np' ad' U _ _ h13' hI')
  · refine g_tabI (pc := 39) (tgt := 748) (off := 709) C (by decide) (by decide) (by decide) (by decide) dL_law_39 ?_
    obtain ⟨w, U, Kc, Km, hw, hI'⟩ := st_day (l := l) (cs := cs) (ad := ad) hI  
    exact lw_day C hX hL hi hk h13 Kc Km hw (tail np ad U _ _ h13 hI')
  · refine g_tabI (pc := 39) (tgt := 761) (off := 722) C (by decide) (by decide) (by decide) (by decide) dL_law_39 ?_
    obtain ⟨w, U, Kc, Km, hw, hI'⟩ := st_spans (l := l) (cs := cs) (ad := ad) hI  
    exact lw_spans C hX hL hi hk h13 Kc Km hw (tail np ad U _ _ h13 hI')
  · refine g_tabI (pc := 39) (tgt := 774) (off := 735) C (by decide) (by decide) (by decide) (by decide) dL_law_39 ?_
    obtain ⟨w, U, Kc, Km, hw, hI'⟩ := st_isThere (l := l) (cs := cs) (ad := ad) hI (xs (i + 1).toNat).toInt (rg32 _)
    exact lw_isThere C hX hL hi hk h13 Kc Km hw (tail np ad U _ _ h13 hI')
  · refine g_tabI (pc := 39) (tgt := 799) (off := 760) C (by decide) (by decide) (by decide) (by decide) dL_law_39 ?_
    obtain ⟨PRh, Kh, hp⟩ := st_base (l := l) (cs := cs) (ad := ad) hI (xs (i + 1).toNat).toInt (rg32 _)
    exact lw_base C hX hL hi hk h13 Kh hp (fun np' ad' U r code h13' hI' => tail np' ad' U _ _ h13' hI')
  · refine g_tabI (pc := 39) (tgt := 855) (off := 816) C (by decide) (by decide) (by decide) (by decide) dL_law_39 ?_
    obtain ⟨PRh, Kh, hp⟩ := st_size (l := l) (cs := cs) (ad := ad) hI (xs (i + 1).toNat).toInt (rg32 _)
    exact lw_size C hX hL hi hk h13 Kh hp (fun np' ad' U r code h13' hI' => tail np' ad' U _ _ h13' hI')
  · refine g_tabI (pc := 39) (tgt := 911) (off := 872) C (by decide) (by decide) (by decide) (by decide) dL_law_39 ?_
    obtain ⟨PRh, Kh, hp⟩ := st_parent (l := l) (cs := cs) (ad := ad) hI (xs (i + 1).toNat).toInt (rg32 _)
    exact lw_parent C hX hL hi hk h13 Kh hp (fun np' ad' U r code h13' hI' => tail np' ad' U _ _ h13' hI')
  · refine g_tabI (pc := 39) (tgt := 967) (off := 928) C (by decide) (by decide) (by decide) (by decide) dL_law_39 ?_
    obtain ⟨PRh, Kh, hp⟩ := st_free (l := l) (cs := cs) (ad := ad) hI (xs (i + 1).toNat).toInt (rg32 _)
    exact lw_free C hX hL hi hk h13 Kh hp (fun np' ad' U r code h13' hI' => tail np' ad' U _ _ h13' hI')
  · refine g_tabI (pc := 39) (tgt := 1023) (off := 984) C (by decide) (by decide) (by decide) (by decide) dL_law_39 ?_
    obtain ⟨PRh, Kh, hp⟩ := st_greatestFree (l := l) (cs := cs) (ad := ad) hI (xs (i + 1).toNat).toInt (rg32 _)
    exact lw_greatestFree C hX hL hi hk h13 Kh hp (fun np' ad' U r code h13' hI' => tail np' ad' U _ _ h13' hI')
  · refine g_tabI (pc := 39) (tgt := 1079) (off := 1040) C (by decide) (by decide) (by decide) (by decide) dL_law_39 ?_
    obtain ⟨PRh, Kh, hp⟩ := st_inTheWay (l := l) (cs := cs) (ad := ad) hI (xs (i + 1).toNat).toInt (xs (i + 2).toNat).toInt (rg32 _) (rg32 _)
    exact lw_inTheWay C hX hL hi hk h13 Kh hp (fun np' ad' U r code h13' hI' => tail np' ad' U _ _ h13' hI')
  · refine g_tabI (pc := 39) (tgt := 1147) (off := 1108) C (by decide) (by decide) (by decide) (by decide) dL_law_39 ?_
    obtain ⟨w, U, Kc, Km, hw, hI'⟩ := st_lent (l := l) (cs := cs) (ad := ad) hI  
    exact lw_lent C hX hL hi hk h13 Kc Km hw (tail np ad U _ _ h13 hI')
  · refine g_tabI (pc := 39) (tgt := 1160) (off := 1121) C (by decide) (by decide) (by decide) (by decide) dL_law_39 ?_
    obtain ⟨PRh, Kh, hp⟩ := st_isLent (l := l) (cs := cs) (ad := ad) hI (xs (i + 1).toNat).toInt (rg32 _)
    exact lw_isLent C hX hL hi hk h13 Kh hp (fun np' ad' U r code h13' hI' => tail np' ad' U _ _ h13' hI')
  · refine g_tabI (pc := 39) (tgt := 1223) (off := 1184) C (by decide) (by decide) (by decide) (by decide) dL_law_39 ?_
    obtain ⟨PRh, Kh, hp⟩ := st_nearest (l := l) (cs := cs) (ad := ad) hI (xs (i + 1).toNat).toInt (rg32 _)
    exact lw_nearest C hX hL hi hk h13 Kh hp (fun np' ad' U r code h13' hI' => tail np' ad' U _ _ h13' hI')
  · refine g_tabI (pc := 39) (tgt := 1279) (off := 1240) C (by decide) (by decide) (by decide) (by decide) dL_law_39 ?_
    obtain ⟨PRh, Kh, hp⟩ := st_nearestByRow (l := l) (cs := cs) (ad := ad) hI (xs (i + 1).toNat).toInt (rg32 _)
    exact lw_nearestByRow C hX hL hi hk h13 Kh hp (fun np' ad' U r code h13' hI' => tail np' ad' U _ _ h13' hI')
  · refine g_tabI (pc := 39) (tgt := 1335) (off := 1296) C (by decide) (by decide) (by decide) (by decide) dL_law_39 ?_
    obtain ⟨PRh, Kh, hp⟩ := st_owned (l := l) (cs := cs) (ad := ad) hI (xs (i + 1).toNat).toInt (rg32 _)
    exact lw_owned C hX hL hi hk h13 Kh hp (fun np' ad' U r code h13' hI' => tail np' ad' U _ _ h13' hI')
  · refine g_tabI (pc := 39) (tgt := 1391) (off := 1352) C (by decide) (by decide) (by decide) (by decide) dL_law_39 ?_
    obtain ⟨PRh, Kh, hp⟩ := st_blocks (l := l) (cs := cs) (ad := ad) hI (xs (i + 1).toNat).toInt (rg32 _)
    exact lw_blocks C hX hL hi hk h13 Kh hp (fun np' ad' U r code h13' hI' => tail np' ad' U _ _ h13' hI')
  · refine g_tabO (pc := 39) (tgt := 1447) C (by omega) (Or.inr hy2) (by decide) dL_law_39 ?_
    have h1 := tail np ad T z5 z6 h13 hI
    exact fun H locs ls hP hD hS hl => W.widen (Nat.le_add_right k 8) (Nat.le_add_right n 48) (h1 H locs ls hP hD hS hl)
theorem law_loop {l : Launch} {p : Program} {e : Env} {s : State} {m : MethodId} {below : List Frame} {meth : Method} {c : Code} {cs : CSt} {b L : Nat} {xs : Nat → Int32} (C : gC p l s m #[Value.ref b] meth c cs (fun q => s.heap.size ≤ q) 7 cL_law RL ret) (hX : scP b L xs (fun q => s.heap.size ≤ q) s) (hL : L ≤ 2560) (d : Nat) : ∀ (t k n np : Nat) (ad : Nat → Nat) (T : MT) (z5 z6 : Option Value), t + d = 513 → k ≤ 20 + 8 * t → n ≤ 20000 + 48 * t → 13 ≤ np → Inv np T → GG p l e room_1 s m #[Value.ref b] below meth c (lw_Z below #[Value.ref b] s) cs (fun q => s.heap.size ≤ q) 7 k n np ad T 23 [some (.ref b), some (.ref (ad 0)), some (.ref (ad 4)), some (.ref (ad 12)), some (.int (zI (5 * t : Nat))), z5, z6] [] := by
  induction d with
  | zero =>
    intro t k n np ad T z5 z6 ht hk hn h13 hI
    have ht2 : t = 513 := by omega
    refine g_iload_4 (pc := 23) C dL_law_23 ?_
    refine g_aload_0 (pc := 25) C dL_law_25 ?_
    refine g_slen (pc := 26) C hX dL_law_26 ?_
    refine g_iconst (pc := 27) C dL_law_27 ?_
    refine g_isub (pc := 28) C dL_law_28 ?_
    refine g_icmp_gt (pc := 29) (tgt := 1453) C dL_law_29 (by decide) (by omega) (by omega) (fun _ => ?_) (fun h29 => absurd h29 (by omega))
    refine g_iconst (pc := 1453) C dL_law_1453 ?_
    exact g_lawret C (by omega) (by omega) dL_law_1454
  | succ d ih =>
    intro t k n np ad T z5 z6 ht hk hn h13 hI
    refine g_iload_4 (pc := 23) C dL_law_23 ?_
    refine g_aload_0 (pc := 25) C dL_law_25 ?_
    refine g_slen (pc := 26) C hX dL_law_26 ?_
    refine g_iconst (pc := 27) C dL_law_27 ?_
    refine g_isub (pc := 28) C dL_law_28 ?_
    refine g_icmp_gt (pc := 29) (tgt := 1453) C dL_law_29 (by decide) (by omega) (by omega) (fun h29 => ?_) (fun h29 => ?_)
    · refine g_iconst (pc := 1453) C dL_law_1453 ?_
      exact g_lawret C (by omega) (by omega) dL_law_1454
    · obtain ⟨y, hy1, hy2, hy3⟩ := and_31 (xs ((5 * t : Nat) : Int).toNat)
      rw [← zI_self (xs ((5 * t : Nat) : Int).toNat)] at hy3
      refine g_aload_0 (pc := 32) C dL_law_32 ?_
      refine g_iload_4 (pc := 33) C dL_law_33 ?_
      refine g_sld (pc := 35) C hX hL (by omega) dL_law_35 ?_
      refine g_bipush (pc := 36) C dL_law_36 (by decide) ?_
      refine g_iandz (pc := 38) C dL_law_38 hy3 ?_
      refine law_sw C hX hL (by omega) (by omega) h13 hI ⟨hy1, hy2⟩ (fun np' ad' U z5 z6 h13' hI' => ?_)
      refine g_iinc_4 (pc := 1447) C dL_law_1447 ?_
      refine g_goto (pc := 1450) (tgt := 23) C dL_law_1450 (by decide) ?_
      exact g_eq rfl (by rw [show ((5 * t : Nat) : Int) + 5 = ((5 * (t + 1) : Nat) : Int) by omega]) rfl (ih (t + 1) (k + 8) (n + 48) np' ad' U z5 z6 (by omega) (by omega) (by omega) h13' hI')
