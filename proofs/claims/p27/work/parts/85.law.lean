/-! the law's loop -/
theorem gh_gW {cs : CSt} {np : Nat} {ad : Nat → Nat} {V U : MT} (h : gh V U) : gW cs np ad V = gW cs np ad U := by
  have hf : ∀ r, r < 4 ∨ 12 < r → V r = U r := fun r hr => funext fun i => h r i (by omega)
  have hc : ∀ k, cel cs ad V k = cel cs ad U k := fun k => by
    match k with
    | 0 => simp only [cel, hf 0 (by omega)]
    | 1 => simp only [cel, mkd, hf 1 (by omega)]
    | 2 => simp only [cel, hf 2 (by omega)]
    | 3 => simp only [cel, hf 3 (by omega)]
    | 4 => rfl
    | 5 => rfl
    | 6 => rfl
    | 7 => rfl
    | 8 => rfl
    | 9 => rfl
    | 10 => rfl
    | 11 => rfl
    | 12 => rfl
    | j + 13 => simp only [cel, hf 13 (by omega), hf 14 (by omega), hf 15 (by omega), hf 16 (by omega), hf 17 (by omega)]
  unfold gW
  exact List.map_congr_left (fun i _ => by rw [hc])
theorem LF_pq {np : Nat} {T U : MT} (hI : Inv np T) (hL : LF T) (hq : pq U T) : LF U := hL.mono (fun i => hq 1 i (by omega) (by omega)) (fun i => hq 14 i (by omega) (by omega)) (fun i => hq 15 i (by omega) (by omega)) (fun i => hq 16 i (by omega) (by omega)) (fun a ha h2 => by
  rw [hq 2 a (by omega) (by omega)] at h2 ⊢
  rw [hq.z (i := 5) (by decide)]
  exact ⟨h2, hL.2 a ha h2⟩) hI.b4
theorem h_lawret {l : Launch} {p : Program} {e : Env} {s : State} {m : MethodId} {below : List Frame} {meth : Method} {c : Code} {cs : CSt} {b : Nat} {k n : Nat} {u1 u2 : St3} {pc : Nat} {lv : List (Option Value)} (C : gC p l s m #[Value.ref b] meth c cs (fun q => s.heap.size ≤ q) 7 cL_law RL ret) (hk : k ≤ 600104) (hn : n ≤ 7301314) (d : decode cL_law pc = .ok (.ireturn, 1)) : G2 p l e room_1 s m #[Value.ref b] below meth c (lw_Z below #[Value.ref b] s) cs (fun q => s.heap.size ≤ q) 7 k n u1 u2 pc lv [.int (zI 1)] := fun H locs ls hP hD hP2 hD2 hJ hS hl =>
  va_forget hS.2.2 (W.widen hk hn (lw_ret C.1 C.2.1 C.2.2.2.2.2.2.2.2.2.2 C.2.2.2.2.2.1 d))
theorem law_end {l : Launch} {p : Program} {e : Env} {s : State} {m : MethodId} {below : List Frame} {meth : Method} {c : Code} {cs : CSt} {b : Nat} {k n np : Nat} {ad : Nat → Nat} {T : MT} {u2 : St3} {r1 r2 i : Nat} {x : Int} {z5 z6 : Option Value} (C : gC p l s m #[Value.ref b] meth c cs (fun q => s.heap.size ≤ q) 7 cL_law RL ret) (hI : Inv np T) (hL : LF T) (hr1 : r1 = ad 0) (hi : i < 70) (hk : k ≤ 100 + 2000 * i + 1216) (hn : n ≤ 20000 + 12000 * i + 7296) (tail : ∀ (T' : MT) (z4 z5 z6 : Option Value), Inv np T' → LF T' → pq T' T → G2 p l e room_1 s m #[Value.ref b] below meth c (lw_Z below #[Value.ref b] s) cs (fun q => s.heap.size ≤ q) 7 (100 + 2000 * (i + 1)) (20000 + 12000 * (i + 1)) (np, ad, T') u2 18 [some (.ref b), some (.ref r1), some (.ref r2), some (.int (zI ((i + 1 : Nat) : Int))), z4, z5, z6] []) : G2 p l e room_1 s m #[Value.ref b] below meth c (lw_Z below #[Value.ref b] s) cs (fun q => s.heap.size ≤ q) 7 k n (np, ad, T) u2 112 [some (.ref b), some (.ref r1), some (.ref r2), some (.int (zI (i : Int))), some (.int (zI x)), z5, z6] [] := by
  subst hr1
  have hk1 : k ≤ 100 + 2000 * (i + 1) := Nat.le_trans hk (by rw [Nat.mul_succ, ← Nat.add_assoc]; exact Nat.add_le_add_left (Nat.le_of_ble_eq_true rfl) _)
  have hn1 : n ≤ 20000 + 12000 * (i + 1) := Nat.le_trans hn (by rw [Nat.mul_succ, ← Nat.add_assoc]; exact Nat.add_le_add_left (Nat.le_of_ble_eq_true rfl) _)
  refine h_iload_3 (pc := 112) C dL_law_112 ?_
  refine h_bipush (pc := 113) C dL_law_113 (by decide) ?_
  refine h_irem (pc := 115) C dL_law_115 (by omega) (by omega) ?_
  refine h_bipush (pc := 116) C dL_law_116 (by decide) ?_
  refine h_icmp_ne (pc := 118) (tgt := 132) C dL_law_118 (by decide) (by omega) (by omega) (fun h118 => ?_) (fun h118 => ?_)
  · refine h_iinc_3 (pc := 132) C dL_law_132 ?_
    refine h_goto (pc := 135) (tgt := 18) C dL_law_135 (by decide) ?_
    exact h_wid hk1 hn1 (h_eq rfl rfl rfl rfl (tail T (some (.int (zI x))) z5 z6 hI hL (pq.rf T)))
  · refine h_aload_1 (pc := 121) C dL_law_121 ?_
    refine h_iload_4 (pc := 122) C dL_law_122 ?_
    refine h_S1 (pc := 124) C (As := [.ref (ad 0), .int (zI x)]) (rest := []) cs_L_137 (k_L_areOwnersSo hI x) (fun _ _ h => h) ⟨Nat.le_of_ble_eq_true rfl, Nat.le_of_ble_eq_true rfl⟩ (Nat.le_of_ble_eq_true rfl) ⟨by show _ ≤ 600104; omega, by show _ ≤ 7301314; omega⟩ dL_law_124 (fun v u h => ?_)
    obtain ⟨rfl, U, rfl, hU, hq⟩ := h
    refine h_eq (st2 := [.int (zI 1)]) rfl rfl rfl rfl ?_
    refine h_if_ne (pc := 127) (tgt := 132) C dL_law_127 (by decide) (by omega) (fun _ => ?_) (fun h127 => absurd h127 (by omega))
    refine h_iinc_3 (pc := 132) C dL_law_132 ?_
    refine h_goto (pc := 135) (tgt := 18) C dL_law_135 (by decide) ?_
    exact h_wid (by omega) (by omega) (h_eq rfl rfl rfl rfl (tail U (some (.int (zI x))) z5 z6 hU (LF_pq hI hL hq) hq))
theorem law_mid {l : Launch} {p : Program} {e : Env} {s : State} {m : MethodId} {below : List Frame} {meth : Method} {c : Code} {cs : CSt} {b : Nat} {k n np np2 : Nat} {ad ad2 : Nat → Nat} {T U : MT} {r1 r2 i : Nat} {x : Int} {z5 z6 : Option Value} (C : gC p l s m #[Value.ref b] meth c cs (fun q => s.heap.size ≤ q) 7 cL_law RL ret) (hI : Inv np T) (hL : LF T) (hJ : Inv np2 U) (hq : pq U T) (hr1 : r1 = ad 0) (hr2 : r2 = ad2 0) (hi : i < 70) (hk : k ≤ 100 + 2000 * i + 16) (hn : n ≤ 20000 + 12000 * i + 96) (tail : ∀ (T' : MT) (z4 z5 z6 : Option Value), Inv np T' → LF T' → pq T' T → G2 p l e room_1 s m #[Value.ref b] below meth c (lw_Z below #[Value.ref b] s) cs (fun q => s.heap.size ≤ q) 7 (100 + 2000 * (i + 1)) (20000 + 12000 * (i + 1)) (np, ad, T') (np2, ad2, U) 18 [some (.ref b), some (.ref r1), some (.ref r2), some (.int (zI ((i + 1 : Nat) : Int))), z4, z5, z6] []) : G2 p l e room_1 s m #[Value.ref b] below meth c (lw_Z below #[Value.ref b] s) cs (fun q => s.heap.size ≤ q) 7 k n (np, ad, T) (np2, ad2, U) 57 [some (.ref b), some (.ref r1), some (.ref r2), some (.int (zI (i : Int))), some (.int (zI x)), z5, z6] [] := by
  have h13 := hI.n13
  subst hr1
  subst hr2
  refine h_aload_1 (pc := 57) C dL_law_57 ?_
  refine h_aload_2 (pc := 58) C dL_law_58 ?_
  refine h_SS (pc := 59) C (As := [.ref (ad 0), .ref (ad2 0)]) (rest := []) cs_L_125 (k_L_areAlike hI hJ hq) ⟨Nat.le_of_ble_eq_true rfl, Nat.le_of_ble_eq_true rfl⟩ (Nat.le_of_ble_eq_true rfl) ⟨by show _ ≤ 600104; omega, by show _ ≤ 7301314; omega⟩ dL_law_59 (fun v h => ?_)
  obtain rfl := h
  refine h_if_eq (pc := 62) (tgt := 72) C dL_law_62 (by decide) (by omega) (fun h62 => absurd h62 (by omega)) (fun _ => ?_)
  refine h_aload_1 (pc := 65) C dL_law_65 ?_
  refine h_S1 (pc := 66) C (As := [.ref (ad 0)]) (rest := []) cs_L_129 (k_L_areSpansSo hI hL) (fun _ _ h => h.1 rfl) ⟨Nat.le_of_ble_eq_true rfl, Nat.le_of_ble_eq_true rfl⟩ (Nat.le_of_ble_eq_true rfl) ⟨by show _ ≤ 600104; omega, by show _ ≤ 7301314; omega⟩ dL_law_66 (fun v u h => ?_)
  obtain ⟨-, rfl, rfl⟩ := h
  refine h_eq (st2 := [.int (zI 1)]) rfl rfl rfl rfl ?_
  refine h_if_ne (pc := 69) (tgt := 74) C dL_law_69 (by decide) (by omega) (fun _ => ?_) (fun h69 => absurd h69 (by omega))
  refine h_iload_4 (pc := 74) C dL_law_74 ?_
  refine h_iconst (pc := 76) C dL_law_76 ?_
  refine h_ishr (pc := 77) C dL_law_77 ?_
  refine h_bipush (pc := 78) C dL_law_78 (by decide) ?_
  refine h_S1 (pc := 80) C (As := [.int (shr (zI x) 5), .int (zI 12)]) (rest := []) cs_L_47 (k_L_low (shr (zI x) 5) 12 (by decide)) (fun _ _ h => h.1 rfl) ⟨Nat.le_of_ble_eq_true rfl, Nat.le_of_ble_eq_true rfl⟩ (Nat.le_of_ble_eq_true rfl) ⟨by show _ ≤ 600104; omega, by show _ ≤ 7301314; omega⟩ dL_law_80 (fun v u h => ?_)
  obtain ⟨-, rfl, rfl⟩ := h
  have hlo := lo_bd (shr (zI x) 5) (n := 12) (by decide)
  generalize lo (shr (zI x) 5) 12 = y at hlo ⊢
  refine h_eq (st2 := [.int (zI y)]) rfl rfl rfl rfl ?_
  by_cases hs : isS T y
  · refine h_istore_6 (pc := 83) C dL_law_83 ?_
    refine h_aload_1 (pc := 85) C dL_law_85 ?_
    refine h_iload_6 (pc := 86) C dL_law_86 ?_
    refine h_y11 (pc := 88) C cs_L_83 (q_there hI y (by omega) hs) ⟨Nat.le_of_ble_eq_true rfl, Nat.le_of_ble_eq_true rfl⟩ (by omega) (Nat.le_of_ble_eq_true rfl) ⟨by show _ ≤ 600104; omega, by show _ ≤ 7301314; omega⟩ dL_law_88 ?_
    refine h_if_eq (pc := 91) (tgt := 112) C dL_law_91 (by decide) (by omega) (fun h91 => absurd h91 (by omega)) (fun _ => ?_)
    refine h_iload_3 (pc := 94) C dL_law_94 ?_
    refine h_bipush (pc := 95) C dL_law_95 (by decide) ?_
    refine h_irem (pc := 97) C dL_law_97 (by omega) (by omega) ?_
    refine h_bipush (pc := 98) C dL_law_98 (by decide) ?_
    refine h_icmp_ne (pc := 100) (tgt := 112) C dL_law_100 (by decide) (by omega) (by omega) (fun h100 => ?_) (fun h100 => ?_)
    · exact law_end C hI hL rfl hi (by omega) (by omega) tail
    · refine h_aload_1 (pc := 103) C dL_law_103 ?_
      refine h_iload_6 (pc := 104) C dL_law_104 ?_
      refine h_S1 (pc := 106) C (As := [.ref (ad 0), .int (zI y)]) (rest := []) cs_L_133 (k_L_areBlocksSo hI hs) (fun _ _ h => h.1 rfl) ⟨Nat.le_of_ble_eq_true rfl, Nat.le_of_ble_eq_true rfl⟩ (Nat.le_of_ble_eq_true rfl) ⟨by show _ ≤ 600104; omega, by show _ ≤ 7301314; omega⟩ dL_law_106 (fun v u h => ?_)
      obtain ⟨-, rfl, rfl⟩ := h
      refine h_eq (st2 := [.int (zI 1)]) rfl rfl rfl rfl ?_
      refine h_if_eq (pc := 109) (tgt := 130) C dL_law_109 (by decide) (by omega) (fun h109 => absurd h109 (by omega)) (fun _ => ?_)
      exact law_end C hI hL rfl hi (by omega) (by omega) tail
  · refine h_istore_6 (pc := 83) C dL_law_83 ?_
    refine h_aload_1 (pc := 85) C dL_law_85 ?_
    refine h_iload_6 (pc := 86) C dL_law_86 ?_
    refine h_y11 (pc := 88) C cs_L_83 (q_gone hI y (by omega) hs) ⟨Nat.le_of_ble_eq_true rfl, Nat.le_of_ble_eq_true rfl⟩ (by omega) (Nat.le_of_ble_eq_true rfl) ⟨by show _ ≤ 600104; omega, by show _ ≤ 7301314; omega⟩ dL_law_88 ?_
    refine h_if_eq (pc := 91) (tgt := 112) C dL_law_91 (by decide) (by omega) (fun _ => ?_) (fun h91 => absurd h91 (by omega))
    exact law_end C hI hL rfl hi (by omega) (by omega) tail
theorem law_loop {l : Launch} {p : Program} {e : Env} {s : State} {m : MethodId} {below : List Frame} {meth : Method} {c : Code} {cs : CSt} {b : Nat} {L : Nat} {xs : Nat → Int32} (C : gC p l s m #[Value.ref b] meth c cs (fun q => s.heap.size ≤ q) 7 cL_law RL ret) (hX : scP b L xs (fun q => s.heap.size ≤ q) s) (hL0 : L ≤ 260) (r1 r2 d : Nat) : ∀ (i np np2 : Nat) (ad ad2 : Nat → Nat) (T U : MT) (z4 z5 z6 : Option Value), i + d = 70 → Inv np T → LF T → Inv np2 U → pq U T → r1 = ad 0 → r2 = ad2 0 → G2 p l e room_1 s m #[Value.ref b] below meth c (lw_Z below #[Value.ref b] s) cs (fun q => s.heap.size ≤ q) 7 (100 + 2000 * i) (20000 + 12000 * i) (np, ad, T) (np2, ad2, U) 18 [some (.ref b), some (.ref r1), some (.ref r2), some (.int (zI (i : Int))), z4, z5, z6] [] := by
  induction d with
  | zero =>
    intro i np np2 ad ad2 T U z4 z5 z6 hid hI hL hJ hq hr1 hr2
    refine h_iload_3 (pc := 18) C dL_law_18 ?_
    refine h_bipush (pc := 19) C dL_law_19 (by decide) ?_
    refine h_icmp_ge (pc := 21) (tgt := 138) C dL_law_21 (by decide) (by omega) (by omega) (fun _ => ?_) (fun h21 => absurd h21 (by omega))
    refine h_iconst (pc := 138) C dL_law_138 ?_
    exact h_lawret C (by omega) (by omega) dL_law_139
  | succ d ih =>
    intro i np np2 ad ad2 T U z4 z5 z6 hid hI hL hJ hq hr1 hr2
    have tail : ∀ (np np2 : Nat) (ad ad2 : Nat → Nat) (T U : MT), Inv np2 U → pq U T → r1 = ad 0 → r2 = ad2 0 → ∀ (T' : MT) (z4 z5 z6 : Option Value), Inv np T' → LF T' → pq T' T → G2 p l e room_1 s m #[Value.ref b] below meth c (lw_Z below #[Value.ref b] s) cs (fun q => s.heap.size ≤ q) 7 (100 + 2000 * (i + 1)) (20000 + 12000 * (i + 1)) (np, ad, T') (np2, ad2, U) 18 [some (.ref b), some (.ref r1), some (.ref r2), some (.int (zI ((i + 1 : Nat) : Int))), z4, z5, z6] [] := fun np np2 ad ad2 T U hJ hq hr1 hr2 T' z4 z5 z6 hI' hL' hq' => ih (i + 1) np np2 ad ad2 T' U z4 z5 z6 (by omega) hI' hL' hJ (hq.tr hq'.sy) hr1 hr2
    refine h_iload_3 (pc := 18) C dL_law_18 ?_
    refine h_bipush (pc := 19) C dL_law_19 (by decide) ?_
    refine h_icmp_ge (pc := 21) (tgt := 138) C dL_law_21 (by decide) (by omega) (by omega) (fun h21 => absurd h21 (by omega)) (fun _ => ?_)
    refine h_aload_0 (pc := 24) C dL_law_24 ?_
    refine h_iload_3 (pc := 25) C dL_law_25 ?_
    refine h_call1 (pc := 26) C (g_runSs (pc := 26) (As := [.ref b, .int (zI (i : Int))]) (rest := []) C hX (k_L_cell hL0 (i : Int) (by omega)) cs_L_118 ⟨Nat.le_of_ble_eq_true rfl, Nat.le_of_ble_eq_true rfl⟩ (Nat.le_of_ble_eq_true rfl) ⟨by show _ ≤ 600104; omega, by show _ ≤ 7301314; omega⟩ dL_law_26) (fun _ _ h => h) (fun v u h => ?_)
    obtain ⟨⟨x, rfl⟩, rfl⟩ := h
    refine h_eq (st2 := [.int (zI x)]) rfl rfl rfl rfl ?_
    refine h_istore_4 (pc := 29) C dL_law_29 ?_
    refine h_aload_1 (pc := 31) C dL_law_31 ?_
    refine h_iload_4 (pc := 32) C dL_law_32 ?_
    have hst := s_act hI hL (zI x)
    have hst2 := s_act hJ (LF_pq hI hL hq) (zI x)
    have hsm := act_pq hq (zI x)
    have Ka := k_L_act (l := l) (cs := cs) (ad := ad) hI (zI x)
    have Kb := k_L_act (l := l) (cs := cs) (ad := ad2) hJ (zI x)
    generalize actC (zI x) T = c1 at hst hsm Ka
    generalize actC (zI x) U = c2 at hst2 hsm Kb
    obtain ⟨x1, w1, T1⟩ := c1
    obtain ⟨x2, w2, U1⟩ := c2
    obtain ⟨m1, m2, m3⟩ := hsm
    have m1 : x2 = x1 := m1
    have m2 : w2 = w1 := m2
    have m3 : pq U1 T1 := m3
    subst m1
    subst m2
    refine h_eq (st2 := [.int (zI x), .ref (ad 0)]) rfl rfl rfl (by rw [hr1]) ?_
    refine h_S1 (pc := 34) C (As := [.ref (ad 0), .int (zI x)]) (rest := []) cs_L_122 (Ka) (fun _ _ h => h) ⟨Nat.le_of_ble_eq_true rfl, Nat.le_of_ble_eq_true rfl⟩ (Nat.le_of_ble_eq_true rfl) ⟨by show _ ≤ 600104; omega, by show _ ≤ 7301314; omega⟩ dL_law_34 (fun v u h => ?_)
    rcases h with ⟨h0, rfl, ad', had, rfl⟩ | ⟨h0, rfl, rfl⟩
    · have h0 : x2 = 0 := h0
      obtain ⟨V, g1, g2, g3, g4, g5⟩ := hst h0
      obtain ⟨V2, f1, f2, -, -, -⟩ := hst2 h0
      have g4 : 0 ≤ w2 := g4
      have g5 : w2 ≤ 200000 := g5
      have g1 : gh V T1 := g1
      have f1 : gh V2 U1 := f1
      refine h_gw (v := ((T1 0 2).toNat + 13, ad', V)) (gh_gW g1).symm ?_
      refine h_eq (st2 := [.int (zI w2)]) rfl rfl rfl rfl ?_
      refine h_istore_5 (pc := 37) C dL_law_37 ?_
      refine h_iload_5 (pc := 39) C dL_law_39 ?_
      refine h_ldci (pc := 41) C dL_law_41 ct_L_16 ?_
      refine h_eq (st2 := [.int (zI (-99999)), .int (zI w2)]) rfl rfl rfl (by rw [zI_th]) ?_
      refine h_icmp_eq (pc := 43) (tgt := 57) C dL_law_43 (by decide) (by omega) (by omega) (fun h43 => absurd h43 (by omega)) (fun _ => ?_)
      refine h_aload_2 (pc := 46) C dL_law_46 ?_
      refine h_iload_4 (pc := 47) C dL_law_47 ?_
      refine h_eq (st2 := [.int (zI x), .ref (ad2 0)]) rfl rfl rfl (by rw [hr2]) ?_
      refine h_S2 (pc := 49) C (As := [.ref (ad2 0), .int (zI x)]) (rest := []) cs_L_122 (Kb) (fun _ _ h => h) ⟨Nat.le_of_ble_eq_true rfl, Nat.le_of_ble_eq_true rfl⟩ (Nat.le_of_ble_eq_true rfl) ⟨by show _ ≤ 600104; omega, by show _ ≤ 7301314; omega⟩ dL_law_49 (fun v u h => ?_)
      rcases h with ⟨-, rfl, ad3, had3, rfl⟩ | ⟨h9, -, -⟩
      · refine h_gw2 (v := ((U1 0 2).toNat + 13, ad3, V2)) (gh_gW f1).symm ?_
        refine h_eq (st2 := [.int (zI w2)]) rfl rfl rfl rfl ?_
        refine h_iload_5 (pc := 52) C dL_law_52 ?_
        refine h_icmp_ne (pc := 54) (tgt := 72) C dL_law_54 (by decide) (by omega) (by omega) (fun h54 => absurd h54 (by omega)) (fun _ => ?_)
        have hq9 : pq V2 V := (f1.pq.tr m3).tr g1.pq.sy
        have ha1 : r1 = ad' 0 := hr1.trans had.symm
        have ha2 : r2 = ad3 0 := hr2.trans had3.symm
        exact law_mid C g2 g3 f2 hq9 ha1 ha2 (by omega) (by omega) (by omega) (tail _ _ _ _ _ _ f2 hq9 ha1 ha2)
      · exact absurd h0 h9
    · refine h_eq (st2 := [.int (zI (-99999))]) rfl rfl rfl rfl ?_
      refine h_istore_5 (pc := 37) C dL_law_37 ?_
      refine h_iload_5 (pc := 39) C dL_law_39 ?_
      refine h_ldci (pc := 41) C dL_law_41 ct_L_16 ?_
      refine h_eq (st2 := [.int (zI (-99999)), .int (zI (-99999))]) rfl rfl rfl (by rw [zI_th]) ?_
      refine h_icmp_eq (pc := 43) (tgt := 57) C dL_law_43 (by decide) (by omega) (by omega) (fun _ => ?_) (fun h43 => absurd h43 (by omega))
      exact law_mid C hI hL hJ hq hr1 hr2 (by omega) (by omega) (by omega) (tail _ _ _ _ _ _ hJ hq hr1 hr2)
