/-! the law: areAlike; a cell of the script -/
section
variable {p : Program} {l : Launch} {e : Env} {R : Room} {s : State} {m : MethodId} {args : Array Value} {below : List Frame} {meth : Method} {c : Code} {Q : State → Prop} {cs : CSt} {A : Nat → Prop} {nL : Nat}
variable {cc : ByteArray} {own : String} {rt : Option FieldType} {k n : Nat} {u1 u2 : St3} {pc : Nat} {lv : List (Option Value)} {st : List Value}
variable {y : MethodName} {b : ByteArray} {maxL : Nat} {ret : Option FieldType} {d mc' ms' idx : Nat} {rest : List Value} {v0 a1 : Value} {np : Nat} {ad : Nat → Nat} {T T' : MT}
theorem h_y10 (C : gC p l s m args meth c cs A nL cc own rt) (hG : CGV own idx RX1 y b maxL ret 0)
    (K : KD l cs y (Cond.code y b maxL ret :: GW) d mc' ms' [.ref (ad 0)] np ad T 0 (some v0) (np, ad, T')) (hR : d + 1 ≤ R.frames ∧ 8 + (maxL + 11) + 40 * d ≤ R.locals) (h13 : 13 ≤ np) (hW : (rest.map fun v => v.category).sum ≤ 8) (hf : k + mc' ≤ R.cells ∧ n + ms' ≤ R.slots) (dd : decode cc pc = .ok (.invokevirtual idx, 3))
    (kk : G2 p l e R s m args below meth c Q cs A nL (k + mc') (n + ms') (np, ad, T') u2 (pc + 3) lv (v0 :: rest)) : G2 p l e R s m args below meth c Q cs A nL k n (np, ad, T) u2 pc lv (.ref (ad 0) :: rest) := h_V1 (u1 := (np, ad, T)) C (As := []) hG K hR h13 hW hf dd kk
theorem h_y11 (C : gC p l s m args meth c cs A nL cc own rt) (hG : CGV own idx RX1 y b maxL ret 1)
    (K : KD l cs y (Cond.code y b maxL ret :: GW) d mc' ms' [.ref (ad 0), a1] np ad T 0 (some v0) (np, ad, T')) (hR : d + 1 ≤ R.frames ∧ 8 + (maxL + 11) + 40 * d ≤ R.locals) (h13 : 13 ≤ np) (hW : (rest.map fun v => v.category).sum ≤ 8) (hf : k + mc' ≤ R.cells ∧ n + ms' ≤ R.slots) (dd : decode cc pc = .ok (.invokevirtual idx, 3))
    (kk : G2 p l e R s m args below meth c Q cs A nL (k + mc') (n + ms') (np, ad, T') u2 (pc + 3) lv (v0 :: rest)) : G2 p l e R s m args below meth c Q cs A nL k n (np, ad, T) u2 pc lv (a1 :: .ref (ad 0) :: rest) := h_V1 (u1 := (np, ad, T)) C (As := [a1]) hG K hR h13 hW hf dd kk
theorem h_y20 (C : gC p l s m args meth c cs A nL cc own rt) (hG : CGV own idx RX1 y b maxL ret 0)
    (K : KD l cs y (Cond.code y b maxL ret :: GW) d mc' ms' [.ref (ad 0)] np ad T 0 (some v0) (np, ad, T')) (hR : d + 1 ≤ R.frames ∧ 8 + (maxL + 11) + 40 * d ≤ R.locals) (h13 : 13 ≤ np) (hW : (rest.map fun v => v.category).sum ≤ 8) (hf : k + mc' ≤ R.cells ∧ n + ms' ≤ R.slots) (dd : decode cc pc = .ok (.invokevirtual idx, 3))
    (kk : G2 p l e R s m args below meth c Q cs A nL (k + mc') (n + ms') u1 (np, ad, T') (pc + 3) lv (v0 :: rest)) : G2 p l e R s m args below meth c Q cs A nL k n u1 (np, ad, T) pc lv (.ref (ad 0) :: rest) := h_V2 (u2 := (np, ad, T)) C (As := []) hG K hR h13 hW hf dd kk
theorem h_y21 (C : gC p l s m args meth c cs A nL cc own rt) (hG : CGV own idx RX1 y b maxL ret 1)
    (K : KD l cs y (Cond.code y b maxL ret :: GW) d mc' ms' [.ref (ad 0), a1] np ad T 0 (some v0) (np, ad, T')) (hR : d + 1 ≤ R.frames ∧ 8 + (maxL + 11) + 40 * d ≤ R.locals) (h13 : 13 ≤ np) (hW : (rest.map fun v => v.category).sum ≤ 8) (hf : k + mc' ≤ R.cells ∧ n + ms' ≤ R.slots) (dd : decode cc pc = .ok (.invokevirtual idx, 3))
    (kk : G2 p l e R s m args below meth c Q cs A nL (k + mc') (n + ms') u1 (np, ad, T') (pc + 3) lv (v0 :: rest)) : G2 p l e R s m args below meth c Q cs A nL k n u1 (np, ad, T) pc lv (a1 :: .ref (ad 0) :: rest) := h_V2 (u2 := (np, ad, T)) C (As := [a1]) hG K hR h13 hW hf dd kk
theorem h_loopk {k0 ck n0 cn : Nat} (lvf : Nat → List (Option Value)) (N i0 : Nat) (hi : i0 ≤ N)
    (hs : ∀ i, i ≤ N → (i + 1 ≤ N → G2 p l e R s m args below meth c Q cs A nL (k0 + ck * (i + 1)) (n0 + cn * (i + 1)) u1 u2 pc (lvf (i + 1)) st) → G2 p l e R s m args below meth c Q cs A nL (k0 + ck * i) (n0 + cn * i) u1 u2 pc (lvf i) st) :
    G2 p l e R s m args below meth c Q cs A nL (k0 + ck * i0) (n0 + cn * i0) u1 u2 pc (lvf i0) st := by
  have key : ∀ (d i : Nat), i + d = N → G2 p l e R s m args below meth c Q cs A nL (k0 + ck * i) (n0 + cn * i) u1 u2 pc (lvf i) st := by
    intro d
    induction d with
    | zero => exact fun i h2 => hs i (by omega) (fun h3 => absurd h3 (by omega))
    | succ d ih => exact fun i h2 => hs i (by omega) (fun h3 => ih (i + 1) (by omega))
  exact key (N - i0) i0 (by omega)
end
theorem pq.sp {U T : MT} (h : pq U T) (n : Nat) : spC U n = spC T n := by
  unfold spC
  rw [hid_eq, hid_eq, h.f (r := 1) (by omega)]
theorem pq.fr {U T : MT} (h : pq U T) (x : Int) : frC U x = frC T x := by
  unfold frC
  rw [hid_eq, hid_eq, h.out, h.lii]
theorem pq.is {U T : MT} (h : pq U T) {x : Int} (hs : isS T x) : isS U x := ⟨hs.1, hs.2.1, by rw [h 1 _ (by omega) (by omega)]; exact hs.2.2⟩
theorem Inv.frb {np : Nat} {T : MT} (h : Inv np T) {x : Int} (hs : isS T x) : -400000 ≤ frC T x ∧ frC T x ≤ 4096 := by
  have h1 := h.osb hs
  have hb := h.bd hs
  have h2 := liiC_bd T x (by omega)
  unfold frC
  rw [hid_eq]
  generalize outC T x = y at h1 ⊢
  omega
theorem k_L_areAlike {l : Launch} {cs : CSt} {np np2 : Nat} {ad ad2 : Nat → Nat} {T U : MT} (hI : Inv np T) (hJ : Inv np2 U) (hq : pq U T) : KC2 l cs yL_areAlike (Cond.code yL_areAlike cL_areAlike 4 (some .boolean) :: GW) 8 400 2400 [.ref (ad 0), .ref (ad2 0)] (np, ad, T) (np2, ad2, U) (fun v => v = .int (zI 1)) := by
  have h13 := hI.n13
  have h132 := hJ.n13
  have hA := hI.2.1.1
  have e5 : U 0 5 = T 0 5 := hq.z (by decide)
  have e4 : U 0 4 = T 0 4 := hq.z (by decide)
  have esp := hq.sp 60
  have hsp := spC_bd T 60
  refine KC2_of (cc := cL_areAlike) (nL := 4) (rt := (some .boolean)) (by decide) (by simp [cat_ref]) (by simp) ?_
  intro p e s m args below meth c A C
  refine h_eq (lv2 := [some (.ref (ad 0)), some (.ref (ad2 0)), none, none]) rfl rfl rfl rfl ?_
  refine h_aload_0 (pc := 0) C dL_areAlike_0 ?_
  refine h_y10 (pc := 1) C cs_L_73 (k_X1_day h13) ⟨Nat.le_of_ble_eq_true rfl, Nat.le_of_ble_eq_true rfl⟩ (by omega) (Nat.le_of_ble_eq_true rfl) ⟨by show _ ≤ 400; omega, by show _ ≤ 2400; omega⟩ dL_areAlike_1 ?_
  refine h_aload_1 (pc := 4) C dL_areAlike_4 ?_
  refine h_y20 (pc := 5) C cs_L_73 (k_X1_day h132) ⟨Nat.le_of_ble_eq_true rfl, Nat.le_of_ble_eq_true rfl⟩ (by omega) (Nat.le_of_ble_eq_true rfl) ⟨by show _ ≤ 400; omega, by show _ ≤ 2400; omega⟩ dL_areAlike_5 ?_
  refine h_icmp_ne (pc := 8) (tgt := 37) C dL_areAlike_8 (by decide) (by omega) (by omega) (fun h8 => absurd h8 (by omega)) (fun _ => ?_)
  refine h_aload_0 (pc := 11) C dL_areAlike_11 ?_
  refine h_y10 (pc := 12) C cs_L_77 (q_spans hI) ⟨Nat.le_of_ble_eq_true rfl, Nat.le_of_ble_eq_true rfl⟩ (by omega) (Nat.le_of_ble_eq_true rfl) ⟨by show _ ≤ 400; omega, by show _ ≤ 2400; omega⟩ dL_areAlike_12 ?_
  refine h_aload_1 (pc := 15) C dL_areAlike_15 ?_
  refine h_y20 (pc := 16) C cs_L_77 (q_spans hJ) ⟨Nat.le_of_ble_eq_true rfl, Nat.le_of_ble_eq_true rfl⟩ (by omega) (Nat.le_of_ble_eq_true rfl) ⟨by show _ ≤ 400; omega, by show _ ≤ 2400; omega⟩ dL_areAlike_16 ?_
  refine h_icmp_ne (pc := 19) (tgt := 37) C dL_areAlike_19 (by decide) (by omega) (by omega) (fun h19 => absurd h19 (by omega)) (fun _ => ?_)
  refine h_aload_0 (pc := 22) C dL_areAlike_22 ?_
  refine h_y10 (pc := 23) C cs_L_80 (k_X1_lent h13) ⟨Nat.le_of_ble_eq_true rfl, Nat.le_of_ble_eq_true rfl⟩ (by omega) (Nat.le_of_ble_eq_true rfl) ⟨by show _ ≤ 400; omega, by show _ ≤ 2400; omega⟩ dL_areAlike_23 ?_
  refine h_aload_1 (pc := 26) C dL_areAlike_26 ?_
  refine h_y20 (pc := 27) C cs_L_80 (k_X1_lent h132) ⟨Nat.le_of_ble_eq_true rfl, Nat.le_of_ble_eq_true rfl⟩ (by omega) (Nat.le_of_ble_eq_true rfl) ⟨by show _ ≤ 400; omega, by show _ ≤ 2400; omega⟩ dL_areAlike_27 ?_
  refine h_icmp_ne (pc := 30) (tgt := 37) C dL_areAlike_30 (by decide) (by omega) (by omega) (fun h30 => absurd h30 (by omega)) (fun _ => ?_)
  refine h_iconst (pc := 33) C dL_areAlike_33 ?_
  refine h_goto (pc := 34) (tgt := 38) C dL_areAlike_34 (by decide) ?_
  refine h_istore_2 (pc := 38) C dL_areAlike_38 ?_
  refine h_iconst (pc := 39) C dL_areAlike_39 ?_
  refine h_istore_3 (pc := 40) C dL_areAlike_40 ?_
  refine h_loopk (k0 := 0) (ck := 6) (n0 := 0) (cn := 36) (lvf := fun j => [some (.ref (ad 0)), some (.ref (ad2 0)), some (.int (zI 1)), some (.int (zI (j : Int)))]) (N := 60) 0 (by omega) (fun j hN ih => ?_)
  refine h_iload_3 (pc := 41) C dL_areAlike_41 ?_
  refine h_bipush (pc := 42) C dL_areAlike_42 (by decide) ?_
  refine h_icmp_ge (pc := 44) (tgt := 123) C dL_areAlike_44 (by decide) (by omega) (by omega) (fun h44 => ?_) (fun h44 => ?_)
  · refine h_iload_2 (pc := 123) C dL_areAlike_123 ?_
    refine h_zret (pc := 124) C (by omega) (by omega) (by omega) dL_areAlike_124 ?_
    exact rfl
  · by_cases hj : T 1 j ≠ 0
    · have hs : isS T (j : Int) := ⟨by omega, by omega, hj⟩
      have hs2 := hq.is hs
      have hV := hI.1.2 j (by omega)
      have g15 : U 15 j = T 15 j := hq 15 j (by omega) (by omega)
      have g16 : U 16 j = T 16 j := hq 16 j (by omega) (by omega)
      have gfr := hq.fr (j : Int)
      have hfb := hI.frb hs
      refine h_iload_2 (pc := 47) C dL_areAlike_47 ?_
      refine h_if_eq (pc := 48) (tgt := 123) C dL_areAlike_48 (by decide) (by omega) (fun h48 => absurd h48 (by omega)) (fun _ => ?_)
      refine h_aload_0 (pc := 51) C dL_areAlike_51 ?_
      refine h_iload_3 (pc := 52) C dL_areAlike_52 ?_
      refine h_y11 (pc := 53) C cs_L_83 (q_there hI (j : Int) (by omega) hs) ⟨Nat.le_of_ble_eq_true rfl, Nat.le_of_ble_eq_true rfl⟩ (by omega) (Nat.le_of_ble_eq_true rfl) ⟨by show _ ≤ 400; omega, by show _ ≤ 2400; omega⟩ dL_areAlike_53 ?_
      refine h_aload_1 (pc := 56) C dL_areAlike_56 ?_
      refine h_iload_3 (pc := 57) C dL_areAlike_57 ?_
      refine h_y21 (pc := 58) C cs_L_83 (q_there hJ (j : Int) (by omega) hs2) ⟨Nat.le_of_ble_eq_true rfl, Nat.le_of_ble_eq_true rfl⟩ (by omega) (Nat.le_of_ble_eq_true rfl) ⟨by show _ ≤ 400; omega, by show _ ≤ 2400; omega⟩ dL_areAlike_58 ?_
      refine h_icmp_ne (pc := 61) (tgt := 115) C dL_areAlike_61 (by decide) (by omega) (by omega) (fun h61 => absurd h61 (by omega)) (fun _ => ?_)
      refine h_aload_0 (pc := 64) C dL_areAlike_64 ?_
      refine h_iload_3 (pc := 65) C dL_areAlike_65 ?_
      refine h_y11 (pc := 66) C cs_L_83 (q_there hI (j : Int) (by omega) hs) ⟨Nat.le_of_ble_eq_true rfl, Nat.le_of_ble_eq_true rfl⟩ (by omega) (Nat.le_of_ble_eq_true rfl) ⟨by show _ ≤ 400; omega, by show _ ≤ 2400; omega⟩ dL_areAlike_66 ?_
      refine h_if_eq (pc := 69) (tgt := 111) C dL_areAlike_69 (by decide) (by omega) (fun h69 => absurd h69 (by omega)) (fun _ => ?_)
      refine h_aload_0 (pc := 72) C dL_areAlike_72 ?_
      refine h_iload_3 (pc := 73) C dL_areAlike_73 ?_
      refine h_y11 (pc := 74) C cs_L_87 (qn_base hI hs) ⟨Nat.le_of_ble_eq_true rfl, Nat.le_of_ble_eq_true rfl⟩ (by omega) (Nat.le_of_ble_eq_true rfl) ⟨by show _ ≤ 400; omega, by show _ ≤ 2400; omega⟩ dL_areAlike_74 ?_
      refine h_aload_1 (pc := 77) C dL_areAlike_77 ?_
      refine h_iload_3 (pc := 78) C dL_areAlike_78 ?_
      refine h_y21 (pc := 79) C cs_L_87 (qn_base hJ hs2) ⟨Nat.le_of_ble_eq_true rfl, Nat.le_of_ble_eq_true rfl⟩ (by omega) (Nat.le_of_ble_eq_true rfl) ⟨by show _ ≤ 400; omega, by show _ ≤ 2400; omega⟩ dL_areAlike_79 ?_
      refine h_icmp_ne (pc := 82) (tgt := 115) C dL_areAlike_82 (by decide) (by omega) (by omega) (fun h82 => absurd h82 (by omega)) (fun _ => ?_)
      refine h_aload_0 (pc := 85) C dL_areAlike_85 ?_
      refine h_iload_3 (pc := 86) C dL_areAlike_86 ?_
      refine h_y11 (pc := 87) C cs_L_90 (qn_size hI hs) ⟨Nat.le_of_ble_eq_true rfl, Nat.le_of_ble_eq_true rfl⟩ (by omega) (Nat.le_of_ble_eq_true rfl) ⟨by show _ ≤ 400; omega, by show _ ≤ 2400; omega⟩ dL_areAlike_87 ?_
      refine h_aload_1 (pc := 90) C dL_areAlike_90 ?_
      refine h_iload_3 (pc := 91) C dL_areAlike_91 ?_
      refine h_y21 (pc := 92) C cs_L_90 (qn_size hJ hs2) ⟨Nat.le_of_ble_eq_true rfl, Nat.le_of_ble_eq_true rfl⟩ (by omega) (Nat.le_of_ble_eq_true rfl) ⟨by show _ ≤ 400; omega, by show _ ≤ 2400; omega⟩ dL_areAlike_92 ?_
      refine h_icmp_ne (pc := 95) (tgt := 115) C dL_areAlike_95 (by decide) (by omega) (by omega) (fun h95 => absurd h95 (by omega)) (fun _ => ?_)
      refine h_aload_0 (pc := 98) C dL_areAlike_98 ?_
      refine h_iload_3 (pc := 99) C dL_areAlike_99 ?_
      refine h_y11 (pc := 100) C cs_L_93 (q_free hI hs) ⟨Nat.le_of_ble_eq_true rfl, Nat.le_of_ble_eq_true rfl⟩ (by omega) (Nat.le_of_ble_eq_true rfl) ⟨by show _ ≤ 400; omega, by show _ ≤ 2400; omega⟩ dL_areAlike_100 ?_
      refine h_aload_1 (pc := 103) C dL_areAlike_103 ?_
      refine h_iload_3 (pc := 104) C dL_areAlike_104 ?_
      refine h_y21 (pc := 105) C cs_L_93 (q_free hJ hs2) ⟨Nat.le_of_ble_eq_true rfl, Nat.le_of_ble_eq_true rfl⟩ (by omega) (Nat.le_of_ble_eq_true rfl) ⟨by show _ ≤ 400; omega, by show _ ≤ 2400; omega⟩ dL_areAlike_105 ?_
      refine h_icmp_ne (pc := 108) (tgt := 115) C dL_areAlike_108 (by decide) (by omega) (by omega) (fun h108 => absurd h108 (by omega)) (fun _ => ?_)
      refine h_iconst (pc := 111) C dL_areAlike_111 ?_
      refine h_goto (pc := 112) (tgt := 116) C dL_areAlike_112 (by decide) ?_
      refine h_istore_2 (pc := 116) C dL_areAlike_116 ?_
      refine h_iinc_3 (pc := 117) C dL_areAlike_117 ?_
      refine h_goto (pc := 120) (tgt := 41) C dL_areAlike_120 (by decide) ?_
      exact h_wid (by omega) (by omega) (h_eq rfl rfl rfl rfl (ih (by omega)))
    · have hn : ¬ isS T (j : Int) := fun q => hj q.2.2
      have hn2 : ¬ isS U (j : Int) := fun q => hn (hq.sy.is q)
      refine h_iload_2 (pc := 47) C dL_areAlike_47 ?_
      refine h_if_eq (pc := 48) (tgt := 123) C dL_areAlike_48 (by decide) (by omega) (fun h48 => absurd h48 (by omega)) (fun _ => ?_)
      refine h_aload_0 (pc := 51) C dL_areAlike_51 ?_
      refine h_iload_3 (pc := 52) C dL_areAlike_52 ?_
      refine h_y11 (pc := 53) C cs_L_83 (q_gone hI (j : Int) (by omega) hn) ⟨Nat.le_of_ble_eq_true rfl, Nat.le_of_ble_eq_true rfl⟩ (by omega) (Nat.le_of_ble_eq_true rfl) ⟨by show _ ≤ 400; omega, by show _ ≤ 2400; omega⟩ dL_areAlike_53 ?_
      refine h_aload_1 (pc := 56) C dL_areAlike_56 ?_
      refine h_iload_3 (pc := 57) C dL_areAlike_57 ?_
      refine h_y21 (pc := 58) C cs_L_83 (q_gone hJ (j : Int) (by omega) hn2) ⟨Nat.le_of_ble_eq_true rfl, Nat.le_of_ble_eq_true rfl⟩ (by omega) (Nat.le_of_ble_eq_true rfl) ⟨by show _ ≤ 400; omega, by show _ ≤ 2400; omega⟩ dL_areAlike_58 ?_
      refine h_icmp_ne (pc := 61) (tgt := 115) C dL_areAlike_61 (by decide) (by omega) (by omega) (fun h61 => absurd h61 (by omega)) (fun _ => ?_)
      refine h_aload_0 (pc := 64) C dL_areAlike_64 ?_
      refine h_iload_3 (pc := 65) C dL_areAlike_65 ?_
      refine h_y11 (pc := 66) C cs_L_83 (q_gone hI (j : Int) (by omega) hn) ⟨Nat.le_of_ble_eq_true rfl, Nat.le_of_ble_eq_true rfl⟩ (by omega) (Nat.le_of_ble_eq_true rfl) ⟨by show _ ≤ 400; omega, by show _ ≤ 2400; omega⟩ dL_areAlike_66 ?_
      refine h_if_eq (pc := 69) (tgt := 111) C dL_areAlike_69 (by decide) (by omega) (fun _ => ?_) (fun h69 => absurd h69 (by omega))
      refine h_iconst (pc := 111) C dL_areAlike_111 ?_
      refine h_goto (pc := 112) (tgt := 116) C dL_areAlike_112 (by decide) ?_
      refine h_istore_2 (pc := 116) C dL_areAlike_116 ?_
      refine h_iinc_3 (pc := 117) C dL_areAlike_117 ?_
      refine h_goto (pc := 120) (tgt := 41) C dL_areAlike_120 (by decide) ?_
      exact h_wid (by omega) (by omega) (h_eq rfl rfl rfl rfl (ih (by omega)))
/-! the script -/
def scP (b L : Nat) (xs : Nat → Int32) (A : Nat → Prop) (s : State) : Prop := va_X b L xs s s.heap ∧ b < s.heap.size ∧ ¬ A b
def KS (l : Launch) (cs : CSt) (b L : Nat) (xs : Nat → Int32) (y : MethodName) (ws : List Cond) (d mc ms : Nat) (av : List Value) (np : Nat) (ad : Nat → Nat) (T : MT) (PR : Option Value → St3 → Prop) (PX : String → St3 → Prop) : Prop :=
  l.stackTraces = false → ∀ sz, vx_Met l y ws (rmL d mc ms) (va_Pc av (fun U => gB cs np ad T sz U ∧ va_X b L xs U U.heap ∧ b < sz ∧ ¬ va_A (gW cs np ad T) sz b)) (gQ cs (va_A (gW cs np ad T) sz) PR) (gXC cs (va_A (gW cs np ad T) sz) PX) mc ms (va_A (gW cs np ad T) sz)
section
variable {p : Program} {l : Launch} {e : Env} {R : Room} {s : State} {m : MethodId} {args : Array Value} {below : List Frame} {meth : Method} {c : Code} {Q : State → Prop} {cs : CSt} {A : Nat → Prop} {nL : Nat}
variable {cc : ByteArray} {own : String} {rt : Option FieldType} {k n np : Nat} {ad : Nat → Nat} {T : MT} {pc : Nat} {lv : List (Option Value)} {st : List Value}
variable {PR : Option Value → St3 → Prop} {PX : String → St3 → Prop} {mc ms : Nat} {b L : Nat} {xs : Nat → Int32}
theorem g_sld (C : gC p l s m args meth c cs A nL cc own rt) (hX : scP b L xs A s) (hL : L ≤ 260) {i : Int} (hi : 0 ≤ i ∧ i < L) (d : decode cc pc = .ok (.iaload, 1)) (kk : GG p l e R s m args below meth c Q cs A nL k n np ad T (pc + 1) lv (.int (zI (xs i.toNat).toInt) :: st)) : GG p l e R s m args below meth c Q cs A nL k n np ad T pc lv (.int (zI i) :: .ref b :: st) := fun H locs ls hP hD hS hl =>
  va_sld C.1 C.2.1 hX.1 hX.2.1 hX.2.2 hS (zI_in hi (by omega)) d (by
    have h := kk H locs ls hP hD hS hl
    rw [zI_self] at h
    rw [zI_nat (by omega)]
    exact h)
theorem g_slen (C : gC p l s m args meth c cs A nL cc own rt) (hX : scP b L xs A s) (d : decode cc pc = .ok (.arraylength, 1)) (kk : GG p l e R s m args below meth c Q cs A nL k n np ad T (pc + 1) lv (.int (zI (L : Int)) :: st)) : GG p l e R s m args below meth c Q cs A nL k n np ad T pc lv (.ref b :: st) := fun H locs ls hP hD hS hl =>
  va_slen C.1 C.2.1 hX.1 hX.2.1 hX.2.2 hS d (by
    rw [zI_ofNat]
    exact kk H locs ls hP hD hS hl)
theorem KS_of {y : MethodName} {d : Nat} {av : List Value} (hy : plainName y.cls = true) (hc : ∀ v ∈ av, v.category = 1) (hn : av.length ≤ nL)
    (body : ∀ p e s m args below meth c A, gC p l s m args meth c cs A nL cc y.cls rt → scP b L xs A s → GG p l e (rmL d mc ms) s m args below meth c (kQ cs A PR PX below args s mc ms) cs A nL 0 0 np ad T 0 (av.map some ++ List.replicate (nL - av.length) none) []) :
    KS l cs b L xs y (Cond.code y cc nL rt :: GW) d mc ms av np ad T PR PX := by
  intro hl sz
  refine vx_ofW (cc := cc) (maxL := nL) (ret := rt) hy rfl ?_
  intro p e s m args below meth c s₁ B hml hexc hv
  obtain ⟨rfl, ⟨hsz, hP, hK, hD0, hX⟩, hS1, hS2, hS3⟩ := hv
  subst hsz
  have hD := hD0.self (sz := s.heap.size)
  have hts := atoms_spec (ws := Cond.code y cc nL rt :: GW) B.pre
  rw [lg_entry_eq]
  exact body p e s m _ below meth c (va_A (gW cs np ad T) s.heap.size) ⟨B.exec, B.bytes, hml, findClass_of_methodNamed B.named, fun w hw => hts w (List.mem_cons_of_mem _ hw), B.notSynchronized, hK, fun q h => Or.inr h, hX, hl, B.returns⟩ ⟨hS1, hS2, hS3⟩ s.heap [] _ hP hD va_S.rf (gl_entry av hc hn)
theorem gBs_blind {sz : Nat} {av : List Value} {F : Prop} : FrameBlind (va_Pc av (fun U => gB cs np ad T sz U ∧ va_X b L xs U U.heap ∧ b < sz ∧ F)) := fun a U g mk h => by
  obtain ⟨h0, h1, h2, h3, h4⟩ := h
  have h9 := gB_blind (cs := cs) (np := np) (ad := ad) (T := T) (sz := sz) (av := av) a U g mk ⟨h0, h1⟩
  exact ⟨h9.1, h9.2, va_X.moved (u := U) (U := U.calling g mk a) (Vm.Alike.refl U.vm) h2, h3, h4⟩
theorem g_runSs (C : gC p l s m args meth c cs A nL cc own rt) (hX : scP b L xs A s) {y : MethodName} {bb : ByteArray} {maxL : Nat} {ret : Option FieldType} {d mc' ms' idx : Nat} {As rest : List Value} {PR' : Option Value → St3 → Prop} {PX' : String → St3 → Prop}
    (K : KS l cs b L xs y (Cond.code y bb maxL ret :: GW) d mc' ms' As np ad T PR' PX') (hG : CGS own idx y bb maxL ret As.length) (hR : d + 1 ≤ R.frames ∧ 8 + (maxL + 11) + 40 * d ≤ R.locals)
    (hW : (rest.map fun v => v.category).sum ≤ 8) (hf : k + mc' ≤ R.cells ∧ n + ms' ≤ R.slots) (dd : decode cc pc = .ok (.invokestatic idx, 3)) :
    ∀ (H : Heap) (locs : List Loc) (ls : Array Slot), va_P cs.1 vwCl (gW cs np ad T) H → va_D A (gW cs np ad T) → va_S A s.heap H locs → gl ls nL lv → vx_Run p l e R s m args below meth c H locs k n mc' ms' (F0 m pc ls (As.reverse ++ rest)) rest (gQ cs (va_A (gW cs np ad T) H.size) PR' As.toArray) (gXC cs (va_A (gW cs np ad T) H.size) PX') (va_A (gW cs np ad T) H.size) := fun H locs ls hP hD hS hl =>
  vx_runS (own := own) (Ts := GW) ⟨C.1, C.2.1, C.2.2.1, C.2.2.2.1, C.2.2.2.2.1⟩ (K C.2.2.2.2.2.2.2.2.2.1 H.size) (va_cwS As.length C.2.2.2.2.1 hG.1 rfl rfl rfl hG.2 hR) ⟨gBs_blind, fun U hU hW => by
    have h9 := g_pre C hP hD hS As U hU hW
    refine ⟨h9.1, h9.2, ?_, Nat.lt_of_lt_of_le hX.2.1 hS.1, fun q => ?_⟩
    · rw [hU]
      exact (hX.1.kept (hS.2.1 b hX.2.1 hX.2.2)).moved hW.alike
    · rcases q with ⟨j, e9, q⟩ | q
      · exact hX.2.2 (hD.2 j _ q)
      · exact absurd (Nat.lt_of_lt_of_le hX.2.1 hS.1) (Nat.not_lt.mpr q)⟩ rfl rfl hl.1 rfl (lv_room hW) dd hf
end
theorem k_L_cell {l : Launch} {cs : CSt} {np : Nat} {ad : Nat → Nat} {T : MT} {b L : Nat} {xs : Nat → Int32} (hL : L ≤ 260) (i : Int) (hi : 0 ≤ i ∧ i < 1000) : KS l cs b L xs yL_cell (Cond.code yL_cell cL_cell 2 (some .int) :: GW) 0 0 0 [.ref b, .int (zI i)] np ad T (fun v u => (∃ x : Int, v = some (.int (zI x))) ∧ u = (np, ad, T)) (fun _ _ => False) := by
  refine KS_of (cc := cL_cell) (nL := 2) (rt := (some .int)) (by decide) (by simp [cat_int, cat_ref]) (by simp) ?_
  intro p e s m args below meth c A C hX
  refine g_eq (lv2 := [some (.ref b), some (.int (zI i))]) rfl rfl rfl ?_
  refine g_iload_1 (pc := 0) C dL_cell_0 ?_
  refine g_aload_0 (pc := 1) C dL_cell_1 ?_
  refine g_slen (pc := 2) C hX dL_cell_2 ?_
  refine g_icmp_ge (pc := 3) (tgt := 12) C dL_cell_3 (by decide) (by omega) (by omega) (fun h3 => ?_) (fun h3 => ?_)
  · refine g_sipush (pc := 12) C dL_cell_12 (by decide) ?_
    refine g_iload_1 (pc := 15) C dL_cell_15 ?_
    refine g_sipush (pc := 16) C dL_cell_16 (by decide) ?_
    refine g_iadd (pc := 19) C dL_cell_19 ?_
    refine g_imul (pc := 20) C dL_cell_20 ?_
    refine g_iload_1 (pc := 21) C dL_cell_21 ?_
    refine g_sipush (pc := 22) C dL_cell_22 (by decide) ?_
    refine g_iadd (pc := 25) C dL_cell_25 ?_
    refine g_imul (pc := 26) C dL_cell_26 ?_
    refine g_iret (pc := 27) C (Nat.le_of_ble_eq_true rfl) (Nat.le_of_ble_eq_true rfl) dL_cell_27 ?_
    exact ⟨⟨_, rfl⟩, rfl⟩
  · refine g_aload_0 (pc := 6) C dL_cell_6 ?_
    refine g_iload_1 (pc := 7) C dL_cell_7 ?_
    refine g_sld (pc := 8) C hX hL (by omega) dL_cell_8 ?_
    refine g_goto (pc := 9) (tgt := 27) C dL_cell_9 (by decide) ?_
    refine g_iret (pc := 27) C (Nat.le_of_ble_eq_true rfl) (Nat.le_of_ble_eq_true rfl) dL_cell_27 ?_
    exact ⟨⟨_, rfl⟩, rfl⟩
