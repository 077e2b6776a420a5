/-! the law: areSpansSo -/
section
variable {p : Program} {l : Launch} {e : Env} {R : Room} {s : State} {m : MethodId} {args : Array Value} {below : List Frame} {meth : Method} {c : Code} {Q : State → Prop} {cs : CSt} {A : Nat → Prop} {nL : Nat}
variable {k n np : Nat} {ad : Nat → Nat} {pc : Nat} {st : List Value}
theorem g_wid {k' n' : Nat} {T : MT} {lv : List (Option Value)} (hk : k ≤ k') (hn : n ≤ n') (kk : GG p l e R s m args below meth c Q cs A nL k' n' np ad T pc lv st) : GG p l e R s m args below meth c Q cs A nL k n np ad T pc lv st := fun H locs ls hP hD hS hl => W.widen hk hn (kk H locs ls hP hD hS hl)
/-- a loop whose turns may make something -/
theorem g_loopk {σ : Type} {k0 ck n0 cn : Nat} (Tf : Nat → σ → MT) (lvf : Nat → σ → List (Option Value)) (inv : Nat → σ → Prop) (N i0 : Nat) (s0 : σ) (h0 : inv i0 s0) (hi : i0 ≤ N)
    (hs : ∀ i z, inv i z → i ≤ N → (∀ z', i + 1 ≤ N → inv (i + 1) z' → GG p l e R s m args below meth c Q cs A nL (k0 + ck * (i + 1)) (n0 + cn * (i + 1)) np ad (Tf (i + 1) z') pc (lvf (i + 1) z') st) → GG p l e R s m args below meth c Q cs A nL (k0 + ck * i) (n0 + cn * i) np ad (Tf i z) pc (lvf i z) st) :
    GG p l e R s m args below meth c Q cs A nL (k0 + ck * i0) (n0 + cn * i0) np ad (Tf i0 s0) pc (lvf i0 s0) st := by
  have key : ∀ (d i : Nat) (z : σ), inv i z → i + d = N → GG p l e R s m args below meth c Q cs A nL (k0 + ck * i) (n0 + cn * i) np ad (Tf i z) pc (lvf i z) st := by
    intro d
    induction d with
    | zero => exact fun i z h1 h2 => hs i z h1 (by omega) (fun z' h3 => absurd h3 (by omega))
    | succ d ih => exact fun i z h1 h2 => hs i z h1 (by omega) (fun z' h3 h4 => ih (i + 1) z' h4 (by omega))
  exact key (N - i0) i0 s0 h0 (by omega)
end
theorem pw_and {z : Int} (h : pw13 z) : zI z &&& zI (z - 1) = zI 0 := by
  unfold pw13 at h
  rcases h with rfl | rfl | rfl | rfl | rfl | rfl | rfl | rfl | rfl | rfl | rfl | rfl | rfl <;> decide
section
variable {l : Launch} {cs : CSt} {np : Nat} {ad : Nat → Nat} {T : MT}
theorem qn_base (hI : Inv np T) {j : Nat} (hs : isS T (j : Int)) : KD l cs yX1_base (Cond.code yX1_base cX1_base 2 (some .int) :: GW) 7 1 6 [.ref (ad 0), .int (zI (j : Int))] np ad T 0 (some (.int (zI (T 15 j)))) (np, ad, T) := q_base hI hs
theorem qn_size (hI : Inv np T) {j : Nat} (hs : isS T (j : Int)) : KD l cs yX1_size (Cond.code yX1_size cX1_size 2 (some .int) :: GW) 7 1 6 [.ref (ad 0), .int (zI (j : Int))] np ad T 0 (some (.int (zI (T 16 j)))) (np, ad, T) := q_size hI hs
theorem qn_parent (hI : Inv np T) {j : Nat} (hs : isS T (j : Int)) : KD l cs yX1_parent (Cond.code yX1_parent cX1_parent 3 (some .int) :: GW) 7 1 6 [.ref (ad 0), .int (zI (j : Int))] np ad T 0 (some (.int (zI (T 14 j)))) (np, ad, T) := q_parent hI hs
end
theorem k_L_areSpansSo {l : Launch} {cs : CSt} {np : Nat} {ad : Nat → Nat} {T : MT} (hI : Inv np T) (hL : LF T) : KD l cs yL_areSpansSo (Cond.code yL_areSpansSo cL_areSpansSo 8 (some .boolean) :: GW) 8 600 3600 [.ref (ad 0)] np ad T 0 (some (.int (zI 1))) (np, ad, T) := by
  have h13 := hI.n13
  have hfs := hI.fsum hL
  have hA1 := hI.2.1.1
  have hC1 := hI.1.1
  have hG1 := hI.geo.1
  refine KC_of (cc := cL_areSpansSo) (nL := 8) (rt := (some .boolean)) (by decide) (by simp [grf_cat, cat_int, cat_ref]) (by simp) ?_
  intro p e s m args below meth c A C hE hin
  refine g_eq (lv2 := [some (.ref (ad 0)), none, none, none, none, none, none, none]) rfl rfl rfl ?_
  refine g_iconst (pc := 0) C dL_areSpansSo_0 ?_
  refine g_istore_1 (pc := 1) C dL_areSpansSo_1 ?_
  refine g_iconst (pc := 2) C dL_areSpansSo_2 ?_
  refine g_istore_2 (pc := 3) C dL_areSpansSo_3 ?_
  refine g_iconst (pc := 4) C dL_areSpansSo_4 ?_
  refine g_istore_3 (pc := 5) C dL_areSpansSo_5 ?_
  refine g_eq (lv2 := [some (.ref (ad 0)), some (.int (zI (spC T 0))), some (.int (zI (fsC T 0))), some (.int (zI ((0 : Nat) : Int))), none, none, none, none]) rfl (by rw [spC_0, fsC_0]; rfl) rfl ?_
  refine g_loopk (σ := Option Value × Option Value × Option Value × Option Value) (k0 := 0) (ck := 8) (n0 := 0) (cn := 48) (Tf := fun _ _ => T) (lvf := fun j z => [some (.ref (ad 0)), some (.int (zI (spC T j))), some (.int (zI (fsC T j))), some (.int (zI (j : Int))), z.1, z.2.1, z.2.2.1, z.2.2.2]) (inv := fun _ _ => True) (N := 60) 0 (none, none, none, none) trivial (by omega) (fun j z _ hN ih => ?_)
  refine g_iload_3 (pc := 6) C dL_areSpansSo_6 ?_
  refine g_bipush (pc := 7) C dL_areSpansSo_7 (by decide) ?_
  refine g_icmp_ge (pc := 9) (tgt := 168) C dL_areSpansSo_9 (by decide) (by omega) (by omega) (fun h9 => ?_) (fun h9 => ?_)
  · obtain rfl : j = 60 := by omega
    have hsp := spC_bd T 60
    have hs0 : isS T 0 := ⟨by decide, by decide, by show T 1 0 ≠ 0; omega⟩
    refine g_aload_0 (pc := 168) C dL_areSpansSo_168 ?_
    refine g_cY0Pv (pc := 169) C cs_L_77 (q_spans hI) ⟨Nat.le_of_ble_eq_true rfl, Nat.le_of_ble_eq_true rfl⟩ (by omega) (Nat.le_of_ble_eq_true rfl) ⟨by show _ ≤ 600; omega, by show _ ≤ 3600; omega⟩ dL_areSpansSo_169 ?_
    refine g_iload_1 (pc := 172) C dL_areSpansSo_172 ?_
    refine g_icmp_ne (pc := 173) (tgt := 217) C dL_areSpansSo_173 (by decide) (by omega) (by omega) (fun h173 => absurd h173 (by omega)) (fun _ => ?_)
    refine g_iload_2 (pc := 176) C dL_areSpansSo_176 ?_
    refine g_aload_0 (pc := 177) C dL_areSpansSo_177 ?_
    refine g_cY0Pv (pc := 178) C cs_L_80 (k_X1_lent h13) ⟨Nat.le_of_ble_eq_true rfl, Nat.le_of_ble_eq_true rfl⟩ (by omega) (Nat.le_of_ble_eq_true rfl) ⟨by show _ ≤ 600; omega, by show _ ≤ 3600; omega⟩ dL_areSpansSo_178 ?_
    refine g_iadd (pc := 181) C dL_areSpansSo_181 ?_
    refine g_sipush (pc := 182) C dL_areSpansSo_182 (by decide) ?_
    refine g_icmp_ne (pc := 185) (tgt := 217) C dL_areSpansSo_185 (by decide) (by omega) (by omega) (fun h185 => absurd h185 (by omega)) (fun _ => ?_)
    refine g_aload_0 (pc := 188) C dL_areSpansSo_188 ?_
    refine g_iconst (pc := 189) C dL_areSpansSo_189 ?_
    refine g_cY1Pv (pc := 190) C cs_L_83 (q_there hI 0 (by decide) hs0) ⟨Nat.le_of_ble_eq_true rfl, Nat.le_of_ble_eq_true rfl⟩ (by omega) (Nat.le_of_ble_eq_true rfl) ⟨by show _ ≤ 600; omega, by show _ ≤ 3600; omega⟩ dL_areSpansSo_190 ?_
    refine g_if_eq (pc := 193) (tgt := 217) C dL_areSpansSo_193 (by decide) (by omega) (fun h193 => absurd h193 (by omega)) (fun _ => ?_)
    refine g_aload_0 (pc := 196) C dL_areSpansSo_196 ?_
    refine g_iconst (pc := 197) C dL_areSpansSo_197 ?_
    refine g_cY1Pv (pc := 198) C cs_L_83 (q_gone hI (-1) (by decide) (fun q => absurd q.1 (by decide))) ⟨Nat.le_of_ble_eq_true rfl, Nat.le_of_ble_eq_true rfl⟩ (by omega) (Nat.le_of_ble_eq_true rfl) ⟨by show _ ≤ 600; omega, by show _ ≤ 3600; omega⟩ dL_areSpansSo_198 ?_
    refine g_if_ne (pc := 201) (tgt := 217) C dL_areSpansSo_201 (by decide) (by omega) (fun h201 => absurd h201 (by omega)) (fun _ => ?_)
    refine g_aload_0 (pc := 204) C dL_areSpansSo_204 ?_
    refine g_bipush (pc := 205) C dL_areSpansSo_205 (by decide) ?_
    refine g_cY1Pv (pc := 207) C cs_L_83 (q_gone hI 60 (by decide) (fun q => absurd q.2.1 (by decide))) ⟨Nat.le_of_ble_eq_true rfl, Nat.le_of_ble_eq_true rfl⟩ (by omega) (Nat.le_of_ble_eq_true rfl) ⟨by show _ ≤ 600; omega, by show _ ≤ 3600; omega⟩ dL_areSpansSo_207 ?_
    refine g_if_ne (pc := 210) (tgt := 217) C dL_areSpansSo_210 (by decide) (by omega) (fun h210 => absurd h210 (by omega)) (fun _ => ?_)
    refine g_iconst (pc := 213) C dL_areSpansSo_213 ?_
    refine g_goto (pc := 214) (tgt := 218) C dL_areSpansSo_214 (by decide) ?_
    refine g_zret (pc := 218) C (by omega) (by omega) (by omega) dL_areSpansSo_218 ?_
    exact ⟨rfl, rfl, rfl⟩
  · have e1 := spC_s T j
    have e2 := fsC_s T j
    by_cases hj : T 1 j ≠ 0
    · have hs : isS T (j : Int) := ⟨by omega, by omega, hj⟩
      have hV := hI.1.2 j (by omega)
      have hg := hI.geo.2.1 j (by omega) hj
      have hgm := hg.2.1
      rw [if_pos hj] at e1 e2
      by_cases h0 : j = 0
      · have e14 : T 14 j = -1 := by rw [h0]; exact hG1.2.2
        have e16 : T 16 j = 4096 := by rw [h0]; exact hG1.2.1
        refine g_aload_0 (pc := 12) C dL_areSpansSo_12 ?_
        refine g_iload_3 (pc := 13) C dL_areSpansSo_13 ?_
        refine g_cY1Pv (pc := 14) C cs_L_83 (q_there hI (j : Int) (by omega) hs) ⟨Nat.le_of_ble_eq_true rfl, Nat.le_of_ble_eq_true rfl⟩ (by omega) (Nat.le_of_ble_eq_true rfl) ⟨by show _ ≤ 600; omega, by show _ ≤ 3600; omega⟩ dL_areSpansSo_14 ?_
        refine g_if_eq (pc := 17) (tgt := 162) C dL_areSpansSo_17 (by decide) (by omega) (fun h17 => absurd h17 (by omega)) (fun _ => ?_)
        refine g_aload_0 (pc := 20) C dL_areSpansSo_20 ?_
        refine g_iload_3 (pc := 21) C dL_areSpansSo_21 ?_
        refine g_cY1Pv (pc := 22) C cs_L_87 (qn_base hI hs) ⟨Nat.le_of_ble_eq_true rfl, Nat.le_of_ble_eq_true rfl⟩ (by omega) (Nat.le_of_ble_eq_true rfl) ⟨by show _ ≤ 600; omega, by show _ ≤ 3600; omega⟩ dL_areSpansSo_22 ?_
        refine g_istore_4 (pc := 25) C dL_areSpansSo_25 ?_
        refine g_aload_0 (pc := 27) C dL_areSpansSo_27 ?_
        refine g_iload_3 (pc := 28) C dL_areSpansSo_28 ?_
        refine g_cY1Pv (pc := 29) C cs_L_90 (qn_size hI hs) ⟨Nat.le_of_ble_eq_true rfl, Nat.le_of_ble_eq_true rfl⟩ (by omega) (Nat.le_of_ble_eq_true rfl) ⟨by show _ ≤ 600; omega, by show _ ≤ 3600; omega⟩ dL_areSpansSo_29 ?_
        refine g_istore_5 (pc := 32) C dL_areSpansSo_32 ?_
        refine g_aload_0 (pc := 34) C dL_areSpansSo_34 ?_
        refine g_iload_3 (pc := 35) C dL_areSpansSo_35 ?_
        refine g_cY1Pv (pc := 36) C cs_L_96 (qn_parent hI hs) ⟨Nat.le_of_ble_eq_true rfl, Nat.le_of_ble_eq_true rfl⟩ (by omega) (Nat.le_of_ble_eq_true rfl) ⟨by show _ ≤ 600; omega, by show _ ≤ 3600; omega⟩ dL_areSpansSo_36 ?_
        refine g_istore_6 (pc := 39) C dL_areSpansSo_39 ?_
        refine g_iload_6 (pc := 41) C dL_areSpansSo_41 ?_
        refine g_if_lt (pc := 43) (tgt := 102) C dL_areSpansSo_43 (by decide) (by omega) (fun _ => ?_) (fun h43 => absurd h43 (by omega))
        refine g_iconst (pc := 102) C dL_areSpansSo_102 ?_
        refine g_istore_7 (pc := 103) C dL_areSpansSo_103 ?_
        refine g_iinc_1 (pc := 105) C dL_areSpansSo_105 ?_
        refine g_iload_2 (pc := 108) C dL_areSpansSo_108 ?_
        refine g_aload_0 (pc := 109) C dL_areSpansSo_109 ?_
        refine g_iload_3 (pc := 110) C dL_areSpansSo_110 ?_
        refine g_cY1Pv (pc := 111) C cs_L_93 (q_free hI hs) ⟨Nat.le_of_ble_eq_true rfl, Nat.le_of_ble_eq_true rfl⟩ (by omega) (Nat.le_of_ble_eq_true rfl) ⟨by show _ ≤ 600; omega, by show _ ≤ 3600; omega⟩ dL_areSpansSo_111 ?_
        refine g_iadd (pc := 114) C dL_areSpansSo_114 ?_
        refine g_istore_2 (pc := 115) C dL_areSpansSo_115 ?_
        refine g_iload_4 (pc := 116) C dL_areSpansSo_116 ?_
        refine g_iload_5 (pc := 118) C dL_areSpansSo_118 ?_
        refine g_irem (pc := 120) C dL_areSpansSo_120 (by omega) (by omega) ?_
        refine g_if_ne (pc := 121) (tgt := 160) C dL_areSpansSo_121 (by decide) (by omega) (fun h121 => absurd h121 (by omega)) (fun _ => ?_)
        refine g_iload_5 (pc := 124) C dL_areSpansSo_124 ?_
        refine g_iload_5 (pc := 126) C dL_areSpansSo_126 ?_
        refine g_iconst (pc := 128) C dL_areSpansSo_128 ?_
        refine g_isub (pc := 129) C dL_areSpansSo_129 ?_
        refine g_iandz (pc := 130) C dL_areSpansSo_130 (pw_and hg.1) ?_
        refine g_if_ne (pc := 131) (tgt := 160) C dL_areSpansSo_131 (by decide) (by omega) (fun h131 => absurd h131 (by omega)) (fun _ => ?_)
        refine g_iload_3 (pc := 134) C dL_areSpansSo_134 ?_
        refine g_if_ne (pc := 135) (tgt := 155) C dL_areSpansSo_135 (by decide) (by omega) (fun h135 => absurd h135 (by omega)) (fun _ => ?_)
        refine g_iload_6 (pc := 138) C dL_areSpansSo_138 ?_
        refine g_iconst (pc := 140) C dL_areSpansSo_140 ?_
        refine g_icmp_ne (pc := 141) (tgt := 160) C dL_areSpansSo_141 (by decide) (by omega) (by omega) (fun h141 => absurd h141 (by omega)) (fun _ => ?_)
        refine g_iload_5 (pc := 144) C dL_areSpansSo_144 ?_
        refine g_sipush (pc := 146) C dL_areSpansSo_146 (by decide) ?_
        refine g_icmp_eq (pc := 149) (tgt := 162) C dL_areSpansSo_149 (by decide) (by omega) (by omega) (fun _ => ?_) (fun h149 => absurd h149 (by omega))
        refine g_iinc_3 (pc := 162) C dL_areSpansSo_162 ?_
        refine g_goto (pc := 165) (tgt := 6) C dL_areSpansSo_165 (by decide) ?_
        exact g_wid (by omega) (by omega) (g_eq rfl (by rw [e1, e2]; rfl) rfl (ih (some (.int (zI (T 15 j))), some (.int (zI (T 16 j))), some (.int (zI (T 14 j))), some (.int (zI 0))) (by omega) trivial))
      · have hin := hI.inp (by omega) hj h0
        have hps := hin.2.2.1
        have hbp := hI.bd hps
        refine g_aload_0 (pc := 12) C dL_areSpansSo_12 ?_
        refine g_iload_3 (pc := 13) C dL_areSpansSo_13 ?_
        refine g_cY1Pv (pc := 14) C cs_L_83 (q_there hI (j : Int) (by omega) hs) ⟨Nat.le_of_ble_eq_true rfl, Nat.le_of_ble_eq_true rfl⟩ (by omega) (Nat.le_of_ble_eq_true rfl) ⟨by show _ ≤ 600; omega, by show _ ≤ 3600; omega⟩ dL_areSpansSo_14 ?_
        refine g_if_eq (pc := 17) (tgt := 162) C dL_areSpansSo_17 (by decide) (by omega) (fun h17 => absurd h17 (by omega)) (fun _ => ?_)
        refine g_aload_0 (pc := 20) C dL_areSpansSo_20 ?_
        refine g_iload_3 (pc := 21) C dL_areSpansSo_21 ?_
        refine g_cY1Pv (pc := 22) C cs_L_87 (qn_base hI hs) ⟨Nat.le_of_ble_eq_true rfl, Nat.le_of_ble_eq_true rfl⟩ (by omega) (Nat.le_of_ble_eq_true rfl) ⟨by show _ ≤ 600; omega, by show _ ≤ 3600; omega⟩ dL_areSpansSo_22 ?_
        refine g_istore_4 (pc := 25) C dL_areSpansSo_25 ?_
        refine g_aload_0 (pc := 27) C dL_areSpansSo_27 ?_
        refine g_iload_3 (pc := 28) C dL_areSpansSo_28 ?_
        refine g_cY1Pv (pc := 29) C cs_L_90 (qn_size hI hs) ⟨Nat.le_of_ble_eq_true rfl, Nat.le_of_ble_eq_true rfl⟩ (by omega) (Nat.le_of_ble_eq_true rfl) ⟨by show _ ≤ 600; omega, by show _ ≤ 3600; omega⟩ dL_areSpansSo_29 ?_
        refine g_istore_5 (pc := 32) C dL_areSpansSo_32 ?_
        refine g_aload_0 (pc := 34) C dL_areSpansSo_34 ?_
        refine g_iload_3 (pc := 35) C dL_areSpansSo_35 ?_
        refine g_cY1Pv (pc := 36) C cs_L_96 (qn_parent hI hs) ⟨Nat.le_of_ble_eq_true rfl, Nat.le_of_ble_eq_true rfl⟩ (by omega) (Nat.le_of_ble_eq_true rfl) ⟨by show _ ≤ 600; omega, by show _ ≤ 3600; omega⟩ dL_areSpansSo_36 ?_
        refine g_istore_6 (pc := 39) C dL_areSpansSo_39 ?_
        refine g_iload_6 (pc := 41) C dL_areSpansSo_41 ?_
        refine g_if_lt (pc := 43) (tgt := 102) C dL_areSpansSo_43 (by decide) (by omega) (fun h43 => absurd h43 (by omega)) (fun _ => ?_)
        refine g_aload_0 (pc := 46) C dL_areSpansSo_46 ?_
        refine g_iload_6 (pc := 47) C dL_areSpansSo_47 ?_
        refine g_cY1Pv (pc := 49) C cs_L_83 (q_there hI (T 14 j) (by omega) hps) ⟨Nat.le_of_ble_eq_true rfl, Nat.le_of_ble_eq_true rfl⟩ (by omega) (Nat.le_of_ble_eq_true rfl) ⟨by show _ ≤ 600; omega, by show _ ≤ 3600; omega⟩ dL_areSpansSo_49 ?_
        refine g_if_eq (pc := 52) (tgt := 102) C dL_areSpansSo_52 (by decide) (by omega) (fun h52 => absurd h52 (by omega)) (fun _ => ?_)
        refine g_iload_5 (pc := 55) C dL_areSpansSo_55 ?_
        refine g_aload_0 (pc := 57) C dL_areSpansSo_57 ?_
        refine g_iload_6 (pc := 58) C dL_areSpansSo_58 ?_
        refine g_cY1Pv (pc := 60) C cs_L_90 (q_size hI hps) ⟨Nat.le_of_ble_eq_true rfl, Nat.le_of_ble_eq_true rfl⟩ (by omega) (Nat.le_of_ble_eq_true rfl) ⟨by show _ ≤ 600; omega, by show _ ≤ 3600; omega⟩ dL_areSpansSo_60 ?_
        refine g_icmp_gt (pc := 63) (tgt := 102) C dL_areSpansSo_63 (by decide) (by omega) (by omega) (fun h63 => absurd h63 (by omega)) (fun _ => ?_)
        refine g_iload_4 (pc := 66) C dL_areSpansSo_66 ?_
        refine g_aload_0 (pc := 68) C dL_areSpansSo_68 ?_
        refine g_iload_6 (pc := 69) C dL_areSpansSo_69 ?_
        refine g_cY1Pv (pc := 71) C cs_L_87 (q_base hI hps) ⟨Nat.le_of_ble_eq_true rfl, Nat.le_of_ble_eq_true rfl⟩ (by omega) (Nat.le_of_ble_eq_true rfl) ⟨by show _ ≤ 600; omega, by show _ ≤ 3600; omega⟩ dL_areSpansSo_71 ?_
        refine g_icmp_lt (pc := 74) (tgt := 102) C dL_areSpansSo_74 (by decide) (by omega) (by omega) (fun h74 => absurd h74 (by omega)) (fun _ => ?_)
        refine g_iload_4 (pc := 77) C dL_areSpansSo_77 ?_
        refine g_iload_5 (pc := 79) C dL_areSpansSo_79 ?_
        refine g_iadd (pc := 81) C dL_areSpansSo_81 ?_
        refine g_aload_0 (pc := 82) C dL_areSpansSo_82 ?_
        refine g_iload_6 (pc := 83) C dL_areSpansSo_83 ?_
        refine g_cY1Pv (pc := 85) C cs_L_87 (q_base hI hps) ⟨Nat.le_of_ble_eq_true rfl, Nat.le_of_ble_eq_true rfl⟩ (by omega) (Nat.le_of_ble_eq_true rfl) ⟨by show _ ≤ 600; omega, by show _ ≤ 3600; omega⟩ dL_areSpansSo_85 ?_
        refine g_aload_0 (pc := 88) C dL_areSpansSo_88 ?_
        refine g_iload_6 (pc := 89) C dL_areSpansSo_89 ?_
        refine g_cY1Pv (pc := 91) C cs_L_90 (q_size hI hps) ⟨Nat.le_of_ble_eq_true rfl, Nat.le_of_ble_eq_true rfl⟩ (by omega) (Nat.le_of_ble_eq_true rfl) ⟨by show _ ≤ 600; omega, by show _ ≤ 3600; omega⟩ dL_areSpansSo_91 ?_
        refine g_iadd (pc := 94) C dL_areSpansSo_94 ?_
        refine g_icmp_gt (pc := 95) (tgt := 102) C dL_areSpansSo_95 (by decide) (by omega) (by omega) (fun h95 => absurd h95 (by omega)) (fun _ => ?_)
        refine g_iconst (pc := 98) C dL_areSpansSo_98 ?_
        refine g_goto (pc := 99) (tgt := 103) C dL_areSpansSo_99 (by decide) ?_
        refine g_istore_7 (pc := 103) C dL_areSpansSo_103 ?_
        refine g_iinc_1 (pc := 105) C dL_areSpansSo_105 ?_
        refine g_iload_2 (pc := 108) C dL_areSpansSo_108 ?_
        refine g_aload_0 (pc := 109) C dL_areSpansSo_109 ?_
        refine g_iload_3 (pc := 110) C dL_areSpansSo_110 ?_
        refine g_cY1Pv (pc := 111) C cs_L_93 (q_free hI hs) ⟨Nat.le_of_ble_eq_true rfl, Nat.le_of_ble_eq_true rfl⟩ (by omega) (Nat.le_of_ble_eq_true rfl) ⟨by show _ ≤ 600; omega, by show _ ≤ 3600; omega⟩ dL_areSpansSo_111 ?_
        refine g_iadd (pc := 114) C dL_areSpansSo_114 ?_
        refine g_istore_2 (pc := 115) C dL_areSpansSo_115 ?_
        refine g_iload_4 (pc := 116) C dL_areSpansSo_116 ?_
        refine g_iload_5 (pc := 118) C dL_areSpansSo_118 ?_
        refine g_irem (pc := 120) C dL_areSpansSo_120 (by omega) (by omega) ?_
        refine g_if_ne (pc := 121) (tgt := 160) C dL_areSpansSo_121 (by decide) (by omega) (fun h121 => absurd h121 (by omega)) (fun _ => ?_)
        refine g_iload_5 (pc := 124) C dL_areSpansSo_124 ?_
        refine g_iload_5 (pc := 126) C dL_areSpansSo_126 ?_
        refine g_iconst (pc := 128) C dL_areSpansSo_128 ?_
        refine g_isub (pc := 129) C dL_areSpansSo_129 ?_
        refine g_iandz (pc := 130) C dL_areSpansSo_130 (pw_and hg.1) ?_
        refine g_if_ne (pc := 131) (tgt := 160) C dL_areSpansSo_131 (by decide) (by omega) (fun h131 => absurd h131 (by omega)) (fun _ => ?_)
        refine g_iload_3 (pc := 134) C dL_areSpansSo_134 ?_
        refine g_if_ne (pc := 135) (tgt := 155) C dL_areSpansSo_135 (by decide) (by omega) (fun _ => ?_) (fun h135 => absurd h135 (by omega))
        refine g_iload_7 (pc := 155) C dL_areSpansSo_155 ?_
        refine g_if_ne (pc := 157) (tgt := 162) C dL_areSpansSo_157 (by decide) (by omega) (fun _ => ?_) (fun h157 => absurd h157 (by omega))
        refine g_iinc_3 (pc := 162) C dL_areSpansSo_162 ?_
        refine g_goto (pc := 165) (tgt := 6) C dL_areSpansSo_165 (by decide) ?_
        exact g_wid (by omega) (by omega) (g_eq rfl (by rw [e1, e2]; rfl) rfl (ih (some (.int (zI (T 15 j))), some (.int (zI (T 16 j))), some (.int (zI (T 14 j))), some (.int (zI 1))) (by omega) trivial))
    · rw [if_neg hj, Int.add_zero] at e1 e2
      refine g_aload_0 (pc := 12) C dL_areSpansSo_12 ?_
      refine g_iload_3 (pc := 13) C dL_areSpansSo_13 ?_
      refine g_cY1Pv (pc := 14) C cs_L_83 (q_gone hI (j : Int) (by omega) (fun q => hj q.2.2)) ⟨Nat.le_of_ble_eq_true rfl, Nat.le_of_ble_eq_true rfl⟩ (by omega) (Nat.le_of_ble_eq_true rfl) ⟨by show _ ≤ 600; omega, by show _ ≤ 3600; omega⟩ dL_areSpansSo_14 ?_
      refine g_if_eq (pc := 17) (tgt := 162) C dL_areSpansSo_17 (by decide) (by omega) (fun _ => ?_) (fun h17 => absurd h17 (by omega))
      refine g_iinc_3 (pc := 162) C dL_areSpansSo_162 ?_
      refine g_goto (pc := 165) (tgt := 6) C dL_areSpansSo_165 (by decide) ?_
      exact g_wid (by omega) (by omega) (g_eq rfl (by rw [e1, e2]; rfl) rfl (ih z (by omega) trivial))
