theorem chB_bd {np : Nat} {T : MT} (hV : VC np T) {x : Int} (hx : isS T x) (S : Int) (lst : Bool) : -1 ≤ chB T x S lst ∧ chB T x S lst ≤ 4096 := by
  rw [chB_eq]
  exact ⟨(cbI_bd hV hx S lst 4096).1, (cbI_bd hV hx S lst 4096).2.1⟩
noncomputable def cvB (T : MT) (a S w : Int) : Int := if w = 2 ∧ S < roomC T a (chB T a S (decide (w = 0))) then chB T a S (decide (w = 0)) + roomC T a (chB T a S (decide (w = 0))) / 2 else chB T a S (decide (w = 0))
noncomputable def exCv (T : MT) (a S o w : Int) : Nat := if fsp T a < 0 then 1 else if ¬ (szp S ∧ (0 ≤ o ∧ o < 8) ∧ (0 ≤ w ∧ w ≤ 2)) then 2 else if T 0 2 < 60 ∧ S < T 16 a.toNat ∧ liiC T a ≤ 0 ∧ chB T a S (decide (w = 0)) ≠ -1 then 0 else 3
theorem k_X1_carve {l : Launch} {cs : CSt} {np : Nat} {ad : Nat → Nat} {T : MT} (hV : VC np T) (hA : VA T) (hP : VP T) (a S o w : Int) (ha : -2147483648 ≤ a ∧ a < 2147483648) (hS : -2147483648 ≤ S ∧ S < 2147483648) (ho : -2147483648 ≤ o ∧ o < 2147483648) (hw0 : -2147483648 ≤ w ∧ w < 2147483648) : KC l cs yX1_carve (Cond.code yX1_carve cX1_carve 9 (some .int) :: GW) 7 8 48 [.ref (ad 0), .int (zI a), .int (zI S), .int (zI o), .int (zI w)] np ad T (fun v u => exCv T a S o w = 0 ∧ v = some (.int (zI (T 0 2))) ∧ ∃ q, u = (np + 1, va_up ad np q, mkT T (T 0 2).toNat a (cvB T a S w) S o)) (dEx (exCv T a S o w) (np, ad, T)) := by
  have hV0 := hV.1
  refine KC_of (cc := cX1_carve) (nL := 9) (rt := (some .int)) (by decide) (by simp [grf_cat, cat_int, cat_ref]) (by simp) ?_
  intro p e s m args below meth c A C hE hin
  refine g_eq (lv2 := [some (.ref (ad 0)), some (.int (zI a)), some (.int (zI S)), some (.int (zI o)), some (.int (zI w)), none, none, none, none]) rfl rfl rfl ?_
  refine g_aload_0 (pc := 0) C dX1_carve_0 ?_
  refine g_iload_1 (pc := 1) C dX1_carve_1 ?_
  refine g_cY1Dv (pc := 2) C hE cs_X1_43 (k_X1_spanOf a (by omega) ha) ⟨Nat.le_of_ble_eq_true rfl, Nat.le_of_ble_eq_true rfl⟩ (by omega) (Nat.le_of_ble_eq_true rfl) ⟨Nat.le_of_ble_eq_true rfl, Nat.le_of_ble_eq_true rfl⟩ ⟨Nat.le_of_ble_eq_true rfl, Nat.le_of_ble_eq_true rfl⟩ (fun hx2 => ?_) dX1_carve_2 (fun hn2 => ?_)
  · have h2 := exq_ne hx2
    exact dEx_of (c := 1) (by rw [exCv, if_pos (by omega)]) (by decide) (by rw [exq_f h2])
  · have h2 := exq_eq hn2 (by decide)
    rcases fsp_or T a with ⟨q1, q2⟩ | ⟨q1, q2⟩
    · omega
    have hV1 := hV.s q2
    rw [q1]
    refine g_sstore_5 (pc := 5) C dX1_carve_5 ?_
    refine g_iload_2 (pc := 7) C dX1_carve_7 ?_
    refine g_cT1Dn (pc := 8) C hE cs_X1_47 (k_X1_checkSize S hS) ⟨Nat.le_of_ble_eq_true rfl, Nat.le_of_ble_eq_true rfl⟩ (Nat.le_of_ble_eq_true rfl) ⟨Nat.le_of_ble_eq_true rfl, Nat.le_of_ble_eq_true rfl⟩ ⟨Nat.le_of_ble_eq_true rfl, Nat.le_of_ble_eq_true rfl⟩ (fun hx8 => ?_) dX1_carve_8 (fun hn8 => ?_)
    · exact dEx_of (c := 2) (by rw [exCv, if_neg (by omega), if_pos (fun h => exq_ne hx8 h.1)]) (by decide) (by rw [exq_f (exq_ne hx8)])
    · have hs := exq_eq hn8 (by decide)
      have hsb := szp_bd hs
      refine g_iload_3 (pc := 11) C dX1_carve_11 ?_
      refine g_cT1Dn (pc := 12) C hE cs_X1_51 (k_X1_checkOwner o ho) ⟨Nat.le_of_ble_eq_true rfl, Nat.le_of_ble_eq_true rfl⟩ (Nat.le_of_ble_eq_true rfl) ⟨Nat.le_of_ble_eq_true rfl, Nat.le_of_ble_eq_true rfl⟩ ⟨Nat.le_of_ble_eq_true rfl, Nat.le_of_ble_eq_true rfl⟩ (fun hx12 => ?_) dX1_carve_12 (fun hn12 => ?_)
      · exact dEx_of (c := 2) (by rw [exCv, if_neg (by omega), if_pos (fun h => exq_ne hx12 h.2.1)]) (by decide) (by rw [exq_f (exq_ne hx12)])
      · have ho1 := exq_eq hn12 (by decide)
        refine g_iload_4 (pc := 15) C dX1_carve_15 ?_
        refine g_if_lt (pc := 17) (tgt := 26) C dX1_carve_17 (by decide) (by omega) (fun h17 => ?_) (fun h17 => ?_)
        · refine g_throw_2 (pc := 26) C hE (text := "the way is not 0 to 2") (by decide) dX1_carve_26 dX1_carve_29 dX1_carve_30 dX1_carve_32 dX1_carve_35 ⟨Nat.le_of_ble_eq_true rfl, Nat.le_of_ble_eq_true rfl, Nat.le_of_ble_eq_true rfl, Nat.le_of_ble_eq_true rfl⟩ ⟨Nat.le_of_ble_eq_true rfl, Nat.le_of_ble_eq_true rfl⟩ ?_
          exact dEx_of (c := 2) (by rw [exCv, if_neg (by omega), if_pos (fun h => by have := h.2.2; omega)]) (by decide) rfl
        · refine g_iload_4 (pc := 20) C dX1_carve_20 ?_
          refine g_iconst (pc := 22) C dX1_carve_22 ?_
          refine g_icmp_le (pc := 23) (tgt := 36) C dX1_carve_23 (by decide) (by omega) (by omega) (fun h23 => ?_) (fun h23 => ?_)
          · have hw : 0 ≤ w ∧ w ≤ 2 := by omega
            refine g_aload_0 (pc := 36) C dX1_carve_36 ?_
            refine g_sload_5 (pc := 37) C dX1_carve_37 ?_
            refine g_iload_2 (pc := 39) C dX1_carve_39 ?_
            refine g_cY2Dn (pc := 40) C hE cs_X1_61 (k_X1_checkCarving hV hA a S q2 hS) ⟨Nat.le_of_ble_eq_true rfl, Nat.le_of_ble_eq_true rfl⟩ (by omega) (Nat.le_of_ble_eq_true rfl) ⟨Nat.le_of_ble_eq_true rfl, Nat.le_of_ble_eq_true rfl⟩ ⟨Nat.le_of_ble_eq_true rfl, Nat.le_of_ble_eq_true rfl⟩ (fun hx40 => ?_) dX1_carve_40 (fun hn40 => ?_)
            · exact dEx_of (c := 3) (by rw [exCv, if_neg (by omega), if_neg (fun h => h ⟨hs, ho1, hw⟩), if_neg (fun h => exq_ne hx40 ⟨h.1, h.2.1, h.2.2.1⟩)]) (by decide) (by rw [exq_f (exq_ne hx40)])
            · have h3 := exq_eq hn40 (by decide)
              refine g_aload_0 (pc := 43) C dX1_carve_43 ?_
              refine g_sload_5 (pc := 44) C dX1_carve_44 ?_
              refine g_iload_2 (pc := 46) C dX1_carve_46 ?_
              refine g_iload_4 (pc := 47) C dX1_carve_47 ?_
              refine g_if_ne (pc := 49) (tgt := 56) C dX1_carve_49 (by decide) (by omega) (fun h49 => ?_) (fun h49 => ?_)
              · have hlw : decide (w = 0) = false := by simp; exact h49
                have hcb : -1 ≤ chB T a S false ∧ chB T a S false ≤ 4096 ∧ (chB T a S false ≠ -1 → 0 ≤ chB T a S false) := by have := chB_bd hV q2 S false; omega
                refine g_iconst (pc := 56) C dX1_carve_56 ?_
                refine g_cY3Pv (pc := 57) C cs_X1_65 (k_X1_chosenBlock hV a S false q2 (by omega)) ⟨Nat.le_of_ble_eq_true rfl, Nat.le_of_ble_eq_true rfl⟩ (by omega) (Nat.le_of_ble_eq_true rfl) ⟨Nat.le_of_ble_eq_true rfl, Nat.le_of_ble_eq_true rfl⟩ dX1_carve_57 ?_
                refine g_istore_6 (pc := 60) C dX1_carve_60 ?_
                refine g_iload_6 (pc := 62) C dX1_carve_62 ?_
                refine g_iconst (pc := 64) C dX1_carve_64 ?_
                refine g_icmp_ne (pc := 65) (tgt := 78) C dX1_carve_65 (by decide) (by omega) (by omega) (fun h65 => ?_) (fun h65 => ?_)
                · have h65 : chB T a S (decide (w = 0)) ≠ -1 := by rw [hlw]; assumption
                  have hrm := roomC_b2 T a (chB T a S false)
                  refine g_aload_0 (pc := 78) C dX1_carve_78 ?_
                  refine g_sload_5 (pc := 79) C dX1_carve_79 ?_
                  refine g_iload_6 (pc := 81) C dX1_carve_81 ?_
                  refine g_cY2Pv (pc := 83) C cs_X1_74 (k_X1_roomAt hV a _ q2 (by omega)) ⟨Nat.le_of_ble_eq_true rfl, Nat.le_of_ble_eq_true rfl⟩ (by omega) (Nat.le_of_ble_eq_true rfl) ⟨Nat.le_of_ble_eq_true rfl, Nat.le_of_ble_eq_true rfl⟩ dX1_carve_83 ?_
                  refine g_istore_7 (pc := 86) C dX1_carve_86 ?_
                  refine g_iload_4 (pc := 88) C dX1_carve_88 ?_
                  refine g_iconst (pc := 90) C dX1_carve_90 ?_
                  refine g_icmp_ne (pc := 91) (tgt := 110) C dX1_carve_91 (by decide) (by omega) (by omega) (fun h91 => ?_) (fun h91 => ?_)
                  · refine g_iload_6 (pc := 110) C dX1_carve_110 ?_
                    refine g_istore_8 (pc := 112) C dX1_carve_112 ?_
                    refine g_aload_0 (pc := 114) C dX1_carve_114 ?_
                    refine g_sload_5 (pc := 115) C dX1_carve_115 ?_
                    refine g_iload_8 (pc := 117) C dX1_carve_117 ?_
                    refine g_iload_2 (pc := 119) C dX1_carve_119 ?_
                    refine g_iload_3 (pc := 120) C dX1_carve_120 ?_
                    rw [show chB T a S false = cvB T a S w by rw [cvB, if_neg (by omega), hlw]]
                    refine g_call0 C (g_runV (pc := 121) C (ci := 1) (q := 0) (Cn := RX1) (TT := TX1) (N := 8) (As := [grf ad a, .int (zI (cvB T a S w)), .int (zI S), .int (zI o)]) (rest := []) (k_X1_makeSpan hV hP a (cvB T a S w) S o (by omega)) cs_X1_78.1 cs_X1_78.2 ⟨Nat.le_of_ble_eq_true rfl, Nat.le_of_ble_eq_true rfl⟩ (by omega) rfl rfl (Nat.le_of_ble_eq_true rfl) ⟨Nat.le_of_ble_eq_true rfl, Nat.le_of_ble_eq_true rfl⟩ dX1_carve_121) (g_pass C hE (fun E u h => absurd h3.1 h.1) (Nat.le_of_ble_eq_true rfl) (Nat.le_of_ble_eq_true rfl)) (fun v u h => ?_)
                    obtain ⟨-, rfl, q, rfl⟩ := h
                    refine g_eq (st2 := [.int (zI (T 0 2))]) rfl rfl rfl ?_
                    refine g_iret (pc := 124) C (Nat.le_of_ble_eq_true rfl) (Nat.le_of_ble_eq_true rfl) dX1_carve_124 ?_
                    exact ⟨by rw [exCv, if_neg (by omega), if_neg (fun h => h ⟨hs, ho1, hw⟩), if_pos ⟨h3.1, h3.2.1, h3.2.2, h65⟩], rfl, q, rfl⟩
                  · refine g_iload_7 (pc := 94) C dX1_carve_94 ?_
                    refine g_iload_2 (pc := 96) C dX1_carve_96 ?_
                    refine g_icmp_le (pc := 97) (tgt := 110) C dX1_carve_97 (by decide) (by omega) (by omega) (fun h97 => ?_) (fun h97 => ?_)
                    · refine g_iload_6 (pc := 110) C dX1_carve_110 ?_
                      refine g_istore_8 (pc := 112) C dX1_carve_112 ?_
                      refine g_aload_0 (pc := 114) C dX1_carve_114 ?_
                      refine g_sload_5 (pc := 115) C dX1_carve_115 ?_
                      refine g_iload_8 (pc := 117) C dX1_carve_117 ?_
                      refine g_iload_2 (pc := 119) C dX1_carve_119 ?_
                      refine g_iload_3 (pc := 120) C dX1_carve_120 ?_
                      rw [show chB T a S false = cvB T a S w by rw [cvB, hlw, if_neg (by omega)]]
                      refine g_call0 C (g_runV (pc := 121) C (ci := 1) (q := 0) (Cn := RX1) (TT := TX1) (N := 8) (As := [grf ad a, .int (zI (cvB T a S w)), .int (zI S), .int (zI o)]) (rest := []) (k_X1_makeSpan hV hP a (cvB T a S w) S o (by omega)) cs_X1_78.1 cs_X1_78.2 ⟨Nat.le_of_ble_eq_true rfl, Nat.le_of_ble_eq_true rfl⟩ (by omega) rfl rfl (Nat.le_of_ble_eq_true rfl) ⟨Nat.le_of_ble_eq_true rfl, Nat.le_of_ble_eq_true rfl⟩ dX1_carve_121) (g_pass C hE (fun E u h => absurd h3.1 h.1) (Nat.le_of_ble_eq_true rfl) (Nat.le_of_ble_eq_true rfl)) (fun v u h => ?_)
                      obtain ⟨-, rfl, q, rfl⟩ := h
                      refine g_eq (st2 := [.int (zI (T 0 2))]) rfl rfl rfl ?_
                      refine g_iret (pc := 124) C (Nat.le_of_ble_eq_true rfl) (Nat.le_of_ble_eq_true rfl) dX1_carve_124 ?_
                      exact ⟨by rw [exCv, if_neg (by omega), if_neg (fun h => h ⟨hs, ho1, hw⟩), if_pos ⟨h3.1, h3.2.1, h3.2.2, h65⟩], rfl, q, rfl⟩
                    · refine g_iload_6 (pc := 100) C dX1_carve_100 ?_
                      refine g_iload_7 (pc := 102) C dX1_carve_102 ?_
                      refine g_iconst (pc := 104) C dX1_carve_104 ?_
                      refine g_idiv (pc := 105) C dX1_carve_105 (by omega) (by omega) ?_
                      refine g_iadd (pc := 106) C dX1_carve_106 ?_
                      refine g_goto (pc := 107) (tgt := 112) C dX1_carve_107 (by decide) ?_
                      refine g_istore_8 (pc := 112) C dX1_carve_112 ?_
                      refine g_aload_0 (pc := 114) C dX1_carve_114 ?_
                      refine g_sload_5 (pc := 115) C dX1_carve_115 ?_
                      refine g_iload_8 (pc := 117) C dX1_carve_117 ?_
                      refine g_iload_2 (pc := 119) C dX1_carve_119 ?_
                      refine g_iload_3 (pc := 120) C dX1_carve_120 ?_
                      rw [show chB T a S false + roomC T a (chB T a S false) / 2 = cvB T a S w by rw [cvB, hlw, if_pos (by omega)]]
                      refine g_call0 C (g_runV (pc := 121) C (ci := 1) (q := 0) (Cn := RX1) (TT := TX1) (N := 8) (As := [grf ad a, .int (zI (cvB T a S w)), .int (zI S), .int (zI o)]) (rest := []) (k_X1_makeSpan hV hP a (cvB T a S w) S o (by omega)) cs_X1_78.1 cs_X1_78.2 ⟨Nat.le_of_ble_eq_true rfl, Nat.le_of_ble_eq_true rfl⟩ (by omega) rfl rfl (Nat.le_of_ble_eq_true rfl) ⟨Nat.le_of_ble_eq_true rfl, Nat.le_of_ble_eq_true rfl⟩ dX1_carve_121) (g_pass C hE (fun E u h => absurd h3.1 h.1) (Nat.le_of_ble_eq_true rfl) (Nat.le_of_ble_eq_true rfl)) (fun v u h => ?_)
                      obtain ⟨-, rfl, q, rfl⟩ := h
                      refine g_eq (st2 := [.int (zI (T 0 2))]) rfl rfl rfl ?_
                      refine g_iret (pc := 124) C (Nat.le_of_ble_eq_true rfl) (Nat.le_of_ble_eq_true rfl) dX1_carve_124 ?_
                      exact ⟨by rw [exCv, if_neg (by omega), if_neg (fun h => h ⟨hs, ho1, hw⟩), if_pos ⟨h3.1, h3.2.1, h3.2.2, h65⟩], rfl, q, rfl⟩
                · refine g_throw_3 (pc := 68) C hE (text := "no free block of the size") (by decide) dX1_carve_68 dX1_carve_71 dX1_carve_72 dX1_carve_74 dX1_carve_77 ⟨Nat.le_of_ble_eq_true rfl, Nat.le_of_ble_eq_true rfl, Nat.le_of_ble_eq_true rfl, Nat.le_of_ble_eq_true rfl⟩ ⟨Nat.le_of_ble_eq_true rfl, Nat.le_of_ble_eq_true rfl⟩ ?_
                  exact dEx_of (c := 3) (by rw [exCv, if_neg (by omega), if_neg (fun h => h ⟨hs, ho1, hw⟩), if_neg (fun h => h.2.2.2 (by rw [hlw]; assumption))]) (by decide) rfl
              · have hlw : decide (w = 0) = true := by simp; exact h49
                have hcb : -1 ≤ chB T a S true ∧ chB T a S true ≤ 4096 ∧ (chB T a S true ≠ -1 → 0 ≤ chB T a S true) := by have := chB_bd hV q2 S true; omega
                refine g_iconst (pc := 52) C dX1_carve_52 ?_
                refine g_goto (pc := 53) (tgt := 57) C dX1_carve_53 (by decide) ?_
                refine g_cY3Pv (pc := 57) C cs_X1_65 (k_X1_chosenBlock hV a S true q2 (by omega)) ⟨Nat.le_of_ble_eq_true rfl, Nat.le_of_ble_eq_true rfl⟩ (by omega) (Nat.le_of_ble_eq_true rfl) ⟨Nat.le_of_ble_eq_true rfl, Nat.le_of_ble_eq_true rfl⟩ dX1_carve_57 ?_
                refine g_istore_6 (pc := 60) C dX1_carve_60 ?_
                refine g_iload_6 (pc := 62) C dX1_carve_62 ?_
                refine g_iconst (pc := 64) C dX1_carve_64 ?_
                refine g_icmp_ne (pc := 65) (tgt := 78) C dX1_carve_65 (by decide) (by omega) (by omega) (fun h65 => ?_) (fun h65 => ?_)
                · have h65 : chB T a S (decide (w = 0)) ≠ -1 := by rw [hlw]; assumption
                  have hrm := roomC_b2 T a (chB T a S true)
                  refine g_aload_0 (pc := 78) C dX1_carve_78 ?_
                  refine g_sload_5 (pc := 79) C dX1_carve_79 ?_
                  refine g_iload_6 (pc := 81) C dX1_carve_81 ?_
                  refine g_cY2Pv (pc := 83) C cs_X1_74 (k_X1_roomAt hV a _ q2 (by omega)) ⟨Nat.le_of_ble_eq_true rfl, Nat.le_of_ble_eq_true rfl⟩ (by omega) (Nat.le_of_ble_eq_true rfl) ⟨Nat.le_of_ble_eq_true rfl, Nat.le_of_ble_eq_true rfl⟩ dX1_carve_83 ?_
                  refine g_istore_7 (pc := 86) C dX1_carve_86 ?_
                  refine g_iload_4 (pc := 88) C dX1_carve_88 ?_
                  refine g_iconst (pc := 90) C dX1_carve_90 ?_
                  refine g_icmp_ne (pc := 91) (tgt := 110) C dX1_carve_91 (by decide) (by omega) (by omega) (fun h91 => ?_) (fun h91 => ?_)
                  · refine g_iload_6 (pc := 110) C dX1_carve_110 ?_
                    refine g_istore_8 (pc := 112) C dX1_carve_112 ?_
                    refine g_aload_0 (pc := 114) C dX1_carve_114 ?_
                    refine g_sload_5 (pc := 115) C dX1_carve_115 ?_
                    refine g_iload_8 (pc := 117) C dX1_carve_117 ?_
                    refine g_iload_2 (pc := 119) C dX1_carve_119 ?_
                    refine g_iload_3 (pc := 120) C dX1_carve_120 ?_
                    rw [show chB T a S true = cvB T a S w by rw [cvB, if_neg (by omega), hlw]]
                    refine g_call0 C (g_runV (pc := 121) C (ci := 1) (q := 0) (Cn := RX1) (TT := TX1) (N := 8) (As := [grf ad a, .int (zI (cvB T a S w)), .int (zI S), .int (zI o)]) (rest := []) (k_X1_makeSpan hV hP a (cvB T a S w) S o (by omega)) cs_X1_78.1 cs_X1_78.2 ⟨Nat.le_of_ble_eq_true rfl, Nat.le_of_ble_eq_true rfl⟩ (by omega) rfl rfl (Nat.le_of_ble_eq_true rfl) ⟨Nat.le_of_ble_eq_true rfl, Nat.le_of_ble_eq_true rfl⟩ dX1_carve_121) (g_pass C hE (fun E u h => absurd h3.1 h.1) (Nat.le_of_ble_eq_true rfl) (Nat.le_of_ble_eq_true rfl)) (fun v u h => ?_)
                    obtain ⟨-, rfl, q, rfl⟩ := h
                    refine g_eq (st2 := [.int (zI (T 0 2))]) rfl rfl rfl ?_
                    refine g_iret (pc := 124) C (Nat.le_of_ble_eq_true rfl) (Nat.le_of_ble_eq_true rfl) dX1_carve_124 ?_
                    exact ⟨by rw [exCv, if_neg (by omega), if_neg (fun h => h ⟨hs, ho1, hw⟩), if_pos ⟨h3.1, h3.2.1, h3.2.2, h65⟩], rfl, q, rfl⟩
                  · omega
                · refine g_throw_3 (pc := 68) C hE (text := "no free block of the size") (by decide) dX1_carve_68 dX1_carve_71 dX1_carve_72 dX1_carve_74 dX1_carve_77 ⟨Nat.le_of_ble_eq_true rfl, Nat.le_of_ble_eq_true rfl, Nat.le_of_ble_eq_true rfl, Nat.le_of_ble_eq_true rfl⟩ ⟨Nat.le_of_ble_eq_true rfl, Nat.le_of_ble_eq_true rfl⟩ ?_
                  exact dEx_of (c := 3) (by rw [exCv, if_neg (by omega), if_neg (fun h => h ⟨hs, ho1, hw⟩), if_neg (fun h => h.2.2.2 (by rw [hlw]; assumption))]) (by decide) rfl
          · refine g_throw_2 (pc := 26) C hE (text := "the way is not 0 to 2") (by decide) dX1_carve_26 dX1_carve_29 dX1_carve_30 dX1_carve_32 dX1_carve_35 ⟨Nat.le_of_ble_eq_true rfl, Nat.le_of_ble_eq_true rfl, Nat.le_of_ble_eq_true rfl, Nat.le_of_ble_eq_true rfl⟩ ⟨Nat.le_of_ble_eq_true rfl, Nat.le_of_ble_eq_true rfl⟩ ?_
            exact dEx_of (c := 2) (by rw [exCv, if_neg (by omega), if_pos (fun h => by have := h.2.2; omega)]) (by decide) rfl
noncomputable def exCa (T : MT) (a B S o : Int) : Nat := if fsp T a < 0 then 1 else if ¬ (szp S ∧ (0 ≤ o ∧ o < 8) ∧ (0 ≤ B ∧ B % S = 0)) then 2 else if T 0 2 < 60 ∧ S < T 16 a.toNat ∧ liiC T a ≤ 0 ∧ (T 15 a.toNat ≤ B ∧ B < T 15 a.toNat + T 16 a.toNat) ∧ cntC T a B S 60 ≤ 0 then 0 else 3
theorem k_X1_carveAt {l : Launch} {cs : CSt} {np : Nat} {ad : Nat → Nat} {T : MT} (hV : VC np T) (hA : VA T) (hP : VP T) (a B S o : Int) (ha : -2147483648 ≤ a ∧ a < 2147483648) (hB : -2147483648 ≤ B ∧ B < 2147483648) (hS : -2147483648 ≤ S ∧ S < 2147483648) (ho : -2147483648 ≤ o ∧ o < 2147483648) : KC l cs yX1_carveAt (Cond.code yX1_carveAt cX1_carveAt 6 (some .int) :: GW) 7 8 48 [.ref (ad 0), .int (zI a), .int (zI B), .int (zI S), .int (zI o)] np ad T (fun v u => exCa T a B S o = 0 ∧ v = some (.int (zI (T 0 2))) ∧ ∃ q, u = (np + 1, va_up ad np q, mkT T (T 0 2).toNat a B S o)) (dEx (exCa T a B S o) (np, ad, T)) := by
  have hV0 := hV.1
  refine KC_of (cc := cX1_carveAt) (nL := 6) (rt := (some .int)) (by decide) (by simp [grf_cat, cat_int, cat_ref]) (by simp) ?_
  intro p e s m args below meth c A C hE hin
  refine g_eq (lv2 := [some (.ref (ad 0)), some (.int (zI a)), some (.int (zI B)), some (.int (zI S)), some (.int (zI o)), none]) rfl rfl rfl ?_
  refine g_aload_0 (pc := 0) C dX1_carveAt_0 ?_
  refine g_iload_1 (pc := 1) C dX1_carveAt_1 ?_
  refine g_cY1Dv (pc := 2) C hE cs_X1_43 (k_X1_spanOf a (by omega) ha) ⟨Nat.le_of_ble_eq_true rfl, Nat.le_of_ble_eq_true rfl⟩ (by omega) (Nat.le_of_ble_eq_true rfl) ⟨Nat.le_of_ble_eq_true rfl, Nat.le_of_ble_eq_true rfl⟩ ⟨Nat.le_of_ble_eq_true rfl, Nat.le_of_ble_eq_true rfl⟩ (fun hx2 => ?_) dX1_carveAt_2 (fun hn2 => ?_)
  · have h2 := exq_ne hx2
    exact dEx_of (c := 1) (by rw [exCa, if_pos (by omega)]) (by decide) (by rw [exq_f h2])
  · have h2 := exq_eq hn2 (by decide)
    rcases fsp_or T a with ⟨q1, q2⟩ | ⟨q1, q2⟩
    · omega
    have hV1 := hV.s q2
    rw [q1]
    refine g_sstore_5 (pc := 5) C dX1_carveAt_5 ?_
    refine g_iload_3 (pc := 7) C dX1_carveAt_7 ?_
    refine g_cT1Dn (pc := 8) C hE cs_X1_47 (k_X1_checkSize S hS) ⟨Nat.le_of_ble_eq_true rfl, Nat.le_of_ble_eq_true rfl⟩ (Nat.le_of_ble_eq_true rfl) ⟨Nat.le_of_ble_eq_true rfl, Nat.le_of_ble_eq_true rfl⟩ ⟨Nat.le_of_ble_eq_true rfl, Nat.le_of_ble_eq_true rfl⟩ (fun hx8 => ?_) dX1_carveAt_8 (fun hn8 => ?_)
    · exact dEx_of (c := 2) (by rw [exCa, if_neg (by omega), if_pos (fun h => exq_ne hx8 h.1)]) (by decide) (by rw [exq_f (exq_ne hx8)])
    · have hs := exq_eq hn8 (by decide)
      have hsb := szp_bd hs
      refine g_iload_4 (pc := 11) C dX1_carveAt_11 ?_
      refine g_cT1Dn (pc := 13) C hE cs_X1_51 (k_X1_checkOwner o ho) ⟨Nat.le_of_ble_eq_true rfl, Nat.le_of_ble_eq_true rfl⟩ (Nat.le_of_ble_eq_true rfl) ⟨Nat.le_of_ble_eq_true rfl, Nat.le_of_ble_eq_true rfl⟩ ⟨Nat.le_of_ble_eq_true rfl, Nat.le_of_ble_eq_true rfl⟩ (fun hx13 => ?_) dX1_carveAt_13 (fun hn13 => ?_)
      · exact dEx_of (c := 2) (by rw [exCa, if_neg (by omega), if_pos (fun h => exq_ne hx13 h.2.1)]) (by decide) (by rw [exq_f (exq_ne hx13)])
      · have ho1 := exq_eq hn13 (by decide)
        refine g_iload_2 (pc := 16) C dX1_carveAt_16 ?_
        refine g_if_lt (pc := 17) (tgt := 28) C dX1_carveAt_17 (by decide) (by omega) (fun h17 => ?_) (fun h17 => ?_)
        · refine g_throw_2 (pc := 28) C hE (text := "the base is below 0 or no multiple of the size") (by decide) dX1_carveAt_28 dX1_carveAt_31 dX1_carveAt_32 dX1_carveAt_34 dX1_carveAt_37 ⟨Nat.le_of_ble_eq_true rfl, Nat.le_of_ble_eq_true rfl, Nat.le_of_ble_eq_true rfl, Nat.le_of_ble_eq_true rfl⟩ ⟨Nat.le_of_ble_eq_true rfl, Nat.le_of_ble_eq_true rfl⟩ ?_
          exact dEx_of (c := 2) (by rw [exCa, if_neg (by omega), if_pos (fun h => by have := h.2.2; omega)]) (by decide) rfl
        · have hm := Int.emod_nonneg B (b := S) (by omega)
          have hm2 := Int.emod_lt_of_pos B (b := S) (by omega)
          refine g_iload_2 (pc := 20) C dX1_carveAt_20 ?_
          refine g_iload_3 (pc := 21) C dX1_carveAt_21 ?_
          refine g_iconst (pc := 22) C dX1_carveAt_22 ?_
          refine g_isub (pc := 23) C dX1_carveAt_23 ?_
          refine g_iandz (pc := 24) C dX1_carveAt_24 (szp_mod (by omega) hs) ?_
          refine g_if_eq (pc := 25) (tgt := 38) C dX1_carveAt_25 (by decide) (by omega) (fun h25 => ?_) (fun h25 => ?_)
          · have hw : 0 ≤ B ∧ B % S = 0 := by omega
            have hcb := cntC_bd T a B S 60
            refine g_aload_0 (pc := 38) C dX1_carveAt_38 ?_
            refine g_sload_5 (pc := 39) C dX1_carveAt_39 ?_
            refine g_iload_3 (pc := 41) C dX1_carveAt_41 ?_
            refine g_cY2Dn (pc := 42) C hE cs_X1_61 (k_X1_checkCarving hV hA a S q2 hS) ⟨Nat.le_of_ble_eq_true rfl, Nat.le_of_ble_eq_true rfl⟩ (by omega) (Nat.le_of_ble_eq_true rfl) ⟨Nat.le_of_ble_eq_true rfl, Nat.le_of_ble_eq_true rfl⟩ ⟨Nat.le_of_ble_eq_true rfl, Nat.le_of_ble_eq_true rfl⟩ (fun hx42 => ?_) dX1_carveAt_42 (fun hn42 => ?_)
            · exact dEx_of (c := 3) (by rw [exCa, if_neg (by omega), if_neg (fun h => h ⟨hs, ho1, hw⟩), if_neg (fun h => exq_ne hx42 ⟨h.1, h.2.1, h.2.2.1⟩)]) (by decide) (by rw [exq_f (exq_ne hx42)])
            · have h3 := exq_eq hn42 (by decide)
              refine g_sload_5 (pc := 45) C dX1_carveAt_45 ?_
              refine g_iload_2 (pc := 47) C dX1_carveAt_47 ?_
              refine g_cS1Pv (pc := 48) C cs_X1_84 (k_X0_has a B (by omega) (by omega) hB) ⟨Nat.le_of_ble_eq_true rfl, Nat.le_of_ble_eq_true rfl⟩ (by omega) (Nat.le_of_ble_eq_true rfl) ⟨Nat.le_of_ble_eq_true rfl, Nat.le_of_ble_eq_true rfl⟩ dX1_carveAt_48 ?_
              refine g_if_eq (pc := 51) (tgt := 65) C dX1_carveAt_51 (by decide) (by split <;> omega) (fun h51 => ?_) (fun h51 => ?_)
              · have h52 : ¬ (T 15 a.toNat ≤ B ∧ B < T 15 a.toNat + T 16 a.toNat) := by split at h51 <;> omega
                refine g_throw_3 (pc := 65) C hE (text := "no such free block") (by decide) dX1_carveAt_65 dX1_carveAt_68 dX1_carveAt_69 dX1_carveAt_71 dX1_carveAt_74 ⟨Nat.le_of_ble_eq_true rfl, Nat.le_of_ble_eq_true rfl, Nat.le_of_ble_eq_true rfl, Nat.le_of_ble_eq_true rfl⟩ ⟨Nat.le_of_ble_eq_true rfl, Nat.le_of_ble_eq_true rfl⟩ ?_
                exact dEx_of (c := 3) (by rw [exCa, if_neg (by omega), if_neg (fun h => h ⟨hs, ho1, hw⟩), if_neg (fun h => h52 h.2.2.2.1)]) (by decide) rfl
              · have h52 : (T 15 a.toNat ≤ B ∧ B < T 15 a.toNat + T 16 a.toNat) := by split at h51 <;> omega
                refine g_aload_0 (pc := 54) C dX1_carveAt_54 ?_
                refine g_sload_5 (pc := 55) C dX1_carveAt_55 ?_
                refine g_iload_2 (pc := 57) C dX1_carveAt_57 ?_
                refine g_iload_3 (pc := 58) C dX1_carveAt_58 ?_
                refine g_cY3Pv (pc := 59) C cs_X1_88 (k_X1_countChildren hV a B S (by omega) (by omega)) ⟨Nat.le_of_ble_eq_true rfl, Nat.le_of_ble_eq_true rfl⟩ (by omega) (Nat.le_of_ble_eq_true rfl) ⟨Nat.le_of_ble_eq_true rfl, Nat.le_of_ble_eq_true rfl⟩ dX1_carveAt_59 ?_
                refine g_if_le (pc := 62) (tgt := 75) C dX1_carveAt_62 (by decide) (by omega) (fun h62 => ?_) (fun h62 => ?_)
                · refine g_aload_0 (pc := 75) C dX1_carveAt_75 ?_
                  refine g_sload_5 (pc := 76) C dX1_carveAt_76 ?_
                  refine g_iload_2 (pc := 78) C dX1_carveAt_78 ?_
                  refine g_iload_3 (pc := 79) C dX1_carveAt_79 ?_
                  refine g_iload_4 (pc := 80) C dX1_carveAt_80 ?_
                  refine g_call0 C (g_runV (pc := 82) C (ci := 1) (q := 0) (Cn := RX1) (TT := TX1) (N := 8) (As := [grf ad a, .int (zI B), .int (zI S), .int (zI o)]) (rest := []) (k_X1_makeSpan hV hP a B S o (by omega)) cs_X1_78.1 cs_X1_78.2 ⟨Nat.le_of_ble_eq_true rfl, Nat.le_of_ble_eq_true rfl⟩ (by omega) rfl rfl (Nat.le_of_ble_eq_true rfl) ⟨Nat.le_of_ble_eq_true rfl, Nat.le_of_ble_eq_true rfl⟩ dX1_carveAt_82) (g_pass C hE (fun E u h => absurd h3.1 h.1) (Nat.le_of_ble_eq_true rfl) (Nat.le_of_ble_eq_true rfl)) (fun v u h => ?_)
                  obtain ⟨-, rfl, q, rfl⟩ := h
                  refine g_eq (st2 := [.int (zI (T 0 2))]) rfl rfl rfl ?_
                  refine g_iret (pc := 85) C (Nat.le_of_ble_eq_true rfl) (Nat.le_of_ble_eq_true rfl) dX1_carveAt_85 ?_
                  exact ⟨by rw [exCa, if_neg (by omega), if_neg (fun h => h ⟨hs, ho1, hw⟩), if_pos ⟨h3.1, h3.2.1, h3.2.2, h52, by omega⟩], rfl, q, rfl⟩
                · refine g_throw_3 (pc := 65) C hE (text := "no such free block") (by decide) dX1_carveAt_65 dX1_carveAt_68 dX1_carveAt_69 dX1_carveAt_71 dX1_carveAt_74 ⟨Nat.le_of_ble_eq_true rfl, Nat.le_of_ble_eq_true rfl, Nat.le_of_ble_eq_true rfl, Nat.le_of_ble_eq_true rfl⟩ ⟨Nat.le_of_ble_eq_true rfl, Nat.le_of_ble_eq_true rfl⟩ ?_
                  exact dEx_of (c := 3) (by rw [exCa, if_neg (by omega), if_neg (fun h => h ⟨hs, ho1, hw⟩), if_neg (fun h => by have := h.2.2.2.2; omega)]) (by decide) rfl
          · refine g_throw_2 (pc := 28) C hE (text := "the base is below 0 or no multiple of the size") (by decide) dX1_carveAt_28 dX1_carveAt_31 dX1_carveAt_32 dX1_carveAt_34 dX1_carveAt_37 ⟨Nat.le_of_ble_eq_true rfl, Nat.le_of_ble_eq_true rfl, Nat.le_of_ble_eq_true rfl, Nat.le_of_ble_eq_true rfl⟩ ⟨Nat.le_of_ble_eq_true rfl, Nat.le_of_ble_eq_true rfl⟩ ?_
            exact dEx_of (c := 2) (by rw [exCa, if_neg (by omega), if_pos (fun h => by have := h.2.2; omega)]) (by decide) rfl
