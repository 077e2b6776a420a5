/-! the law's cases -/
/-- what a helper has answered, and the model is to answer as well -/
def okP (l : Launch) (cs : CSt) (y2 : MethodName) (ws : List Cond) (d : Nat) (args : List Value) (ad : Nat → Nat) (P : Int → Prop) : Option Value → St3 → Prop := fun v u => ∃ code : Int, v = some (.int (zI code)) ∧ (0 ≤ code ∧ code ≤ 3) ∧ 13 ≤ u.1 ∧ (u.2.1 0 = ad 0 ∧ u.2.1 4 = ad 4 ∧ u.2.1 12 = ad 12) ∧ KC l cs y2 ws d 0 0 (.ref (u.2.1 4) :: args) u.1 u.2.1 u.2.2 (fun v2 u2 => ∃ (r : Int) (U : MT), v2 = some (.int (zI r)) ∧ (-2147483648 ≤ r ∧ r < 2147483648 ∧ P r) ∧ u2 = (u.1, u.2.1, U) ∧ U 4 0 = code ∧ (code = 0 → U 12 0 = r) ∧ Inv u.1 U) (fun _ _ => False)
theorem cx_L_83 : GoodIn GW (va_wsS RL 83 yL_carve (Cond.codeWith yL_carve cL_carve 7 (some .int) [(0, 14, 17, 13), (0, 14, 21, 15), (0, 14, 25, 17)] :: GW)) ∧ (yL_carve.cls ≠ "java/lang/invoke/MethodHandle" ∧ yL_carve.cls ≠ "java/lang/invoke/VarHandle" ∧ (parseMethodDescriptor yL_carve.desc).map (fun d => d.parameters.length) = some 6) := ⟨GW_X ml_L_83 mt_L_carve ini_PrefixYardLaw mc_L_carve, by decide +kernel⟩
theorem lw_carve {l : Launch} {p : Program} {e : Env} {s : State} {m : MethodId} {below : List Frame} {meth : Method} {c : Code} {cs : CSt} {b L : Nat} {xs : Nat → Int32} {k n np : Nat} {ad : Nat → Nat} {T : MT} {i : Int} {z5 z6 : Option Value} (C : gC p l s m #[Value.ref b] meth c cs (fun q => s.heap.size ≤ q) 7 cL_law RL ret) (hX : scP b L xs (fun q => s.heap.size ≤ q) s) (hL : L ≤ 2560) (hi : 0 ≤ i ∧ i + 5 ≤ L) (hk : k ≤ 5000 ∧ n ≤ 60000) (h13 : 13 ≤ np) {PRh : Option Value → St3 → Prop} (Kh : KC l cs yL_carve (Cond.codeWith yL_carve cL_carve 7 (some .int) [(0, 14, 17, 13), (0, 14, 21, 15), (0, 14, 25, 17)] :: GW) 8 8 48 [.ref (ad 0), .int (zI (xs (i + 1).toNat).toInt), .int (zI (xs (i + 2).toNat).toInt), .int (zI (xs (i + 3).toNat).toInt), .int (zI (xs (i + 4).toNat).toInt), .ref (ad 12)] np ad T PRh (fun _ _ => False)) (hp : ∀ v u, PRh v u → okP l cs yX2_carve (Cond.code yX2_carve cX2_carve 8 (some .int) :: GW) 4 [.int (zI (xs (i + 1).toNat).toInt), .int (zI (xs (i + 2).toNat).toInt), .int (zI (xs (i + 3).toNat).toInt), .int (zI (xs (i + 4).toNat).toInt)] ad (fun _ => True) v u) (kk : ∀ (np' : Nat) (ad' : Nat → Nat) (U : MT) (r code : Int), 13 ≤ np' → Inv np' U → GG p l e room_1 s m #[Value.ref b] below meth c (lw_Z below #[Value.ref b] s) cs (fun q => s.heap.size ≤ q) 7 (k + 8) (n + 48) np' ad' U 1447 [some (.ref b), some (.ref (ad' 0)), some (.ref (ad' 4)), some (.ref (ad' 12)), some (.int (zI i)), some (.int (zI code)), some (.int (zI r))] []) : GG p l e room_1 s m #[Value.ref b] below meth c (lw_Z below #[Value.ref b] s) cs (fun q => s.heap.size ≤ q) 7 k n np ad T 148 [some (.ref b), some (.ref (ad 0)), some (.ref (ad 4)), some (.ref (ad 12)), some (.int (zI i)), z5, z6] [] := by
  refine g_aload_1 (pc := 148) C dL_law_148 ?_
  refine g_aload_0 (pc := 149) C dL_law_149 ?_
  refine g_iload_4 (pc := 150) C dL_law_150 ?_
  refine g_iconst (pc := 152) C dL_law_152 ?_
  refine g_iadd (pc := 153) C dL_law_153 ?_
  refine g_sld (pc := 154) C hX hL (by omega) dL_law_154 ?_
  refine g_aload_0 (pc := 155) C dL_law_155 ?_
  refine g_iload_4 (pc := 156) C dL_law_156 ?_
  refine g_iconst (pc := 158) C dL_law_158 ?_
  refine g_iadd (pc := 159) C dL_law_159 ?_
  refine g_sld (pc := 160) C hX hL (by omega) dL_law_160 ?_
  refine g_aload_0 (pc := 161) C dL_law_161 ?_
  refine g_iload_4 (pc := 162) C dL_law_162 ?_
  refine g_iconst (pc := 164) C dL_law_164 ?_
  refine g_iadd (pc := 165) C dL_law_165 ?_
  refine g_sld (pc := 166) C hX hL (by omega) dL_law_166 ?_
  refine g_aload_0 (pc := 167) C dL_law_167 ?_
  refine g_iload_4 (pc := 168) C dL_law_168 ?_
  refine g_iconst (pc := 170) C dL_law_170 ?_
  refine g_iadd (pc := 171) C dL_law_171 ?_
  refine g_sld (pc := 172) C hX hL (by omega) dL_law_172 ?_
  refine g_aload_3 (pc := 173) C dL_law_173 ?_
  refine g_call0 C (g_runX (pc := 174) C (As := [.ref (ad 0), .int (zI (xs (i + 1).toNat).toInt), .int (zI (xs (i + 2).toNat).toInt), .int (zI (xs (i + 3).toNat).toInt), .int (zI (xs (i + 4).toNat).toInt), .ref (ad 12)]) (rest := []) Kh cx_L_83.1 cx_L_83.2 ⟨Nat.le_of_ble_eq_true rfl, Nat.le_of_ble_eq_true rfl⟩ (Nat.le_of_ble_eq_true rfl) ⟨(by show k + 8 ≤ 601024; omega), (by show n + 48 ≤ 7293034; omega)⟩ dL_law_174) (fun E u h => h.elim) (fun v u h => ?_)
  obtain ⟨code, rfl, hc, h13b, ⟨q0, q4, q12⟩, Km⟩ := hp v u h
  obtain ⟨np', ad', T'⟩ := u
  dsimp only at h13b q0 q4 q12 Km
  refine g_eq (lv2 := [some (.ref b), some (.ref (ad' 0)), some (.ref (ad' 4)), some (.ref (ad' 12)), some (.int (zI i)), z5, z6]) (st2 := [.int (zI code)]) rfl (by rw [q0, q4, q12]) rfl ?_
  refine g_istore_5 (pc := 177) C dL_law_177 ?_
  refine g_aload_2 (pc := 179) C dL_law_179 ?_
  refine g_aload_0 (pc := 180) C dL_law_180 ?_
  refine g_iload_4 (pc := 181) C dL_law_181 ?_
  refine g_iconst (pc := 183) C dL_law_183 ?_
  refine g_iadd (pc := 184) C dL_law_184 ?_
  refine g_sld (pc := 185) C hX hL (by omega) dL_law_185 ?_
  refine g_aload_0 (pc := 186) C dL_law_186 ?_
  refine g_iload_4 (pc := 187) C dL_law_187 ?_
  refine g_iconst (pc := 189) C dL_law_189 ?_
  refine g_iadd (pc := 190) C dL_law_190 ?_
  refine g_sld (pc := 191) C hX hL (by omega) dL_law_191 ?_
  refine g_aload_0 (pc := 192) C dL_law_192 ?_
  refine g_iload_4 (pc := 193) C dL_law_193 ?_
  refine g_iconst (pc := 195) C dL_law_195 ?_
  refine g_iadd (pc := 196) C dL_law_196 ?_
  refine g_sld (pc := 197) C hX hL (by omega) dL_law_197 ?_
  refine g_aload_0 (pc := 198) C dL_law_198 ?_
  refine g_iload_4 (pc := 199) C dL_law_199 ?_
  refine g_iconst (pc := 201) C dL_law_201 ?_
  refine g_iadd (pc := 202) C dL_law_202 ?_
  refine g_sld (pc := 203) C hX hL (by omega) dL_law_203 ?_
  refine g_call0 C (g_runV (pc := 204) C (ci := 2) (q := 4) (Cn := RX2) (TT := TX2) (N := 11) (As := [.int (zI (xs (i + 1).toNat).toInt), .int (zI (xs (i + 2).toNat).toInt), .int (zI (xs (i + 3).toNat).toInt), .int (zI (xs (i + 4).toNat).toInt)]) (rest := []) Km cs_L_88.1 cs_L_88.2 ⟨Nat.le_of_ble_eq_true rfl, Nat.le_of_ble_eq_true rfl⟩ (show 4 < np' by omega) rfl rfl (Nat.le_of_ble_eq_true rfl) ⟨(by show k + 8 + 0 ≤ 601024; omega), (by show n + 48 + 0 ≤ 7293034; omega)⟩ dL_law_204) (fun E u h => h.elim) (fun v2 u2 h2 => ?_)
  obtain ⟨r, U, rfl, hr, rfl, e40, e12, hI⟩ := h2
  refine g_eq (st2 := [.int (zI r)]) rfl rfl rfl ?_
  dsimp only
  refine g_istore_6 (pc := 207) C dL_law_207 ?_
  refine g_aload_2 (pc := 209) C dL_law_209 ?_
  refine g_cM0Pv (pc := 210) C cs_L_89 (k_X2_thrown (by omega)) ⟨Nat.le_of_ble_eq_true rfl, Nat.le_of_ble_eq_true rfl⟩ (by omega) (Nat.le_of_ble_eq_true rfl) ⟨(by show k + 8 + 0 + 0 ≤ 601024; omega), (by show n + 48 + 0 + 0 ≤ 7293034; omega)⟩ dL_law_210 ?_
  rw [e40]
  refine g_iload_5 (pc := 213) C dL_law_213 ?_
  refine g_icmp_eq (pc := 215) (tgt := 220) C dL_law_215 (by decide) (by omega) (by omega) (fun _ => ?_) (fun h215 => absurd h215 (by omega))
  refine g_iload_5 (pc := 220) C dL_law_220 ?_
  by_cases h0 : code = 0
  · refine g_if_ne (pc := 222) (tgt := 237) C dL_law_222 (by decide) (by omega) (fun h222 => absurd h222 (by omega)) (fun _ => ?_)
    refine g_aload_3 (pc := 225) C dL_law_225 ?_
    refine g_iconst (pc := 226) C dL_law_226 ?_
    refine g_ald_12 (pc := 227) C (by omega) dL_law_227 ?_
    refine g_iload_6 (pc := 228) C dL_law_228 ?_
    refine g_i2l (pc := 230) C dL_law_230 (by omega) ?_
    refine g_lcmp (pc := 231) C (by rw [e12 h0]) dL_law_231 ?_
    refine g_if_eq (pc := 232) (tgt := 237) C dL_law_232 (by decide) (by omega) (fun _ => ?_) (fun h232 => absurd h232 (by omega))
    refine g_goto (pc := 237) (tgt := 1447) C dL_law_237 (by decide) ?_
    exact kk np' ad' U r code h13b hI
  · refine g_if_ne (pc := 222) (tgt := 237) C dL_law_222 (by decide) (by omega) (fun _ => ?_) (fun h222 => absurd h222 (by omega))
    refine g_goto (pc := 237) (tgt := 1447) C dL_law_237 (by decide) ?_
    exact kk np' ad' U r code h13b hI

theorem cx_L_93 : GoodIn GW (va_wsS RL 93 yL_carveAt (Cond.codeWith yL_carveAt cL_carveAt 7 (some .int) [(0, 14, 17, 13), (0, 14, 21, 15), (0, 14, 25, 17)] :: GW)) ∧ (yL_carveAt.cls ≠ "java/lang/invoke/MethodHandle" ∧ yL_carveAt.cls ≠ "java/lang/invoke/VarHandle" ∧ (parseMethodDescriptor yL_carveAt.desc).map (fun d => d.parameters.length) = some 6) := ⟨GW_X ml_L_93 mt_L_carveAt ini_PrefixYardLaw mc_L_carveAt, by decide +kernel⟩
theorem lw_carveAt {l : Launch} {p : Program} {e : Env} {s : State} {m : MethodId} {below : List Frame} {meth : Method} {c : Code} {cs : CSt} {b L : Nat} {xs : Nat → Int32} {k n np : Nat} {ad : Nat → Nat} {T : MT} {i : Int} {z5 z6 : Option Value} (C : gC p l s m #[Value.ref b] meth c cs (fun q => s.heap.size ≤ q) 7 cL_law RL ret) (hX : scP b L xs (fun q => s.heap.size ≤ q) s) (hL : L ≤ 2560) (hi : 0 ≤ i ∧ i + 5 ≤ L) (hk : k ≤ 5000 ∧ n ≤ 60000) (h13 : 13 ≤ np) {PRh : Option Value → St3 → Prop} (Kh : KC l cs yL_carveAt (Cond.codeWith yL_carveAt cL_carveAt 7 (some .int) [(0, 14, 17, 13), (0, 14, 21, 15), (0, 14, 25, 17)] :: GW) 8 8 48 [.ref (ad 0), .int (zI (xs (i + 1).toNat).toInt), .int (zI (xs (i + 2).toNat).toInt), .int (zI (xs (i + 3).toNat).toInt), .int (zI (xs (i + 4).toNat).toInt), .ref (ad 12)] np ad T PRh (fun _ _ => False)) (hp : ∀ v u, PRh v u → okP l cs yX2_carveAt (Cond.code yX2_carveAt cX2_carveAt 7 (some .int) :: GW) 4 [.int (zI (xs (i + 1).toNat).toInt), .int (zI (xs (i + 2).toNat).toInt), .int (zI (xs (i + 3).toNat).toInt), .int (zI (xs (i + 4).toNat).toInt)] ad (fun _ => True) v u) (kk : ∀ (np' : Nat) (ad' : Nat → Nat) (U : MT) (r code : Int), 13 ≤ np' → Inv np' U → GG p l e room_1 s m #[Value.ref b] below meth c (lw_Z below #[Value.ref b] s) cs (fun q => s.heap.size ≤ q) 7 (k + 8) (n + 48) np' ad' U 1447 [some (.ref b), some (.ref (ad' 0)), some (.ref (ad' 4)), some (.ref (ad' 12)), some (.int (zI i)), some (.int (zI code)), some (.int (zI r))] []) : GG p l e room_1 s m #[Value.ref b] below meth c (lw_Z below #[Value.ref b] s) cs (fun q => s.heap.size ≤ q) 7 k n np ad T 240 [some (.ref b), some (.ref (ad 0)), some (.ref (ad 4)), some (.ref (ad 12)), some (.int (zI i)), z5, z6] [] := by
  refine g_aload_1 (pc := 240) C dL_law_240 ?_
  refine g_aload_0 (pc := 241) C dL_law_241 ?_
  refine g_iload_4 (pc := 242) C dL_law_242 ?_
  refine g_iconst (pc := 244) C dL_law_244 ?_
  refine g_iadd (pc := 245) C dL_law_245 ?_
  refine g_sld (pc := 246) C hX hL (by omega) dL_law_246 ?_
  refine g_aload_0 (pc := 247) C dL_law_247 ?_
  refine g_iload_4 (pc := 248) C dL_law_248 ?_
  refine g_iconst (pc := 250) C dL_law_250 ?_
  refine g_iadd (pc := 251) C dL_law_251 ?_
  refine g_sld (pc := 252) C hX hL (by omega) dL_law_252 ?_
  refine g_aload_0 (pc := 253) C dL_law_253 ?_
  refine g_iload_4 (pc := 254) C dL_law_254 ?_
  refine g_iconst (pc := 256) C dL_law_256 ?_
  refine g_iadd (pc := 257) C dL_law_257 ?_
  refine g_sld (pc := 258) C hX hL (by omega) dL_law_258 ?_
  refine g_aload_0 (pc := 259) C dL_law_259 ?_
  refine g_iload_4 (pc := 260) C dL_law_260 ?_
  refine g_iconst (pc := 262) C dL_law_262 ?_
  refine g_iadd (pc := 263) C dL_law_263 ?_
  refine g_sld (pc := 264) C hX hL (by omega) dL_law_264 ?_
  refine g_aload_3 (pc := 265) C dL_law_265 ?_
  refine g_call0 C (g_runX (pc := 266) C (As := [.ref (ad 0), .int (zI (xs (i + 1).toNat).toInt), .int (zI (xs (i + 2).toNat).toInt), .int (zI (xs (i + 3).toNat).toInt), .int (zI (xs (i + 4).toNat).toInt), .ref (ad 12)]) (rest := []) Kh cx_L_93.1 cx_L_93.2 ⟨Nat.le_of_ble_eq_true rfl, Nat.le_of_ble_eq_true rfl⟩ (Nat.le_of_ble_eq_true rfl) ⟨(by show k + 8 ≤ 601024; omega), (by show n + 48 ≤ 7293034; omega)⟩ dL_law_266) (fun E u h => h.elim) (fun v u h => ?_)
  obtain ⟨code, rfl, hc, h13b, ⟨q0, q4, q12⟩, Km⟩ := hp v u h
  obtain ⟨np', ad', T'⟩ := u
  dsimp only at h13b q0 q4 q12 Km
  refine g_eq (lv2 := [some (.ref b), some (.ref (ad' 0)), some (.ref (ad' 4)), some (.ref (ad' 12)), some (.int (zI i)), z5, z6]) (st2 := [.int (zI code)]) rfl (by rw [q0, q4, q12]) rfl ?_
  refine g_istore_5 (pc := 269) C dL_law_269 ?_
  refine g_aload_2 (pc := 271) C dL_law_271 ?_
  refine g_aload_0 (pc := 272) C dL_law_272 ?_
  refine g_iload_4 (pc := 273) C dL_law_273 ?_
  refine g_iconst (pc := 275) C dL_law_275 ?_
  refine g_iadd (pc := 276) C dL_law_276 ?_
  refine g_sld (pc := 277) C hX hL (by omega) dL_law_277 ?_
  refine g_aload_0 (pc := 278) C dL_law_278 ?_
  refine g_iload_4 (pc := 279) C dL_law_279 ?_
  refine g_iconst (pc := 281) C dL_law_281 ?_
  refine g_iadd (pc := 282) C dL_law_282 ?_
  refine g_sld (pc := 283) C hX hL (by omega) dL_law_283 ?_
  refine g_aload_0 (pc := 284) C dL_law_284 ?_
  refine g_iload_4 (pc := 285) C dL_law_285 ?_
  refine g_iconst (pc := 287) C dL_law_287 ?_
  refine g_iadd (pc := 288) C dL_law_288 ?_
  refine g_sld (pc := 289) C hX hL (by omega) dL_law_289 ?_
  refine g_aload_0 (pc := 290) C dL_law_290 ?_
  refine g_iload_4 (pc := 291) C dL_law_291 ?_
  refine g_iconst (pc := 293) C dL_law_293 ?_
  refine g_iadd (pc := 294) C dL_law_294 ?_
  refine g_sld (pc := 295) C hX hL (by omega) dL_law_295 ?_
  refine g_call0 C (g_runV (pc := 296) C (ci := 2) (q := 4) (Cn := RX2) (TT := TX2) (N := 11) (As := [.int (zI (xs (i + 1).toNat).toInt), .int (zI (xs (i + 2).toNat).toInt), .int (zI (xs (i + 3).toNat).toInt), .int (zI (xs (i + 4).toNat).toInt)]) (rest := []) Km cs_L_95.1 cs_L_95.2 ⟨Nat.le_of_ble_eq_true rfl, Nat.le_of_ble_eq_true rfl⟩ (show 4 < np' by omega) rfl rfl (Nat.le_of_ble_eq_true rfl) ⟨(by show k + 8 + 0 ≤ 601024; omega), (by show n + 48 + 0 ≤ 7293034; omega)⟩ dL_law_296) (fun E u h => h.elim) (fun v2 u2 h2 => ?_)
  obtain ⟨r, U, rfl, hr, rfl, e40, e12, hI⟩ := h2
  refine g_eq (st2 := [.int (zI r)]) rfl rfl rfl ?_
  dsimp only
  refine g_istore_6 (pc := 299) C dL_law_299 ?_
  refine g_aload_2 (pc := 301) C dL_law_301 ?_
  refine g_cM0Pv (pc := 302) C cs_L_89 (k_X2_thrown (by omega)) ⟨Nat.le_of_ble_eq_true rfl, Nat.le_of_ble_eq_true rfl⟩ (by omega) (Nat.le_of_ble_eq_true rfl) ⟨(by show k + 8 + 0 + 0 ≤ 601024; omega), (by show n + 48 + 0 + 0 ≤ 7293034; omega)⟩ dL_law_302 ?_
  rw [e40]
  refine g_iload_5 (pc := 305) C dL_law_305 ?_
  refine g_icmp_eq (pc := 307) (tgt := 312) C dL_law_307 (by decide) (by omega) (by omega) (fun _ => ?_) (fun h307 => absurd h307 (by omega))
  refine g_iload_5 (pc := 312) C dL_law_312 ?_
  by_cases h0 : code = 0
  · refine g_if_ne (pc := 314) (tgt := 329) C dL_law_314 (by decide) (by omega) (fun h314 => absurd h314 (by omega)) (fun _ => ?_)
    refine g_aload_3 (pc := 317) C dL_law_317 ?_
    refine g_iconst (pc := 318) C dL_law_318 ?_
    refine g_ald_12 (pc := 319) C (by omega) dL_law_319 ?_
    refine g_iload_6 (pc := 320) C dL_law_320 ?_
    refine g_i2l (pc := 322) C dL_law_322 (by omega) ?_
    refine g_lcmp (pc := 323) C (by rw [e12 h0]) dL_law_323 ?_
    refine g_if_eq (pc := 324) (tgt := 329) C dL_law_324 (by decide) (by omega) (fun _ => ?_) (fun h324 => absurd h324 (by omega))
    refine g_goto (pc := 329) (tgt := 1447) C dL_law_329 (by decide) ?_
    exact kk np' ad' U r code h13b hI
  · refine g_if_ne (pc := 314) (tgt := 329) C dL_law_314 (by decide) (by omega) (fun _ => ?_) (fun h314 => absurd h314 (by omega))
    refine g_goto (pc := 329) (tgt := 1447) C dL_law_329 (by decide) ?_
    exact kk np' ad' U r code h13b hI

theorem cx_L_96 : GoodIn GW (va_wsS RL 96 yL_remove (Cond.codeWith yL_remove cL_remove 4 (some .int) [(0, 9, 12, 13), (0, 9, 15, 17)] :: GW)) ∧ (yL_remove.cls ≠ "java/lang/invoke/MethodHandle" ∧ yL_remove.cls ≠ "java/lang/invoke/VarHandle" ∧ (parseMethodDescriptor yL_remove.desc).map (fun d => d.parameters.length) = some 3) := ⟨GW_X ml_L_96 mt_L_remove ini_PrefixYardLaw mc_L_remove, by decide +kernel⟩
theorem lw_remove {l : Launch} {p : Program} {e : Env} {s : State} {m : MethodId} {below : List Frame} {meth : Method} {c : Code} {cs : CSt} {b L : Nat} {xs : Nat → Int32} {k n np : Nat} {ad : Nat → Nat} {T : MT} {i : Int} {z5 z6 : Option Value} (C : gC p l s m #[Value.ref b] meth c cs (fun q => s.heap.size ≤ q) 7 cL_law RL ret) (hX : scP b L xs (fun q => s.heap.size ≤ q) s) (hL : L ≤ 2560) (hi : 0 ≤ i ∧ i + 5 ≤ L) (hk : k ≤ 5000 ∧ n ≤ 60000) (h13 : 13 ≤ np) {PRh : Option Value → St3 → Prop} (Kh : KC l cs yL_remove (Cond.codeWith yL_remove cL_remove 4 (some .int) [(0, 9, 12, 13), (0, 9, 15, 17)] :: GW) 8 8 48 [.ref (ad 0), .int (zI (xs (i + 1).toNat).toInt), .ref (ad 12)] np ad T PRh (fun _ _ => False)) (hp : ∀ v u, PRh v u → okP l cs yX2_remove (Cond.code yX2_remove cX2_remove 3 (some .int) :: GW) 2 [.int (zI (xs (i + 1).toNat).toInt)] ad (fun _ => True) v u) (kk : ∀ (np' : Nat) (ad' : Nat → Nat) (U : MT) (r code : Int), 13 ≤ np' → Inv np' U → GG p l e room_1 s m #[Value.ref b] below meth c (lw_Z below #[Value.ref b] s) cs (fun q => s.heap.size ≤ q) 7 (k + 8) (n + 48) np' ad' U 1447 [some (.ref b), some (.ref (ad' 0)), some (.ref (ad' 4)), some (.ref (ad' 12)), some (.int (zI i)), some (.int (zI code)), some (.int (zI r))] []) : GG p l e room_1 s m #[Value.ref b] below meth c (lw_Z below #[Value.ref b] s) cs (fun q => s.heap.size ≤ q) 7 k n np ad T 332 [some (.ref b), some (.ref (ad 0)), some (.ref (ad 4)), some (.ref (ad 12)), some (.int (zI i)), z5, z6] [] := by
  refine g_aload_1 (pc := 332) C dL_law_332 ?_
  refine g_aload_0 (pc := 333) C dL_law_333 ?_
  refine g_iload_4 (pc := 334) C dL_law_334 ?_
  refine g_iconst (pc := 336) C dL_law_336 ?_
  refine g_iadd (pc := 337) C dL_law_337 ?_
  refine g_sld (pc := 338) C hX hL (by omega) dL_law_338 ?_
  refine g_aload_3 (pc := 339) C dL_law_339 ?_
  refine g_call0 C (g_runX (pc := 340) C (As := [.ref (ad 0), .int (zI (xs (i + 1).toNat).toInt), .ref (ad 12)]) (rest := []) Kh cx_L_96.1 cx_L_96.2 ⟨Nat.le_of_ble_eq_true rfl, Nat.le_of_ble_eq_true rfl⟩ (Nat.le_of_ble_eq_true rfl) ⟨(by show k + 8 ≤ 601024; omega), (by show n + 48 ≤ 7293034; omega)⟩ dL_law_340) (fun E u h => h.elim) (fun v u h => ?_)
  obtain ⟨code, rfl, hc, h13b, ⟨q0, q4, q12⟩, Km⟩ := hp v u h
  obtain ⟨np', ad', T'⟩ := u
  dsimp only at h13b q0 q4 q12 Km
  refine g_eq (lv2 := [some (.ref b), some (.ref (ad' 0)), some (.ref (ad' 4)), some (.ref (ad' 12)), some (.int (zI i)), z5, z6]) (st2 := [.int (zI code)]) rfl (by rw [q0, q4, q12]) rfl ?_
  refine g_istore_5 (pc := 343) C dL_law_343 ?_
  refine g_aload_2 (pc := 345) C dL_law_345 ?_
  refine g_aload_0 (pc := 346) C dL_law_346 ?_
  refine g_iload_4 (pc := 347) C dL_law_347 ?_
  refine g_iconst (pc := 349) C dL_law_349 ?_
  refine g_iadd (pc := 350) C dL_law_350 ?_
  refine g_sld (pc := 351) C hX hL (by omega) dL_law_351 ?_
  refine g_call0 C (g_runV (pc := 352) C (ci := 2) (q := 4) (Cn := RX2) (TT := TX2) (N := 11) (As := [.int (zI (xs (i + 1).toNat).toInt)]) (rest := []) Km cs_L_99.1 cs_L_99.2 ⟨Nat.le_of_ble_eq_true rfl, Nat.le_of_ble_eq_true rfl⟩ (show 4 < np' by omega) rfl rfl (Nat.le_of_ble_eq_true rfl) ⟨(by show k + 8 + 0 ≤ 601024; omega), (by show n + 48 + 0 ≤ 7293034; omega)⟩ dL_law_352) (fun E u h => h.elim) (fun v2 u2 h2 => ?_)
  obtain ⟨r, U, rfl, hr, rfl, e40, e12, hI⟩ := h2
  refine g_eq (st2 := [.int (zI r)]) rfl rfl rfl ?_
  dsimp only
  refine g_istore_6 (pc := 355) C dL_law_355 ?_
  refine g_aload_2 (pc := 357) C dL_law_357 ?_
  refine g_cM0Pv (pc := 358) C cs_L_89 (k_X2_thrown (by omega)) ⟨Nat.le_of_ble_eq_true rfl, Nat.le_of_ble_eq_true rfl⟩ (by omega) (Nat.le_of_ble_eq_true rfl) ⟨(by show k + 8 + 0 + 0 ≤ 601024; omega), (by show n + 48 + 0 + 0 ≤ 7293034; omega)⟩ dL_law_358 ?_
  rw [e40]
  refine g_iload_5 (pc := 361) C dL_law_361 ?_
  refine g_icmp_eq (pc := 363) (tgt := 368) C dL_law_363 (by decide) (by omega) (by omega) (fun _ => ?_) (fun h363 => absurd h363 (by omega))
  refine g_iload_5 (pc := 368) C dL_law_368 ?_
  by_cases h0 : code = 0
  · refine g_if_ne (pc := 370) (tgt := 385) C dL_law_370 (by decide) (by omega) (fun h370 => absurd h370 (by omega)) (fun _ => ?_)
    refine g_aload_3 (pc := 373) C dL_law_373 ?_
    refine g_iconst (pc := 374) C dL_law_374 ?_
    refine g_ald_12 (pc := 375) C (by omega) dL_law_375 ?_
    refine g_iload_6 (pc := 376) C dL_law_376 ?_
    refine g_i2l (pc := 378) C dL_law_378 (by omega) ?_
    refine g_lcmp (pc := 379) C (by rw [e12 h0]) dL_law_379 ?_
    refine g_if_eq (pc := 380) (tgt := 385) C dL_law_380 (by decide) (by omega) (fun _ => ?_) (fun h380 => absurd h380 (by omega))
    refine g_goto (pc := 385) (tgt := 1447) C dL_law_385 (by decide) ?_
    exact kk np' ad' U r code h13b hI
  · refine g_if_ne (pc := 370) (tgt := 385) C dL_law_370 (by decide) (by omega) (fun _ => ?_) (fun h370 => absurd h370 (by omega))
    refine g_goto (pc := 385) (tgt := 1447) C dL_law_385 (by decide) ?_
    exact kk np' ad' U r code h13b hI

theorem cx_L_100 : GoodIn GW (va_wsS RL 100 yL_grow (Cond.codeWith yL_grow cL_grow 4 (some .int) [(0, 9, 12, 13), (0, 9, 15, 17)] :: GW)) ∧ (yL_grow.cls ≠ "java/lang/invoke/MethodHandle" ∧ yL_grow.cls ≠ "java/lang/invoke/VarHandle" ∧ (parseMethodDescriptor yL_grow.desc).map (fun d => d.parameters.length) = some 3) := ⟨GW_X ml_L_100 mt_L_grow ini_PrefixYardLaw mc_L_grow, by decide +kernel⟩
theorem lw_grow {l : Launch} {p : Program} {e : Env} {s : State} {m : MethodId} {below : List Frame} {meth : Method} {c : Code} {cs : CSt} {b L : Nat} {xs : Nat → Int32} {k n np : Nat} {ad : Nat → Nat} {T : MT} {i : Int} {z5 z6 : Option Value} (C : gC p l s m #[Value.ref b] meth c cs (fun q => s.heap.size ≤ q) 7 cL_law RL ret) (hX : scP b L xs (fun q => s.heap.size ≤ q) s) (hL : L ≤ 2560) (hi : 0 ≤ i ∧ i + 5 ≤ L) (hk : k ≤ 5000 ∧ n ≤ 60000) (h13 : 13 ≤ np) {PRh : Option Value → St3 → Prop} (Kh : KC l cs yL_grow (Cond.codeWith yL_grow cL_grow 4 (some .int) [(0, 9, 12, 13), (0, 9, 15, 17)] :: GW) 8 8 48 [.ref (ad 0), .int (zI (xs (i + 1).toNat).toInt), .ref (ad 12)] np ad T PRh (fun _ _ => False)) (hp : ∀ v u, PRh v u → okP l cs yX2_grow (Cond.code yX2_grow cX2_grow 3 (some .int) :: GW) 2 [.int (zI (xs (i + 1).toNat).toInt)] ad (fun _ => True) v u) (kk : ∀ (np' : Nat) (ad' : Nat → Nat) (U : MT) (r code : Int), 13 ≤ np' → Inv np' U → GG p l e room_1 s m #[Value.ref b] below meth c (lw_Z below #[Value.ref b] s) cs (fun q => s.heap.size ≤ q) 7 (k + 8) (n + 48) np' ad' U 1447 [some (.ref b), some (.ref (ad' 0)), some (.ref (ad' 4)), some (.ref (ad' 12)), some (.int (zI i)), some (.int (zI code)), some (.int (zI r))] []) : GG p l e room_1 s m #[Value.ref b] below meth c (lw_Z below #[Value.ref b] s) cs (fun q => s.heap.size ≤ q) 7 k n np ad T 388 [some (.ref b), some (.ref (ad 0)), some (.ref (ad 4)), some (.ref (ad 12)), some (.int (zI i)), z5, z6] [] := by
  refine g_aload_1 (pc := 388) C dL_law_388 ?_
  refine g_aload_0 (pc := 389) C dL_law_389 ?_
  refine g_iload_4 (pc := 390) C dL_law_390 ?_
  refine g_iconst (pc := 392) C dL_law_392 ?_
  refine g_iadd (pc := 393) C dL_law_393 ?_
  refine g_sld (pc := 394) C hX hL (by omega) dL_law_394 ?_
  refine g_aload_3 (pc := 395) C dL_law_395 ?_
  refine g_call0 C (g_runX (pc := 396) C (As := [.ref (ad 0), .int (zI (xs (i + 1).toNat).toInt), .ref (ad 12)]) (rest := []) Kh cx_L_100.1 cx_L_100.2 ⟨Nat.le_of_ble_eq_true rfl, Nat.le_of_ble_eq_true rfl⟩ (Nat.le_of_ble_eq_true rfl) ⟨(by show k + 8 ≤ 601024; omega), (by show n + 48 ≤ 7293034; omega)⟩ dL_law_396) (fun E u h => h.elim) (fun v u h => ?_)
  obtain ⟨code, rfl, hc, h13b, ⟨q0, q4, q12⟩, Km⟩ := hp v u h
  obtain ⟨np', ad', T'⟩ := u
  dsimp only at h13b q0 q4 q12 Km
  refine g_eq (lv2 := [some (.ref b), some (.ref (ad' 0)), some (.ref (ad' 4)), some (.ref (ad' 12)), some (.int (zI i)), z5, z6]) (st2 := [.int (zI code)]) rfl (by rw [q0, q4, q12]) rfl ?_
  refine g_istore_5 (pc := 399) C dL_law_399 ?_
  refine g_aload_2 (pc := 401) C dL_law_401 ?_
  refine g_aload_0 (pc := 402) C dL_law_402 ?_
  refine g_iload_4 (pc := 403) C dL_law_403 ?_
  refine g_iconst (pc := 405) C dL_law_405 ?_
  refine g_iadd (pc := 406) C dL_law_406 ?_
  refine g_sld (pc := 407) C hX hL (by omega) dL_law_407 ?_
  refine g_call0 C (g_runV (pc := 408) C (ci := 2) (q := 4) (Cn := RX2) (TT := TX2) (N := 11) (As := [.int (zI (xs (i + 1).toNat).toInt)]) (rest := []) Km cs_L_102.1 cs_L_102.2 ⟨Nat.le_of_ble_eq_true rfl, Nat.le_of_ble_eq_true rfl⟩ (show 4 < np' by omega) rfl rfl (Nat.le_of_ble_eq_true rfl) ⟨(by show k + 8 + 0 ≤ 601024; omega), (by show n + 48 + 0 ≤ 7293034; omega)⟩ dL_law_408) (fun E u h => h.elim) (fun v2 u2 h2 => ?_)
  obtain ⟨r, U, rfl, hr, rfl, e40, e12, hI⟩ := h2
  refine g_eq (st2 := [.int (zI r)]) rfl rfl rfl ?_
  dsimp only
  refine g_istore_6 (pc := 411) C dL_law_411 ?_
  refine g_aload_2 (pc := 413) C dL_law_413 ?_
  refine g_cM0Pv (pc := 414) C cs_L_89 (k_X2_thrown (by omega)) ⟨Nat.le_of_ble_eq_true rfl, Nat.le_of_ble_eq_true rfl⟩ (by omega) (Nat.le_of_ble_eq_true rfl) ⟨(by show k + 8 + 0 + 0 ≤ 601024; omega), (by show n + 48 + 0 + 0 ≤ 7293034; omega)⟩ dL_law_414 ?_
  rw [e40]
  refine g_iload_5 (pc := 417) C dL_law_417 ?_
  refine g_icmp_eq (pc := 419) (tgt := 424) C dL_law_419 (by decide) (by omega) (by omega) (fun _ => ?_) (fun h419 => absurd h419 (by omega))
  refine g_iload_5 (pc := 424) C dL_law_424 ?_
  by_cases h0 : code = 0
  · refine g_if_ne (pc := 426) (tgt := 441) C dL_law_426 (by decide) (by omega) (fun h426 => absurd h426 (by omega)) (fun _ => ?_)
    refine g_aload_3 (pc := 429) C dL_law_429 ?_
    refine g_iconst (pc := 430) C dL_law_430 ?_
    refine g_ald_12 (pc := 431) C (by omega) dL_law_431 ?_
    refine g_iload_6 (pc := 432) C dL_law_432 ?_
    refine g_i2l (pc := 434) C dL_law_434 (by omega) ?_
    refine g_lcmp (pc := 435) C (by rw [e12 h0]) dL_law_435 ?_
    refine g_if_eq (pc := 436) (tgt := 441) C dL_law_436 (by decide) (by omega) (fun _ => ?_) (fun h436 => absurd h436 (by omega))
    refine g_goto (pc := 441) (tgt := 1447) C dL_law_441 (by decide) ?_
    exact kk np' ad' U r code h13b hI
  · refine g_if_ne (pc := 426) (tgt := 441) C dL_law_426 (by decide) (by omega) (fun _ => ?_) (fun h426 => absurd h426 (by omega))
    refine g_goto (pc := 441) (tgt := 1447) C dL_law_441 (by decide) ?_
    exact kk np' ad' U r code h13b hI

theorem cx_L_103 : GoodIn GW (va_wsS RL 103 yL_halve (Cond.codeWith yL_halve cL_halve 4 (some .int) [(0, 9, 12, 13), (0, 9, 15, 17)] :: GW)) ∧ (yL_halve.cls ≠ "java/lang/invoke/MethodHandle" ∧ yL_halve.cls ≠ "java/lang/invoke/VarHandle" ∧ (parseMethodDescriptor yL_halve.desc).map (fun d => d.parameters.length) = some 3) := ⟨GW_X ml_L_103 mt_L_halve ini_PrefixYardLaw mc_L_halve, by decide +kernel⟩
theorem lw_halve {l : Launch} {p : Program} {e : Env} {s : State} {m : MethodId} {below : List Frame} {meth : Method} {c : Code} {cs : CSt} {b L : Nat} {xs : Nat → Int32} {k n np : Nat} {ad : Nat → Nat} {T : MT} {i : Int} {z5 z6 : Option Value} (C : gC p l s m #[Value.ref b] meth c cs (fun q => s.heap.size ≤ q) 7 cL_law RL ret) (hX : scP b L xs (fun q => s.heap.size ≤ q) s) (hL : L ≤ 2560) (hi : 0 ≤ i ∧ i + 5 ≤ L) (hk : k ≤ 5000 ∧ n ≤ 60000) (h13 : 13 ≤ np) {PRh : Option Value → St3 → Prop} (Kh : KC l cs yL_halve (Cond.codeWith yL_halve cL_halve 4 (some .int) [(0, 9, 12, 13), (0, 9, 15, 17)] :: GW) 8 8 48 [.ref (ad 0), .int (zI (xs (i + 1).toNat).toInt), .ref (ad 12)] np ad T PRh (fun _ _ => False)) (hp : ∀ v u, PRh v u → okP l cs yX2_halve (Cond.code yX2_halve cX2_halve 3 (some .int) :: GW) 2 [.int (zI (xs (i + 1).toNat).toInt)] ad (fun _ => True) v u) (kk : ∀ (np' : Nat) (ad' : Nat → Nat) (U : MT) (r code : Int), 13 ≤ np' → Inv np' U → GG p l e room_1 s m #[Value.ref b] below meth c (lw_Z below #[Value.ref b] s) cs (fun q => s.heap.size ≤ q) 7 (k + 8) (n + 48) np' ad' U 1447 [some (.ref b), some (.ref (ad' 0)), some (.ref (ad' 4)), some (.ref (ad' 12)), some (.int (zI i)), some (.int (zI code)), some (.int (zI r))] []) : GG p l e room_1 s m #[Value.ref b] below meth c (lw_Z below #[Value.ref b] s) cs (fun q => s.heap.size ≤ q) 7 k n np ad T 444 [some (.ref b), some (.ref (ad 0)), some (.ref (ad 4)), some (.ref (ad 12)), some (.int (zI i)), z5, z6] [] := by
  refine g_aload_1 (pc := 444) C dL_law_444 ?_
  refine g_aload_0 (pc := 445) C dL_law_445 ?_
  refine g_iload_4 (pc := 446) C dL_law_446 ?_
  refine g_iconst (pc := 448) C dL_law_448 ?_
  refine g_iadd (pc := 449) C dL_law_449 ?_
  refine g_sld (pc := 450) C hX hL (by omega) dL_law_450 ?_
  refine g_aload_3 (pc := 451) C dL_law_451 ?_
  refine g_call0 C (g_runX (pc := 452) C (As := [.ref (ad 0), .int (zI (xs (i + 1).toNat).toInt), .ref (ad 12)]) (rest := []) Kh cx_L_103.1 cx_L_103.2 ⟨Nat.le_of_ble_eq_true rfl, Nat.le_of_ble_eq_true rfl⟩ (Nat.le_of_ble_eq_true rfl) ⟨(by show k + 8 ≤ 601024; omega), (by show n + 48 ≤ 7293034; omega)⟩ dL_law_452) (fun E u h => h.elim) (fun v u h => ?_)
  obtain ⟨code, rfl, hc, h13b, ⟨q0, q4, q12⟩, Km⟩ := hp v u h
  obtain ⟨np', ad', T'⟩ := u
  dsimp only at h13b q0 q4 q12 Km
  refine g_eq (lv2 := [some (.ref b), some (.ref (ad' 0)), some (.ref (ad' 4)), some (.ref (ad' 12)), some (.int (zI i)), z5, z6]) (st2 := [.int (zI code)]) rfl (by rw [q0, q4, q12]) rfl ?_
  refine g_istore_5 (pc := 455) C dL_law_455 ?_
  refine g_aload_2 (pc := 457) C dL_law_457 ?_
  refine g_aload_0 (pc := 458) C dL_law_458 ?_
  refine g_iload_4 (pc := 459) C dL_law_459 ?_
  refine g_iconst (pc := 461) C dL_law_461 ?_
  refine g_iadd (pc := 462) C dL_law_462 ?_
  refine g_sld (pc := 463) C hX hL (by omega) dL_law_463 ?_
  refine g_call0 C (g_runV (pc := 464) C (ci := 2) (q := 4) (Cn := RX2) (TT := TX2) (N := 11) (As := [.int (zI (xs (i + 1).toNat).toInt)]) (rest := []) Km cs_L_105.1 cs_L_105.2 ⟨Nat.le_of_ble_eq_true rfl, Nat.le_of_ble_eq_true rfl⟩ (show 4 < np' by omega) rfl rfl (Nat.le_of_ble_eq_true rfl) ⟨(by show k + 8 + 0 ≤ 601024; omega), (by show n + 48 + 0 ≤ 7293034; omega)⟩ dL_law_464) (fun E u h => h.elim) (fun v2 u2 h2 => ?_)
  obtain ⟨r, U, rfl, hr, rfl, e40, e12, hI⟩ := h2
  refine g_eq (st2 := [.int (zI r)]) rfl rfl rfl ?_
  dsimp only
  refine g_istore_6 (pc := 467) C dL_law_467 ?_
  refine g_aload_2 (pc := 469) C dL_law_469 ?_
  refine g_cM0Pv (pc := 470) C cs_L_89 (k_X2_thrown (by omega)) ⟨Nat.le_of_ble_eq_true rfl, Nat.le_of_ble_eq_true rfl⟩ (by omega) (Nat.le_of_ble_eq_true rfl) ⟨(by show k + 8 + 0 + 0 ≤ 601024; omega), (by show n + 48 + 0 + 0 ≤ 7293034; omega)⟩ dL_law_470 ?_
  rw [e40]
  refine g_iload_5 (pc := 473) C dL_law_473 ?_
  refine g_icmp_eq (pc := 475) (tgt := 480) C dL_law_475 (by decide) (by omega) (by omega) (fun _ => ?_) (fun h475 => absurd h475 (by omega))
  refine g_iload_5 (pc := 480) C dL_law_480 ?_
  by_cases h0 : code = 0
  · refine g_if_ne (pc := 482) (tgt := 497) C dL_law_482 (by decide) (by omega) (fun h482 => absurd h482 (by omega)) (fun _ => ?_)
    refine g_aload_3 (pc := 485) C dL_law_485 ?_
    refine g_iconst (pc := 486) C dL_law_486 ?_
    refine g_ald_12 (pc := 487) C (by omega) dL_law_487 ?_
    refine g_iload_6 (pc := 488) C dL_law_488 ?_
    refine g_i2l (pc := 490) C dL_law_490 (by omega) ?_
    refine g_lcmp (pc := 491) C (by rw [e12 h0]) dL_law_491 ?_
    refine g_if_eq (pc := 492) (tgt := 497) C dL_law_492 (by decide) (by omega) (fun _ => ?_) (fun h492 => absurd h492 (by omega))
    refine g_goto (pc := 497) (tgt := 1447) C dL_law_497 (by decide) ?_
    exact kk np' ad' U r code h13b hI
  · refine g_if_ne (pc := 482) (tgt := 497) C dL_law_482 (by decide) (by omega) (fun _ => ?_) (fun h482 => absurd h482 (by omega))
    refine g_goto (pc := 497) (tgt := 1447) C dL_law_497 (by decide) ?_
    exact kk np' ad' U r code h13b hI

theorem cx_L_106 : GoodIn GW (va_wsS RL 106 yL_setOwner (Cond.codeWith yL_setOwner cL_setOwner 5 (some .int) [(0, 10, 13, 13), (0, 10, 17, 15)] :: GW)) ∧ (yL_setOwner.cls ≠ "java/lang/invoke/MethodHandle" ∧ yL_setOwner.cls ≠ "java/lang/invoke/VarHandle" ∧ (parseMethodDescriptor yL_setOwner.desc).map (fun d => d.parameters.length) = some 4) := ⟨GW_X ml_L_106 mt_L_setOwner ini_PrefixYardLaw mc_L_setOwner, by decide +kernel⟩
theorem lw_setOwner {l : Launch} {p : Program} {e : Env} {s : State} {m : MethodId} {below : List Frame} {meth : Method} {c : Code} {cs : CSt} {b L : Nat} {xs : Nat → Int32} {k n np : Nat} {ad : Nat → Nat} {T : MT} {i : Int} {z5 z6 : Option Value} (C : gC p l s m #[Value.ref b] meth c cs (fun q => s.heap.size ≤ q) 7 cL_law RL ret) (hX : scP b L xs (fun q => s.heap.size ≤ q) s) (hL : L ≤ 2560) (hi : 0 ≤ i ∧ i + 5 ≤ L) (hk : k ≤ 5000 ∧ n ≤ 60000) (h13 : 13 ≤ np) {PRh : Option Value → St3 → Prop} (Kh : KC l cs yL_setOwner (Cond.codeWith yL_setOwner cL_setOwner 5 (some .int) [(0, 10, 13, 13), (0, 10, 17, 15)] :: GW) 8 8 48 [.ref (ad 0), .int (zI (xs (i + 1).toNat).toInt), .int (zI (xs (i + 2).toNat).toInt), .ref (ad 12)] np ad T PRh (fun _ _ => False)) (hp : ∀ v u, PRh v u → okP l cs yX2_setOwner (Cond.code yX2_setOwner cX2_setOwner 4 (some .int) :: GW) 2 [.int (zI (xs (i + 1).toNat).toInt), .int (zI (xs (i + 2).toNat).toInt)] ad (fun _ => True) v u) (kk : ∀ (np' : Nat) (ad' : Nat → Nat) (U : MT) (r code : Int), 13 ≤ np' → Inv np' U → GG p l e room_1 s m #[Value.ref b] below meth c (lw_Z below #[Value.ref b] s) cs (fun q => s.heap.size ≤ q) 7 (k + 8) (n + 48) np' ad' U 1447 [some (.ref b), some (.ref (ad' 0)), some (.ref (ad' 4)), some (.ref (ad' 12)), some (.int (zI i)), some (.int (zI code)), some (.int (zI r))] []) : GG p l e room_1 s m #[Value.ref b] below meth c (lw_Z below #[Value.ref b] s) cs (fun q => s.heap.size ≤ q) 7 k n np ad T 500 [some (.ref b), some (.ref (ad 0)), some (.ref (ad 4)), some (.ref (ad 12)), some (.int (zI i)), z5, z6] [] := by
  refine g_aload_1 (pc := 500) C dL_law_500 ?_
  refine g_aload_0 (pc := 501) C dL_law_501 ?_
  refine g_iload_4 (pc := 502) C dL_law_502 ?_
  refine g_iconst (pc := 504) C dL_law_504 ?_
  refine g_iadd (pc := 505) C dL_law_505 ?_
  refine g_sld (pc := 506) C hX hL (by omega) dL_law_506 ?_
  refine g_aload_0 (pc := 507) C dL_law_507 ?_
  refine g_iload_4 (pc := 508) C dL_law_508 ?_
  refine g_iconst (pc := 510) C dL_law_510 ?_
  refine g_iadd (pc := 511) C dL_law_511 ?_
  refine g_sld (pc := 512) C hX hL (by omega) dL_law_512 ?_
  refine g_aload_3 (pc := 513) C dL_law_513 ?_
  refine g_call0 C (g_runX (pc := 514) C (As := [.ref (ad 0), .int (zI (xs (i + 1).toNat).toInt), .int (zI (xs (i + 2).toNat).toInt), .ref (ad 12)]) (rest := []) Kh cx_L_106.1 cx_L_106.2 ⟨Nat.le_of_ble_eq_true rfl, Nat.le_of_ble_eq_true rfl⟩ (Nat.le_of_ble_eq_true rfl) ⟨(by show k + 8 ≤ 601024; omega), (by show n + 48 ≤ 7293034; omega)⟩ dL_law_514) (fun E u h => h.elim) (fun v u h => ?_)
  obtain ⟨code, rfl, hc, h13b, ⟨q0, q4, q12⟩, Km⟩ := hp v u h
  obtain ⟨np', ad', T'⟩ := u
  dsimp only at h13b q0 q4 q12 Km
  refine g_eq (lv2 := [some (.ref b), some (.ref (ad' 0)), some (.ref (ad' 4)), some (.ref (ad' 12)), some (.int (zI i)), z5, z6]) (st2 := [.int (zI code)]) rfl (by rw [q0, q4, q12]) rfl ?_
  refine g_istore_5 (pc := 517) C dL_law_517 ?_
  refine g_aload_2 (pc := 519) C dL_law_519 ?_
  refine g_aload_0 (pc := 520) C dL_law_520 ?_
  refine g_iload_4 (pc := 521) C dL_law_521 ?_
  refine g_iconst (pc := 523) C dL_law_523 ?_
  refine g_iadd (pc := 524) C dL_law_524 ?_
  refine g_sld (pc := 525) C hX hL (by omega) dL_law_525 ?_
  refine g_aload_0 (pc := 526) C dL_law_526 ?_
  refine g_iload_4 (pc := 527) C dL_law_527 ?_
  refine g_iconst (pc := 529) C dL_law_529 ?_
  refine g_iadd (pc := 530) C dL_law_530 ?_
  refine g_sld (pc := 531) C hX hL (by omega) dL_law_531 ?_
  refine g_call0 C (g_runV (pc := 532) C (ci := 2) (q := 4) (Cn := RX2) (TT := TX2) (N := 11) (As := [.int (zI (xs (i + 1).toNat).toInt), .int (zI (xs (i + 2).toNat).toInt)]) (rest := []) Km cs_L_109.1 cs_L_109.2 ⟨Nat.le_of_ble_eq_true rfl, Nat.le_of_ble_eq_true rfl⟩ (show 4 < np' by omega) rfl rfl (Nat.le_of_ble_eq_true rfl) ⟨(by show k + 8 + 0 ≤ 601024; omega), (by show n + 48 + 0 ≤ 7293034; omega)⟩ dL_law_532) (fun E u h => h.elim) (fun v2 u2 h2 => ?_)
  obtain ⟨r, U, rfl, hr, rfl, e40, e12, hI⟩ := h2
  refine g_eq (st2 := [.int (zI r)]) rfl rfl rfl ?_
  dsimp only
  refine g_istore_6 (pc := 535) C dL_law_535 ?_
  refine g_aload_2 (pc := 537) C dL_law_537 ?_
  refine g_cM0Pv (pc := 538) C cs_L_89 (k_X2_thrown (by omega)) ⟨Nat.le_of_ble_eq_true rfl, Nat.le_of_ble_eq_true rfl⟩ (by omega) (Nat.le_of_ble_eq_true rfl) ⟨(by show k + 8 + 0 + 0 ≤ 601024; omega), (by show n + 48 + 0 + 0 ≤ 7293034; omega)⟩ dL_law_538 ?_
  rw [e40]
  refine g_iload_5 (pc := 541) C dL_law_541 ?_
  refine g_icmp_eq (pc := 543) (tgt := 548) C dL_law_543 (by decide) (by omega) (by omega) (fun _ => ?_) (fun h543 => absurd h543 (by omega))
  refine g_iload_5 (pc := 548) C dL_law_548 ?_
  by_cases h0 : code = 0
  · refine g_if_ne (pc := 550) (tgt := 565) C dL_law_550 (by decide) (by omega) (fun h550 => absurd h550 (by omega)) (fun _ => ?_)
    refine g_aload_3 (pc := 553) C dL_law_553 ?_
    refine g_iconst (pc := 554) C dL_law_554 ?_
    refine g_ald_12 (pc := 555) C (by omega) dL_law_555 ?_
    refine g_iload_6 (pc := 556) C dL_law_556 ?_
    refine g_i2l (pc := 558) C dL_law_558 (by omega) ?_
    refine g_lcmp (pc := 559) C (by rw [e12 h0]) dL_law_559 ?_
    refine g_if_eq (pc := 560) (tgt := 565) C dL_law_560 (by decide) (by omega) (fun _ => ?_) (fun h560 => absurd h560 (by omega))
    refine g_goto (pc := 565) (tgt := 1447) C dL_law_565 (by decide) ?_
    exact kk np' ad' U r code h13b hI
  · refine g_if_ne (pc := 550) (tgt := 565) C dL_law_550 (by decide) (by omega) (fun _ => ?_) (fun h550 => absurd h550 (by omega))
    refine g_goto (pc := 565) (tgt := 1447) C dL_law_565 (by decide) ?_
    exact kk np' ad' U r code h13b hI

theorem cx_L_110 : GoodIn GW (va_wsS RL 110 yL_lend (Cond.codeWith yL_lend cL_lend 5 (some .int) [(0, 10, 13, 13), (0, 10, 17, 15), (0, 10, 21, 17)] :: GW)) ∧ (yL_lend.cls ≠ "java/lang/invoke/MethodHandle" ∧ yL_lend.cls ≠ "java/lang/invoke/VarHandle" ∧ (parseMethodDescriptor yL_lend.desc).map (fun d => d.parameters.length) = some 4) := ⟨GW_X ml_L_110 mt_L_lend ini_PrefixYardLaw mc_L_lend, by decide +kernel⟩
theorem lw_lend {l : Launch} {p : Program} {e : Env} {s : State} {m : MethodId} {below : List Frame} {meth : Method} {c : Code} {cs : CSt} {b L : Nat} {xs : Nat → Int32} {k n np : Nat} {ad : Nat → Nat} {T : MT} {i : Int} {z5 z6 : Option Value} (C : gC p l s m #[Value.ref b] meth c cs (fun q => s.heap.size ≤ q) 7 cL_law RL ret) (hX : scP b L xs (fun q => s.heap.size ≤ q) s) (hL : L ≤ 2560) (hi : 0 ≤ i ∧ i + 5 ≤ L) (hk : k ≤ 5000 ∧ n ≤ 60000) (h13 : 13 ≤ np) {PRh : Option Value → St3 → Prop} (Kh : KC l cs yL_lend (Cond.codeWith yL_lend cL_lend 5 (some .int) [(0, 10, 13, 13), (0, 10, 17, 15), (0, 10, 21, 17)] :: GW) 8 8 48 [.ref (ad 0), .int (zI (xs (i + 1).toNat).toInt), .int (zI (xs (i + 2).toNat).toInt), .ref (ad 12)] np ad T PRh (fun _ _ => False)) (hp : ∀ v u, PRh v u → okP l cs yX2_lend (Cond.code yX2_lend cX2_lend 5 (some .int) :: GW) 2 [.int (zI (xs (i + 1).toNat).toInt), .int (zI (xs (i + 2).toNat).toInt)] ad (fun _ => True) v u) (kk : ∀ (np' : Nat) (ad' : Nat → Nat) (U : MT) (r code : Int), 13 ≤ np' → Inv np' U → GG p l e room_1 s m #[Value.ref b] below meth c (lw_Z below #[Value.ref b] s) cs (fun q => s.heap.size ≤ q) 7 (k + 8) (n + 48) np' ad' U 1447 [some (.ref b), some (.ref (ad' 0)), some (.ref (ad' 4)), some (.ref (ad' 12)), some (.int (zI i)), some (.int (zI code)), some (.int (zI r))] []) : GG p l e room_1 s m #[Value.ref b] below meth c (lw_Z below #[Value.ref b] s) cs (fun q => s.heap.size ≤ q) 7 k n np ad T 568 [some (.ref b), some (.ref (ad 0)), some (.ref (ad 4)), some (.ref (ad 12)), some (.int (zI i)), z5, z6] [] := by
  refine g_aload_1 (pc := 568) C dL_law_568 ?_
  refine g_aload_0 (pc := 569) C dL_law_569 ?_
  refine g_iload_4 (pc := 570) C dL_law_570 ?_
  refine g_iconst (pc := 572) C dL_law_572 ?_
  refine g_iadd (pc := 573) C dL_law_573 ?_
  refine g_sld (pc := 574) C hX hL (by omega) dL_law_574 ?_
  refine g_aload_0 (pc := 575) C dL_law_575 ?_
  refine g_iload_4 (pc := 576) C dL_law_576 ?_
  refine g_iconst (pc := 578) C dL_law_578 ?_
  refine g_iadd (pc := 579) C dL_law_579 ?_
  refine g_sld (pc := 580) C hX hL (by omega) dL_law_580 ?_
  refine g_aload_3 (pc := 581) C dL_law_581 ?_
  refine g_call0 C (g_runX (pc := 582) C (As := [.ref (ad 0), .int (zI (xs (i + 1).toNat).toInt), .int (zI (xs (i + 2).toNat).toInt), .ref (ad 12)]) (rest := []) Kh cx_L_110.1 cx_L_110.2 ⟨Nat.le_of_ble_eq_true rfl, Nat.le_of_ble_eq_true rfl⟩ (Nat.le_of_ble_eq_true rfl) ⟨(by show k + 8 ≤ 601024; omega), (by show n + 48 ≤ 7293034; omega)⟩ dL_law_582) (fun E u h => h.elim) (fun v u h => ?_)
  obtain ⟨code, rfl, hc, h13b, ⟨q0, q4, q12⟩, Km⟩ := hp v u h
  obtain ⟨np', ad', T'⟩ := u
  dsimp only at h13b q0 q4 q12 Km
  refine g_eq (lv2 := [some (.ref b), some (.ref (ad' 0)), some (.ref (ad' 4)), some (.ref (ad' 12)), some (.int (zI i)), z5, z6]) (st2 := [.int (zI code)]) rfl (by rw [q0, q4, q12]) rfl ?_
  refine g_istore_5 (pc := 585) C dL_law_585 ?_
  refine g_aload_2 (pc := 587) C dL_law_587 ?_
  refine g_aload_0 (pc := 588) C dL_law_588 ?_
  refine g_iload_4 (pc := 589) C dL_law_589 ?_
  refine g_iconst (pc := 591) C dL_law_591 ?_
  refine g_iadd (pc := 592) C dL_law_592 ?_
  refine g_sld (pc := 593) C hX hL (by omega) dL_law_593 ?_
  refine g_aload_0 (pc := 594) C dL_law_594 ?_
  refine g_iload_4 (pc := 595) C dL_law_595 ?_
  refine g_iconst (pc := 597) C dL_law_597 ?_
  refine g_iadd (pc := 598) C dL_law_598 ?_
  refine g_sld (pc := 599) C hX hL (by omega) dL_law_599 ?_
  refine g_call0 C (g_runV (pc := 600) C (ci := 2) (q := 4) (Cn := RX2) (TT := TX2) (N := 11) (As := [.int (zI (xs (i + 1).toNat).toInt), .int (zI (xs (i + 2).toNat).toInt)]) (rest := []) Km cs_L_112.1 cs_L_112.2 ⟨Nat.le_of_ble_eq_true rfl, Nat.le_of_ble_eq_true rfl⟩ (show 4 < np' by omega) rfl rfl (Nat.le_of_ble_eq_true rfl) ⟨(by show k + 8 + 0 ≤ 601024; omega), (by show n + 48 + 0 ≤ 7293034; omega)⟩ dL_law_600) (fun E u h => h.elim) (fun v2 u2 h2 => ?_)
  obtain ⟨r, U, rfl, hr, rfl, e40, e12, hI⟩ := h2
  refine g_eq (st2 := [.int (zI r)]) rfl rfl rfl ?_
  dsimp only
  refine g_istore_6 (pc := 603) C dL_law_603 ?_
  refine g_aload_2 (pc := 605) C dL_law_605 ?_
  refine g_cM0Pv (pc := 606) C cs_L_89 (k_X2_thrown (by omega)) ⟨Nat.le_of_ble_eq_true rfl, Nat.le_of_ble_eq_true rfl⟩ (by omega) (Nat.le_of_ble_eq_true rfl) ⟨(by show k + 8 + 0 + 0 ≤ 601024; omega), (by show n + 48 + 0 + 0 ≤ 7293034; omega)⟩ dL_law_606 ?_
  rw [e40]
  refine g_iload_5 (pc := 609) C dL_law_609 ?_
  refine g_icmp_eq (pc := 611) (tgt := 616) C dL_law_611 (by decide) (by omega) (by omega) (fun _ => ?_) (fun h611 => absurd h611 (by omega))
  refine g_iload_5 (pc := 616) C dL_law_616 ?_
  by_cases h0 : code = 0
  · refine g_if_ne (pc := 618) (tgt := 633) C dL_law_618 (by decide) (by omega) (fun h618 => absurd h618 (by omega)) (fun _ => ?_)
    refine g_aload_3 (pc := 621) C dL_law_621 ?_
    refine g_iconst (pc := 622) C dL_law_622 ?_
    refine g_ald_12 (pc := 623) C (by omega) dL_law_623 ?_
    refine g_iload_6 (pc := 624) C dL_law_624 ?_
    refine g_i2l (pc := 626) C dL_law_626 (by omega) ?_
    refine g_lcmp (pc := 627) C (by rw [e12 h0]) dL_law_627 ?_
    refine g_if_eq (pc := 628) (tgt := 633) C dL_law_628 (by decide) (by omega) (fun _ => ?_) (fun h628 => absurd h628 (by omega))
    refine g_goto (pc := 633) (tgt := 1447) C dL_law_633 (by decide) ?_
    exact kk np' ad' U r code h13b hI
  · refine g_if_ne (pc := 618) (tgt := 633) C dL_law_618 (by decide) (by omega) (fun _ => ?_) (fun h618 => absurd h618 (by omega))
    refine g_goto (pc := 633) (tgt := 1447) C dL_law_633 (by decide) ?_
    exact kk np' ad' U r code h13b hI

theorem cx_L_113 : GoodIn GW (va_wsS RL 113 yL_takeBack (Cond.codeWith yL_takeBack cL_takeBack 4 (some .int) [(0, 9, 12, 13), (0, 9, 15, 17)] :: GW)) ∧ (yL_takeBack.cls ≠ "java/lang/invoke/MethodHandle" ∧ yL_takeBack.cls ≠ "java/lang/invoke/VarHandle" ∧ (parseMethodDescriptor yL_takeBack.desc).map (fun d => d.parameters.length) = some 3) := ⟨GW_X ml_L_113 mt_L_takeBack ini_PrefixYardLaw mc_L_takeBack, by decide +kernel⟩
theorem lw_takeBack {l : Launch} {p : Program} {e : Env} {s : State} {m : MethodId} {below : List Frame} {meth : Method} {c : Code} {cs : CSt} {b L : Nat} {xs : Nat → Int32} {k n np : Nat} {ad : Nat → Nat} {T : MT} {i : Int} {z5 z6 : Option Value} (C : gC p l s m #[Value.ref b] meth c cs (fun q => s.heap.size ≤ q) 7 cL_law RL ret) (hX : scP b L xs (fun q => s.heap.size ≤ q) s) (hL : L ≤ 2560) (hi : 0 ≤ i ∧ i + 5 ≤ L) (hk : k ≤ 5000 ∧ n ≤ 60000) (h13 : 13 ≤ np) {PRh : Option Value → St3 → Prop} (Kh : KC l cs yL_takeBack (Cond.codeWith yL_takeBack cL_takeBack 4 (some .int) [(0, 9, 12, 13), (0, 9, 15, 17)] :: GW) 8 8 48 [.ref (ad 0), .int (zI (xs (i + 1).toNat).toInt), .ref (ad 12)] np ad T PRh (fun _ _ => False)) (hp : ∀ v u, PRh v u → okP l cs yX2_takeBack (Cond.code yX2_takeBack cX2_takeBack 4 (some .int) :: GW) 2 [.int (zI (xs (i + 1).toNat).toInt)] ad (fun _ => True) v u) (kk : ∀ (np' : Nat) (ad' : Nat → Nat) (U : MT) (r code : Int), 13 ≤ np' → Inv np' U → GG p l e room_1 s m #[Value.ref b] below meth c (lw_Z below #[Value.ref b] s) cs (fun q => s.heap.size ≤ q) 7 (k + 8) (n + 48) np' ad' U 1447 [some (.ref b), some (.ref (ad' 0)), some (.ref (ad' 4)), some (.ref (ad' 12)), some (.int (zI i)), some (.int (zI code)), some (.int (zI r))] []) : GG p l e room_1 s m #[Value.ref b] below meth c (lw_Z below #[Value.ref b] s) cs (fun q => s.heap.size ≤ q) 7 k n np ad T 636 [some (.ref b), some (.ref (ad 0)), some (.ref (ad 4)), some (.ref (ad 12)), some (.int (zI i)), z5, z6] [] := by
  refine g_aload_1 (pc := 636) C dL_law_636 ?_
  refine g_aload_0 (pc := 637) C dL_law_637 ?_
  refine g_iload_4 (pc := 638) C dL_law_638 ?_
  refine g_iconst (pc := 640) C dL_law_640 ?_
  refine g_iadd (pc := 641) C dL_law_641 ?_
  refine g_sld (pc := 642) C hX hL (by omega) dL_law_642 ?_
  refine g_aload_3 (pc := 643) C dL_law_643 ?_
  refine g_call0 C (g_runX (pc := 644) C (As := [.ref (ad 0), .int (zI (xs (i + 1).toNat).toInt), .ref (ad 12)]) (rest := []) Kh cx_L_113.1 cx_L_113.2 ⟨Nat.le_of_ble_eq_true rfl, Nat.le_of_ble_eq_true rfl⟩ (Nat.le_of_ble_eq_true rfl) ⟨(by show k + 8 ≤ 601024; omega), (by show n + 48 ≤ 7293034; omega)⟩ dL_law_644) (fun E u h => h.elim) (fun v u h => ?_)
  obtain ⟨code, rfl, hc, h13b, ⟨q0, q4, q12⟩, Km⟩ := hp v u h
  obtain ⟨np', ad', T'⟩ := u
  dsimp only at h13b q0 q4 q12 Km
  refine g_eq (lv2 := [some (.ref b), some (.ref (ad' 0)), some (.ref (ad' 4)), some (.ref (ad' 12)), some (.int (zI i)), z5, z6]) (st2 := [.int (zI code)]) rfl (by rw [q0, q4, q12]) rfl ?_
  refine g_istore_5 (pc := 647) C dL_law_647 ?_
  refine g_aload_2 (pc := 649) C dL_law_649 ?_
  refine g_aload_0 (pc := 650) C dL_law_650 ?_
  refine g_iload_4 (pc := 651) C dL_law_651 ?_
  refine g_iconst (pc := 653) C dL_law_653 ?_
  refine g_iadd (pc := 654) C dL_law_654 ?_
  refine g_sld (pc := 655) C hX hL (by omega) dL_law_655 ?_
  refine g_call0 C (g_runV (pc := 656) C (ci := 2) (q := 4) (Cn := RX2) (TT := TX2) (N := 11) (As := [.int (zI (xs (i + 1).toNat).toInt)]) (rest := []) Km cs_L_115.1 cs_L_115.2 ⟨Nat.le_of_ble_eq_true rfl, Nat.le_of_ble_eq_true rfl⟩ (show 4 < np' by omega) rfl rfl (Nat.le_of_ble_eq_true rfl) ⟨(by show k + 8 + 0 ≤ 601024; omega), (by show n + 48 + 0 ≤ 7293034; omega)⟩ dL_law_656) (fun E u h => h.elim) (fun v2 u2 h2 => ?_)
  obtain ⟨r, U, rfl, hr, rfl, e40, e12, hI⟩ := h2
  refine g_eq (st2 := [.int (zI r)]) rfl rfl rfl ?_
  dsimp only
  refine g_istore_6 (pc := 659) C dL_law_659 ?_
  refine g_aload_2 (pc := 661) C dL_law_661 ?_
  refine g_cM0Pv (pc := 662) C cs_L_89 (k_X2_thrown (by omega)) ⟨Nat.le_of_ble_eq_true rfl, Nat.le_of_ble_eq_true rfl⟩ (by omega) (Nat.le_of_ble_eq_true rfl) ⟨(by show k + 8 + 0 + 0 ≤ 601024; omega), (by show n + 48 + 0 + 0 ≤ 7293034; omega)⟩ dL_law_662 ?_
  rw [e40]
  refine g_iload_5 (pc := 665) C dL_law_665 ?_
  refine g_icmp_eq (pc := 667) (tgt := 672) C dL_law_667 (by decide) (by omega) (by omega) (fun _ => ?_) (fun h667 => absurd h667 (by omega))
  refine g_iload_5 (pc := 672) C dL_law_672 ?_
  by_cases h0 : code = 0
  · refine g_if_ne (pc := 674) (tgt := 689) C dL_law_674 (by decide) (by omega) (fun h674 => absurd h674 (by omega)) (fun _ => ?_)
    refine g_aload_3 (pc := 677) C dL_law_677 ?_
    refine g_iconst (pc := 678) C dL_law_678 ?_
    refine g_ald_12 (pc := 679) C (by omega) dL_law_679 ?_
    refine g_iload_6 (pc := 680) C dL_law_680 ?_
    refine g_i2l (pc := 682) C dL_law_682 (by omega) ?_
    refine g_lcmp (pc := 683) C (by rw [e12 h0]) dL_law_683 ?_
    refine g_if_eq (pc := 684) (tgt := 689) C dL_law_684 (by decide) (by omega) (fun _ => ?_) (fun h684 => absurd h684 (by omega))
    refine g_goto (pc := 689) (tgt := 1447) C dL_law_689 (by decide) ?_
    exact kk np' ad' U r code h13b hI
  · refine g_if_ne (pc := 674) (tgt := 689) C dL_law_674 (by decide) (by omega) (fun _ => ?_) (fun h674 => absurd h674 (by omega))
    refine g_goto (pc := 689) (tgt := 1447) C dL_law_689 (by decide) ?_
    exact kk np' ad' U r code h13b hI

theorem cx_L_116 : GoodIn GW (va_wsS RL 116 yL_pass (Cond.codeWith yL_pass cL_pass 4 (some .int) [(0, 9, 12, 15), (0, 9, 15, 17)] :: GW)) ∧ (yL_pass.cls ≠ "java/lang/invoke/MethodHandle" ∧ yL_pass.cls ≠ "java/lang/invoke/VarHandle" ∧ (parseMethodDescriptor yL_pass.desc).map (fun d => d.parameters.length) = some 3) := ⟨GW_X ml_L_116 mt_L_pass ini_PrefixYardLaw mc_L_pass, by decide +kernel⟩
theorem lw_pass {l : Launch} {p : Program} {e : Env} {s : State} {m : MethodId} {below : List Frame} {meth : Method} {c : Code} {cs : CSt} {b L : Nat} {xs : Nat → Int32} {k n np : Nat} {ad : Nat → Nat} {T : MT} {i : Int} {z5 z6 : Option Value} (C : gC p l s m #[Value.ref b] meth c cs (fun q => s.heap.size ≤ q) 7 cL_law RL ret) (hX : scP b L xs (fun q => s.heap.size ≤ q) s) (hL : L ≤ 2560) (hi : 0 ≤ i ∧ i + 5 ≤ L) (hk : k ≤ 5000 ∧ n ≤ 60000) (h13 : 13 ≤ np) {PRh : Option Value → St3 → Prop} (Kh : KC l cs yL_pass (Cond.codeWith yL_pass cL_pass 4 (some .int) [(0, 9, 12, 15), (0, 9, 15, 17)] :: GW) 8 8 48 [.ref (ad 0), .int (zI (xs (i + 1).toNat).toInt), .ref (ad 12)] np ad T PRh (fun _ _ => False)) (hp : ∀ v u, PRh v u → okP l cs yX2_pass (Cond.code yX2_pass cX2_pass 5 (some .int) :: GW) 1 [.int (zI (xs (i + 1).toNat).toInt)] ad (fun _ => True) v u) (kk : ∀ (np' : Nat) (ad' : Nat → Nat) (U : MT) (r code : Int), 13 ≤ np' → Inv np' U → GG p l e room_1 s m #[Value.ref b] below meth c (lw_Z below #[Value.ref b] s) cs (fun q => s.heap.size ≤ q) 7 (k + 8) (n + 48) np' ad' U 1447 [some (.ref b), some (.ref (ad' 0)), some (.ref (ad' 4)), some (.ref (ad' 12)), some (.int (zI i)), some (.int (zI code)), some (.int (zI r))] []) : GG p l e room_1 s m #[Value.ref b] below meth c (lw_Z below #[Value.ref b] s) cs (fun q => s.heap.size ≤ q) 7 k n np ad T 692 [some (.ref b), some (.ref (ad 0)), some (.ref (ad 4)), some (.ref (ad 12)), some (.int (zI i)), z5, z6] [] := by
  refine g_aload_1 (pc := 692) C dL_law_692 ?_
  refine g_aload_0 (pc := 693) C dL_law_693 ?_
  refine g_iload_4 (pc := 694) C dL_law_694 ?_
  refine g_iconst (pc := 696) C dL_law_696 ?_
  refine g_iadd (pc := 697) C dL_law_697 ?_
  refine g_sld (pc := 698) C hX hL (by omega) dL_law_698 ?_
  refine g_aload_3 (pc := 699) C dL_law_699 ?_
  refine g_call0 C (g_runX (pc := 700) C (As := [.ref (ad 0), .int (zI (xs (i + 1).toNat).toInt), .ref (ad 12)]) (rest := []) Kh cx_L_116.1 cx_L_116.2 ⟨Nat.le_of_ble_eq_true rfl, Nat.le_of_ble_eq_true rfl⟩ (Nat.le_of_ble_eq_true rfl) ⟨(by show k + 8 ≤ 601024; omega), (by show n + 48 ≤ 7293034; omega)⟩ dL_law_700) (fun E u h => h.elim) (fun v u h => ?_)
  obtain ⟨code, rfl, hc, h13b, ⟨q0, q4, q12⟩, Km⟩ := hp v u h
  obtain ⟨np', ad', T'⟩ := u
  dsimp only at h13b q0 q4 q12 Km
  refine g_eq (lv2 := [some (.ref b), some (.ref (ad' 0)), some (.ref (ad' 4)), some (.ref (ad' 12)), some (.int (zI i)), z5, z6]) (st2 := [.int (zI code)]) rfl (by rw [q0, q4, q12]) rfl ?_
  refine g_istore_5 (pc := 703) C dL_law_703 ?_
  refine g_aload_2 (pc := 705) C dL_law_705 ?_
  refine g_aload_0 (pc := 706) C dL_law_706 ?_
  refine g_iload_4 (pc := 707) C dL_law_707 ?_
  refine g_iconst (pc := 709) C dL_law_709 ?_
  refine g_iadd (pc := 710) C dL_law_710 ?_
  refine g_sld (pc := 711) C hX hL (by omega) dL_law_711 ?_
  refine g_call0 C (g_runV (pc := 712) C (ci := 2) (q := 4) (Cn := RX2) (TT := TX2) (N := 11) (As := [.int (zI (xs (i + 1).toNat).toInt)]) (rest := []) Km cs_L_118.1 cs_L_118.2 ⟨Nat.le_of_ble_eq_true rfl, Nat.le_of_ble_eq_true rfl⟩ (show 4 < np' by omega) rfl rfl (Nat.le_of_ble_eq_true rfl) ⟨(by show k + 8 + 0 ≤ 601024; omega), (by show n + 48 + 0 ≤ 7293034; omega)⟩ dL_law_712) (fun E u h => h.elim) (fun v2 u2 h2 => ?_)
  obtain ⟨r, U, rfl, hr, rfl, e40, e12, hI⟩ := h2
  refine g_eq (st2 := [.int (zI r)]) rfl rfl rfl ?_
  dsimp only
  refine g_istore_6 (pc := 715) C dL_law_715 ?_
  refine g_aload_2 (pc := 717) C dL_law_717 ?_
  refine g_cM0Pv (pc := 718) C cs_L_89 (k_X2_thrown (by omega)) ⟨Nat.le_of_ble_eq_true rfl, Nat.le_of_ble_eq_true rfl⟩ (by omega) (Nat.le_of_ble_eq_true rfl) ⟨(by show k + 8 + 0 + 0 ≤ 601024; omega), (by show n + 48 + 0 + 0 ≤ 7293034; omega)⟩ dL_law_718 ?_
  rw [e40]
  refine g_iload_5 (pc := 721) C dL_law_721 ?_
  refine g_icmp_eq (pc := 723) (tgt := 728) C dL_law_723 (by decide) (by omega) (by omega) (fun _ => ?_) (fun h723 => absurd h723 (by omega))
  refine g_iload_5 (pc := 728) C dL_law_728 ?_
  by_cases h0 : code = 0
  · refine g_if_ne (pc := 730) (tgt := 745) C dL_law_730 (by decide) (by omega) (fun h730 => absurd h730 (by omega)) (fun _ => ?_)
    refine g_aload_3 (pc := 733) C dL_law_733 ?_
    refine g_iconst (pc := 734) C dL_law_734 ?_
    refine g_ald_12 (pc := 735) C (by omega) dL_law_735 ?_
    refine g_iload_6 (pc := 736) C dL_law_736 ?_
    refine g_i2l (pc := 738) C dL_law_738 (by omega) ?_
    refine g_lcmp (pc := 739) C (by rw [e12 h0]) dL_law_739 ?_
    refine g_if_eq (pc := 740) (tgt := 745) C dL_law_740 (by decide) (by omega) (fun _ => ?_) (fun h740 => absurd h740 (by omega))
    refine g_goto (pc := 745) (tgt := 1447) C dL_law_745 (by decide) ?_
    exact kk np' ad' U r code h13b hI
  · refine g_if_ne (pc := 730) (tgt := 745) C dL_law_730 (by decide) (by omega) (fun _ => ?_) (fun h730 => absurd h730 (by omega))
    refine g_goto (pc := 745) (tgt := 1447) C dL_law_745 (by decide) ?_
    exact kk np' ad' U r code h13b hI

theorem lw_day {l : Launch} {p : Program} {e : Env} {s : State} {m : MethodId} {below : List Frame} {meth : Method} {c : Code} {cs : CSt} {b L : Nat} {xs : Nat → Int32} {k n np : Nat} {ad : Nat → Nat} {T : MT} {i : Int} {z5 z6 : Option Value} {U : MT} {w : Int} (C : gC p l s m #[Value.ref b] meth c cs (fun q => s.heap.size ≤ q) 7 cL_law RL ret) (hX : scP b L xs (fun q => s.heap.size ≤ q) s) (hL : L ≤ 2560) (hi : 0 ≤ i ∧ i + 5 ≤ L) (hk : k ≤ 5000 ∧ n ≤ 60000) (h13 : 13 ≤ np) (Kc : KD l cs yX1_day (Cond.code yX1_day cX1_day 1 (some .int) :: GW) 7 8 48 [.ref (ad 0)] np ad T 0 (some (.int (zI w))) (np, ad, T)) (Km : KD l cs yX2_day (Cond.code yX2_day cX2_day 1 (some .int) :: GW) 0 0 0 [.ref (ad 4)] np ad T 0 (some (.int (zI w))) (np, ad, U)) (hw : -2147483648 ≤ w ∧ w < 2147483648) (kk : GG p l e room_1 s m #[Value.ref b] below meth c (lw_Z below #[Value.ref b] s) cs (fun q => s.heap.size ≤ q) 7 (k + 8) (n + 48) np ad U 1447 [some (.ref b), some (.ref (ad 0)), some (.ref (ad 4)), some (.ref (ad 12)), some (.int (zI i)), z5, z6] []) : GG p l e room_1 s m #[Value.ref b] below meth c (lw_Z below #[Value.ref b] s) cs (fun q => s.heap.size ≤ q) 7 k n np ad T 748 [some (.ref b), some (.ref (ad 0)), some (.ref (ad 4)), some (.ref (ad 12)), some (.int (zI i)), z5, z6] [] := by
  refine g_aload_1 (pc := 748) C dL_law_748 ?_
  refine g_call0 C (g_runV (pc := 749) C (ci := 1) (q := 0) (Cn := RX1) (TT := TX1) (N := 8) (As := []) (rest := []) Kc cs_L_119.1 cs_L_119.2 ⟨Nat.le_of_ble_eq_true rfl, Nat.le_of_ble_eq_true rfl⟩ (show 0 < np by omega) rfl rfl (Nat.le_of_ble_eq_true rfl) ⟨(by show k + 8 ≤ 601024; omega), (by show n + 48 ≤ 7293034; omega)⟩ dL_law_749) (fun E u h => absurd rfl h.1) (fun v u h => ?_)
  obtain ⟨-, rfl, rfl⟩ := h
  refine g_eq (st2 := [.int (zI w)]) rfl rfl rfl ?_
  refine g_aload_2 (pc := 752) C dL_law_752 ?_
  refine g_call0 C (g_runV (pc := 753) C (ci := 2) (q := 4) (Cn := RX2) (TT := TX2) (N := 11) (As := []) (rest := [.int (zI w)]) Km cs_L_122.1 cs_L_122.2 ⟨Nat.le_of_ble_eq_true rfl, Nat.le_of_ble_eq_true rfl⟩ (show 4 < np by omega) rfl rfl (Nat.le_of_ble_eq_true rfl) ⟨(by show k + 8 + 0 ≤ 601024; omega), (by show n + 48 + 0 ≤ 7293034; omega)⟩ dL_law_753) (fun E u h => absurd rfl h.1) (fun v u h => ?_)
  obtain ⟨-, rfl, rfl⟩ := h
  refine g_eq (st2 := [.int (zI w), .int (zI w)]) rfl rfl rfl ?_
  refine g_icmp_eq (pc := 756) (tgt := 1447) C dL_law_756 (by decide) (by omega) (by omega) (fun _ => ?_) (fun h756 => absurd h756 (by omega))
  exact kk

theorem lw_spans {l : Launch} {p : Program} {e : Env} {s : State} {m : MethodId} {below : List Frame} {meth : Method} {c : Code} {cs : CSt} {b L : Nat} {xs : Nat → Int32} {k n np : Nat} {ad : Nat → Nat} {T : MT} {i : Int} {z5 z6 : Option Value} {U : MT} {w : Int} (C : gC p l s m #[Value.ref b] meth c cs (fun q => s.heap.size ≤ q) 7 cL_law RL ret) (hX : scP b L xs (fun q => s.heap.size ≤ q) s) (hL : L ≤ 2560) (hi : 0 ≤ i ∧ i + 5 ≤ L) (hk : k ≤ 5000 ∧ n ≤ 60000) (h13 : 13 ≤ np) (Kc : KD l cs yX1_spans (Cond.code yX1_spans cX1_spans 6 (some .int) :: GW) 7 8 48 [.ref (ad 0)] np ad T 0 (some (.int (zI w))) (np, ad, T)) (Km : KD l cs yX2_spans (Cond.code yX2_spans cX2_spans 3 (some .int) :: GW) 0 0 0 [.ref (ad 4)] np ad T 0 (some (.int (zI w))) (np, ad, U)) (hw : -2147483648 ≤ w ∧ w < 2147483648) (kk : GG p l e room_1 s m #[Value.ref b] below meth c (lw_Z below #[Value.ref b] s) cs (fun q => s.heap.size ≤ q) 7 (k + 8) (n + 48) np ad U 1447 [some (.ref b), some (.ref (ad 0)), some (.ref (ad 4)), some (.ref (ad 12)), some (.int (zI i)), z5, z6] []) : GG p l e room_1 s m #[Value.ref b] below meth c (lw_Z below #[Value.ref b] s) cs (fun q => s.heap.size ≤ q) 7 k n np ad T 761 [some (.ref b), some (.ref (ad 0)), some (.ref (ad 4)), some (.ref (ad 12)), some (.int (zI i)), z5, z6] [] := by
  refine g_aload_1 (pc := 761) C dL_law_761 ?_
  refine g_call0 C (g_runV (pc := 762) C (ci := 1) (q := 0) (Cn := RX1) (TT := TX1) (N := 8) (As := []) (rest := []) Kc cs_L_123.1 cs_L_123.2 ⟨Nat.le_of_ble_eq_true rfl, Nat.le_of_ble_eq_true rfl⟩ (show 0 < np by omega) rfl rfl (Nat.le_of_ble_eq_true rfl) ⟨(by show k + 8 ≤ 601024; omega), (by show n + 48 ≤ 7293034; omega)⟩ dL_law_762) (fun E u h => absurd rfl h.1) (fun v u h => ?_)
  obtain ⟨-, rfl, rfl⟩ := h
  refine g_eq (st2 := [.int (zI w)]) rfl rfl rfl ?_
  refine g_aload_2 (pc := 765) C dL_law_765 ?_
  refine g_call0 C (g_runV (pc := 766) C (ci := 2) (q := 4) (Cn := RX2) (TT := TX2) (N := 11) (As := []) (rest := [.int (zI w)]) Km cs_L_126.1 cs_L_126.2 ⟨Nat.le_of_ble_eq_true rfl, Nat.le_of_ble_eq_true rfl⟩ (show 4 < np by omega) rfl rfl (Nat.le_of_ble_eq_true rfl) ⟨(by show k + 8 + 0 ≤ 601024; omega), (by show n + 48 + 0 ≤ 7293034; omega)⟩ dL_law_766) (fun E u h => absurd rfl h.1) (fun v u h => ?_)
  obtain ⟨-, rfl, rfl⟩ := h
  refine g_eq (st2 := [.int (zI w), .int (zI w)]) rfl rfl rfl ?_
  refine g_icmp_eq (pc := 769) (tgt := 1447) C dL_law_769 (by decide) (by omega) (by omega) (fun _ => ?_) (fun h769 => absurd h769 (by omega))
  exact kk

theorem lw_isThere {l : Launch} {p : Program} {e : Env} {s : State} {m : MethodId} {below : List Frame} {meth : Method} {c : Code} {cs : CSt} {b L : Nat} {xs : Nat → Int32} {k n np : Nat} {ad : Nat → Nat} {T : MT} {i : Int} {z5 z6 : Option Value} {U : MT} {w : Int} (C : gC p l s m #[Value.ref b] meth c cs (fun q => s.heap.size ≤ q) 7 cL_law RL ret) (hX : scP b L xs (fun q => s.heap.size ≤ q) s) (hL : L ≤ 2560) (hi : 0 ≤ i ∧ i + 5 ≤ L) (hk : k ≤ 5000 ∧ n ≤ 60000) (h13 : 13 ≤ np) (Kc : KD l cs yX1_isThere (Cond.code yX1_isThere cX1_isThere 2 (some .boolean) :: GW) 7 8 48 [.ref (ad 0), .int (zI (xs (i + 1).toNat).toInt)] np ad T 0 (some (.int (zI w))) (np, ad, T)) (Km : KD l cs yX2_isThere (Cond.code yX2_isThere cX2_isThere 2 (some .boolean) :: GW) 2 0 0 [.ref (ad 4), .int (zI (xs (i + 1).toNat).toInt)] np ad T 0 (some (.int (zI w))) (np, ad, U)) (hw : -2147483648 ≤ w ∧ w < 2147483648) (kk : GG p l e room_1 s m #[Value.ref b] below meth c (lw_Z below #[Value.ref b] s) cs (fun q => s.heap.size ≤ q) 7 (k + 8) (n + 48) np ad U 1447 [some (.ref b), some (.ref (ad 0)), some (.ref (ad 4)), some (.ref (ad 12)), some (.int (zI i)), z5, z6] []) : GG p l e room_1 s m #[Value.ref b] below meth c (lw_Z below #[Value.ref b] s) cs (fun q => s.heap.size ≤ q) 7 k n np ad T 774 [some (.ref b), some (.ref (ad 0)), some (.ref (ad 4)), some (.ref (ad 12)), some (.int (zI i)), z5, z6] [] := by
  refine g_aload_1 (pc := 774) C dL_law_774 ?_
  refine g_aload_0 (pc := 775) C dL_law_775 ?_
  refine g_iload_4 (pc := 776) C dL_law_776 ?_
  refine g_iconst (pc := 778) C dL_law_778 ?_
  refine g_iadd (pc := 779) C dL_law_779 ?_
  refine g_sld (pc := 780) C hX hL (by omega) dL_law_780 ?_
  refine g_call0 C (g_runV (pc := 781) C (ci := 1) (q := 0) (Cn := RX1) (TT := TX1) (N := 8) (As := [.int (zI (xs (i + 1).toNat).toInt)]) (rest := []) Kc cs_L_127.1 cs_L_127.2 ⟨Nat.le_of_ble_eq_true rfl, Nat.le_of_ble_eq_true rfl⟩ (show 0 < np by omega) rfl rfl (Nat.le_of_ble_eq_true rfl) ⟨(by show k + 8 ≤ 601024; omega), (by show n + 48 ≤ 7293034; omega)⟩ dL_law_781) (fun E u h => absurd rfl h.1) (fun v u h => ?_)
  obtain ⟨-, rfl, rfl⟩ := h
  refine g_eq (st2 := [.int (zI w)]) rfl rfl rfl ?_
  refine g_aload_2 (pc := 784) C dL_law_784 ?_
  refine g_aload_0 (pc := 785) C dL_law_785 ?_
  refine g_iload_4 (pc := 786) C dL_law_786 ?_
  refine g_iconst (pc := 788) C dL_law_788 ?_
  refine g_iadd (pc := 789) C dL_law_789 ?_
  refine g_sld (pc := 790) C hX hL (by omega) dL_law_790 ?_
  refine g_call0 C (g_runV (pc := 791) C (ci := 2) (q := 4) (Cn := RX2) (TT := TX2) (N := 11) (As := [.int (zI (xs (i + 1).toNat).toInt)]) (rest := [.int (zI w)]) Km cs_L_130.1 cs_L_130.2 ⟨Nat.le_of_ble_eq_true rfl, Nat.le_of_ble_eq_true rfl⟩ (show 4 < np by omega) rfl rfl (Nat.le_of_ble_eq_true rfl) ⟨(by show k + 8 + 0 ≤ 601024; omega), (by show n + 48 + 0 ≤ 7293034; omega)⟩ dL_law_791) (fun E u h => absurd rfl h.1) (fun v u h => ?_)
  obtain ⟨-, rfl, rfl⟩ := h
  refine g_eq (st2 := [.int (zI w), .int (zI w)]) rfl rfl rfl ?_
  refine g_icmp_eq (pc := 794) (tgt := 1447) C dL_law_794 (by decide) (by omega) (by omega) (fun _ => ?_) (fun h794 => absurd h794 (by omega))
  exact kk

theorem cx_L_131 : GoodIn GW (va_wsS RL 131 yL_base (Cond.codeWith yL_base cL_base 4 (some .int) [(0, 9, 12, 13)] :: GW)) ∧ (yL_base.cls ≠ "java/lang/invoke/MethodHandle" ∧ yL_base.cls ≠ "java/lang/invoke/VarHandle" ∧ (parseMethodDescriptor yL_base.desc).map (fun d => d.parameters.length) = some 3) := ⟨GW_X ml_L_131 mt_L_base ini_PrefixYardLaw mc_L_base, by decide +kernel⟩
theorem lw_base {l : Launch} {p : Program} {e : Env} {s : State} {m : MethodId} {below : List Frame} {meth : Method} {c : Code} {cs : CSt} {b L : Nat} {xs : Nat → Int32} {k n np : Nat} {ad : Nat → Nat} {T : MT} {i : Int} {z5 z6 : Option Value} (C : gC p l s m #[Value.ref b] meth c cs (fun q => s.heap.size ≤ q) 7 cL_law RL ret) (hX : scP b L xs (fun q => s.heap.size ≤ q) s) (hL : L ≤ 2560) (hi : 0 ≤ i ∧ i + 5 ≤ L) (hk : k ≤ 5000 ∧ n ≤ 60000) (h13 : 13 ≤ np) {PRh : Option Value → St3 → Prop} (Kh : KC l cs yL_base (Cond.codeWith yL_base cL_base 4 (some .int) [(0, 9, 12, 13)] :: GW) 8 8 48 [.ref (ad 0), .int (zI (xs (i + 1).toNat).toInt), .ref (ad 12)] np ad T PRh (fun _ _ => False)) (hp : ∀ v u, PRh v u → okP l cs yX2_base (Cond.code yX2_base cX2_base 2 (some .int) :: GW) 2 [.int (zI (xs (i + 1).toNat).toInt)] ad (fun _ => True) v u) (kk : ∀ (np' : Nat) (ad' : Nat → Nat) (U : MT) (r code : Int), 13 ≤ np' → Inv np' U → GG p l e room_1 s m #[Value.ref b] below meth c (lw_Z below #[Value.ref b] s) cs (fun q => s.heap.size ≤ q) 7 (k + 8) (n + 48) np' ad' U 1447 [some (.ref b), some (.ref (ad' 0)), some (.ref (ad' 4)), some (.ref (ad' 12)), some (.int (zI i)), some (.int (zI code)), some (.int (zI r))] []) : GG p l e room_1 s m #[Value.ref b] below meth c (lw_Z below #[Value.ref b] s) cs (fun q => s.heap.size ≤ q) 7 k n np ad T 799 [some (.ref b), some (.ref (ad 0)), some (.ref (ad 4)), some (.ref (ad 12)), some (.int (zI i)), z5, z6] [] := by
  refine g_aload_1 (pc := 799) C dL_law_799 ?_
  refine g_aload_0 (pc := 800) C dL_law_800 ?_
  refine g_iload_4 (pc := 801) C dL_law_801 ?_
  refine g_iconst (pc := 803) C dL_law_803 ?_
  refine g_iadd (pc := 804) C dL_law_804 ?_
  refine g_sld (pc := 805) C hX hL (by omega) dL_law_805 ?_
  refine g_aload_3 (pc := 806) C dL_law_806 ?_
  refine g_call0 C (g_runX (pc := 807) C (As := [.ref (ad 0), .int (zI (xs (i + 1).toNat).toInt), .ref (ad 12)]) (rest := []) Kh cx_L_131.1 cx_L_131.2 ⟨Nat.le_of_ble_eq_true rfl, Nat.le_of_ble_eq_true rfl⟩ (Nat.le_of_ble_eq_true rfl) ⟨(by show k + 8 ≤ 601024; omega), (by show n + 48 ≤ 7293034; omega)⟩ dL_law_807) (fun E u h => h.elim) (fun v u h => ?_)
  obtain ⟨code, rfl, hc, h13b, ⟨q0, q4, q12⟩, Km⟩ := hp v u h
  obtain ⟨np', ad', T'⟩ := u
  dsimp only at h13b q0 q4 q12 Km
  refine g_eq (lv2 := [some (.ref b), some (.ref (ad' 0)), some (.ref (ad' 4)), some (.ref (ad' 12)), some (.int (zI i)), z5, z6]) (st2 := [.int (zI code)]) rfl (by rw [q0, q4, q12]) rfl ?_
  refine g_istore_5 (pc := 810) C dL_law_810 ?_
  refine g_aload_2 (pc := 812) C dL_law_812 ?_
  refine g_aload_0 (pc := 813) C dL_law_813 ?_
  refine g_iload_4 (pc := 814) C dL_law_814 ?_
  refine g_iconst (pc := 816) C dL_law_816 ?_
  refine g_iadd (pc := 817) C dL_law_817 ?_
  refine g_sld (pc := 818) C hX hL (by omega) dL_law_818 ?_
  refine g_call0 C (g_runV (pc := 819) C (ci := 2) (q := 4) (Cn := RX2) (TT := TX2) (N := 11) (As := [.int (zI (xs (i + 1).toNat).toInt)]) (rest := []) Km cs_L_133.1 cs_L_133.2 ⟨Nat.le_of_ble_eq_true rfl, Nat.le_of_ble_eq_true rfl⟩ (show 4 < np' by omega) rfl rfl (Nat.le_of_ble_eq_true rfl) ⟨(by show k + 8 + 0 ≤ 601024; omega), (by show n + 48 + 0 ≤ 7293034; omega)⟩ dL_law_819) (fun E u h => h.elim) (fun v2 u2 h2 => ?_)
  obtain ⟨r, U, rfl, hr, rfl, e40, e12, hI⟩ := h2
  refine g_eq (st2 := [.int (zI r)]) rfl rfl rfl ?_
  dsimp only
  refine g_istore_6 (pc := 822) C dL_law_822 ?_
  refine g_aload_2 (pc := 824) C dL_law_824 ?_
  refine g_cM0Pv (pc := 825) C cs_L_89 (k_X2_thrown (by omega)) ⟨Nat.le_of_ble_eq_true rfl, Nat.le_of_ble_eq_true rfl⟩ (by omega) (Nat.le_of_ble_eq_true rfl) ⟨(by show k + 8 + 0 + 0 ≤ 601024; omega), (by show n + 48 + 0 + 0 ≤ 7293034; omega)⟩ dL_law_825 ?_
  rw [e40]
  refine g_iload_5 (pc := 828) C dL_law_828 ?_
  refine g_icmp_eq (pc := 830) (tgt := 835) C dL_law_830 (by decide) (by omega) (by omega) (fun _ => ?_) (fun h830 => absurd h830 (by omega))
  refine g_iload_5 (pc := 835) C dL_law_835 ?_
  by_cases h0 : code = 0
  · refine g_if_ne (pc := 837) (tgt := 852) C dL_law_837 (by decide) (by omega) (fun h837 => absurd h837 (by omega)) (fun _ => ?_)
    refine g_aload_3 (pc := 840) C dL_law_840 ?_
    refine g_iconst (pc := 841) C dL_law_841 ?_
    refine g_ald_12 (pc := 842) C (by omega) dL_law_842 ?_
    refine g_iload_6 (pc := 843) C dL_law_843 ?_
    refine g_i2l (pc := 845) C dL_law_845 (by omega) ?_
    refine g_lcmp (pc := 846) C (by rw [e12 h0]) dL_law_846 ?_
    refine g_if_eq (pc := 847) (tgt := 852) C dL_law_847 (by decide) (by omega) (fun _ => ?_) (fun h847 => absurd h847 (by omega))
    refine g_goto (pc := 852) (tgt := 1447) C dL_law_852 (by decide) ?_
    exact kk np' ad' U r code h13b hI
  · refine g_if_ne (pc := 837) (tgt := 852) C dL_law_837 (by decide) (by omega) (fun _ => ?_) (fun h837 => absurd h837 (by omega))
    refine g_goto (pc := 852) (tgt := 1447) C dL_law_852 (by decide) ?_
    exact kk np' ad' U r code h13b hI

theorem cx_L_134 : GoodIn GW (va_wsS RL 134 yL_size (Cond.codeWith yL_size cL_size 4 (some .int) [(0, 9, 12, 13)] :: GW)) ∧ (yL_size.cls ≠ "java/lang/invoke/MethodHandle" ∧ yL_size.cls ≠ "java/lang/invoke/VarHandle" ∧ (parseMethodDescriptor yL_size.desc).map (fun d => d.parameters.length) = some 3) := ⟨GW_X ml_L_134 mt_L_size ini_PrefixYardLaw mc_L_size, by decide +kernel⟩
theorem lw_size {l : Launch} {p : Program} {e : Env} {s : State} {m : MethodId} {below : List Frame} {meth : Method} {c : Code} {cs : CSt} {b L : Nat} {xs : Nat → Int32} {k n np : Nat} {ad : Nat → Nat} {T : MT} {i : Int} {z5 z6 : Option Value} (C : gC p l s m #[Value.ref b] meth c cs (fun q => s.heap.size ≤ q) 7 cL_law RL ret) (hX : scP b L xs (fun q => s.heap.size ≤ q) s) (hL : L ≤ 2560) (hi : 0 ≤ i ∧ i + 5 ≤ L) (hk : k ≤ 5000 ∧ n ≤ 60000) (h13 : 13 ≤ np) {PRh : Option Value → St3 → Prop} (Kh : KC l cs yL_size (Cond.codeWith yL_size cL_size 4 (some .int) [(0, 9, 12, 13)] :: GW) 8 8 48 [.ref (ad 0), .int (zI (xs (i + 1).toNat).toInt), .ref (ad 12)] np ad T PRh (fun _ _ => False)) (hp : ∀ v u, PRh v u → okP l cs yX2_size (Cond.code yX2_size cX2_size 2 (some .int) :: GW) 2 [.int (zI (xs (i + 1).toNat).toInt)] ad (fun _ => True) v u) (kk : ∀ (np' : Nat) (ad' : Nat → Nat) (U : MT) (r code : Int), 13 ≤ np' → Inv np' U → GG p l e room_1 s m #[Value.ref b] below meth c (lw_Z below #[Value.ref b] s) cs (fun q => s.heap.size ≤ q) 7 (k + 8) (n + 48) np' ad' U 1447 [some (.ref b), some (.ref (ad' 0)), some (.ref (ad' 4)), some (.ref (ad' 12)), some (.int (zI i)), some (.int (zI code)), some (.int (zI r))] []) : GG p l e room_1 s m #[Value.ref b] below meth c (lw_Z below #[Value.ref b] s) cs (fun q => s.heap.size ≤ q) 7 k n np ad T 855 [some (.ref b), some (.ref (ad 0)), some (.ref (ad 4)), some (.ref (ad 12)), some (.int (zI i)), z5, z6] [] := by
  refine g_aload_1 (pc := 855) C dL_law_855 ?_
  refine g_aload_0 (pc := 856) C dL_law_856 ?_
  refine g_iload_4 (pc := 857) C dL_law_857 ?_
  refine g_iconst (pc := 859) C dL_law_859 ?_
  refine g_iadd (pc := 860) C dL_law_860 ?_
  refine g_sld (pc := 861) C hX hL (by omega) dL_law_861 ?_
  refine g_aload_3 (pc := 862) C dL_law_862 ?_
  refine g_call0 C (g_runX (pc := 863) C (As := [.ref (ad 0), .int (zI (xs (i + 1).toNat).toInt), .ref (ad 12)]) (rest := []) Kh cx_L_134.1 cx_L_134.2 ⟨Nat.le_of_ble_eq_true rfl, Nat.le_of_ble_eq_true rfl⟩ (Nat.le_of_ble_eq_true rfl) ⟨(by show k + 8 ≤ 601024; omega), (by show n + 48 ≤ 7293034; omega)⟩ dL_law_863) (fun E u h => h.elim) (fun v u h => ?_)
  obtain ⟨code, rfl, hc, h13b, ⟨q0, q4, q12⟩, Km⟩ := hp v u h
  obtain ⟨np', ad', T'⟩ := u
  dsimp only at h13b q0 q4 q12 Km
  refine g_eq (lv2 := [some (.ref b), some (.ref (ad' 0)), some (.ref (ad' 4)), some (.ref (ad' 12)), some (.int (zI i)), z5, z6]) (st2 := [.int (zI code)]) rfl (by rw [q0, q4, q12]) rfl ?_
  refine g_istore_5 (pc := 866) C dL_law_866 ?_
  refine g_aload_2 (pc := 868) C dL_law_868 ?_
  refine g_aload_0 (pc := 869) C dL_law_869 ?_
  refine g_iload_4 (pc := 870) C dL_law_870 ?_
  refine g_iconst (pc := 872) C dL_law_872 ?_
  refine g_iadd (pc := 873) C dL_law_873 ?_
  refine g_sld (pc := 874) C hX hL (by omega) dL_law_874 ?_
  refine g_call0 C (g_runV (pc := 875) C (ci := 2) (q := 4) (Cn := RX2) (TT := TX2) (N := 11) (As := [.int (zI (xs (i + 1).toNat).toInt)]) (rest := []) Km cs_L_136.1 cs_L_136.2 ⟨Nat.le_of_ble_eq_true rfl, Nat.le_of_ble_eq_true rfl⟩ (show 4 < np' by omega) rfl rfl (Nat.le_of_ble_eq_true rfl) ⟨(by show k + 8 + 0 ≤ 601024; omega), (by show n + 48 + 0 ≤ 7293034; omega)⟩ dL_law_875) (fun E u h => h.elim) (fun v2 u2 h2 => ?_)
  obtain ⟨r, U, rfl, hr, rfl, e40, e12, hI⟩ := h2
  refine g_eq (st2 := [.int (zI r)]) rfl rfl rfl ?_
  dsimp only
  refine g_istore_6 (pc := 878) C dL_law_878 ?_
  refine g_aload_2 (pc := 880) C dL_law_880 ?_
  refine g_cM0Pv (pc := 881) C cs_L_89 (k_X2_thrown (by omega)) ⟨Nat.le_of_ble_eq_true rfl, Nat.le_of_ble_eq_true rfl⟩ (by omega) (Nat.le_of_ble_eq_true rfl) ⟨(by show k + 8 + 0 + 0 ≤ 601024; omega), (by show n + 48 + 0 + 0 ≤ 7293034; omega)⟩ dL_law_881 ?_
  rw [e40]
  refine g_iload_5 (pc := 884) C dL_law_884 ?_
  refine g_icmp_eq (pc := 886) (tgt := 891) C dL_law_886 (by decide) (by omega) (by omega) (fun _ => ?_) (fun h886 => absurd h886 (by omega))
  refine g_iload_5 (pc := 891) C dL_law_891 ?_
  by_cases h0 : code = 0
  · refine g_if_ne (pc := 893) (tgt := 908) C dL_law_893 (by decide) (by omega) (fun h893 => absurd h893 (by omega)) (fun _ => ?_)
    refine g_aload_3 (pc := 896) C dL_law_896 ?_
    refine g_iconst (pc := 897) C dL_law_897 ?_
    refine g_ald_12 (pc := 898) C (by omega) dL_law_898 ?_
    refine g_iload_6 (pc := 899) C dL_law_899 ?_
    refine g_i2l (pc := 901) C dL_law_901 (by omega) ?_
    refine g_lcmp (pc := 902) C (by rw [e12 h0]) dL_law_902 ?_
    refine g_if_eq (pc := 903) (tgt := 908) C dL_law_903 (by decide) (by omega) (fun _ => ?_) (fun h903 => absurd h903 (by omega))
    refine g_goto (pc := 908) (tgt := 1447) C dL_law_908 (by decide) ?_
    exact kk np' ad' U r code h13b hI
  · refine g_if_ne (pc := 893) (tgt := 908) C dL_law_893 (by decide) (by omega) (fun _ => ?_) (fun h893 => absurd h893 (by omega))
    refine g_goto (pc := 908) (tgt := 1447) C dL_law_908 (by decide) ?_
    exact kk np' ad' U r code h13b hI

theorem cx_L_137 : GoodIn GW (va_wsS RL 137 yL_parent (Cond.codeWith yL_parent cL_parent 4 (some .int) [(0, 9, 12, 13)] :: GW)) ∧ (yL_parent.cls ≠ "java/lang/invoke/MethodHandle" ∧ yL_parent.cls ≠ "java/lang/invoke/VarHandle" ∧ (parseMethodDescriptor yL_parent.desc).map (fun d => d.parameters.length) = some 3) := ⟨GW_X ml_L_137 mt_L_parent ini_PrefixYardLaw mc_L_parent, by decide +kernel⟩
theorem lw_parent {l : Launch} {p : Program} {e : Env} {s : State} {m : MethodId} {below : List Frame} {meth : Method} {c : Code} {cs : CSt} {b L : Nat} {xs : Nat → Int32} {k n np : Nat} {ad : Nat → Nat} {T : MT} {i : Int} {z5 z6 : Option Value} (C : gC p l s m #[Value.ref b] meth c cs (fun q => s.heap.size ≤ q) 7 cL_law RL ret) (hX : scP b L xs (fun q => s.heap.size ≤ q) s) (hL : L ≤ 2560) (hi : 0 ≤ i ∧ i + 5 ≤ L) (hk : k ≤ 5000 ∧ n ≤ 60000) (h13 : 13 ≤ np) {PRh : Option Value → St3 → Prop} (Kh : KC l cs yL_parent (Cond.codeWith yL_parent cL_parent 4 (some .int) [(0, 9, 12, 13)] :: GW) 8 8 48 [.ref (ad 0), .int (zI (xs (i + 1).toNat).toInt), .ref (ad 12)] np ad T PRh (fun _ _ => False)) (hp : ∀ v u, PRh v u → okP l cs yX2_parent (Cond.code yX2_parent cX2_parent 2 (some .int) :: GW) 2 [.int (zI (xs (i + 1).toNat).toInt)] ad (fun _ => True) v u) (kk : ∀ (np' : Nat) (ad' : Nat → Nat) (U : MT) (r code : Int), 13 ≤ np' → Inv np' U → GG p l e room_1 s m #[Value.ref b] below meth c (lw_Z below #[Value.ref b] s) cs (fun q => s.heap.size ≤ q) 7 (k + 8) (n + 48) np' ad' U 1447 [some (.ref b), some (.ref (ad' 0)), some (.ref (ad' 4)), some (.ref (ad' 12)), some (.int (zI i)), some (.int (zI code)), some (.int (zI r))] []) : GG p l e room_1 s m #[Value.ref b] below meth c (lw_Z below #[Value.ref b] s) cs (fun q => s.heap.size ≤ q) 7 k n np ad T 911 [some (.ref b), some (.ref (ad 0)), some (.ref (ad 4)), some (.ref (ad 12)), some (.int (zI i)), z5, z6] [] := by
  refine g_aload_1 (pc := 911) C dL_law_911 ?_
  refine g_aload_0 (pc := 912) C dL_law_912 ?_
  refine g_iload_4 (pc := 913) C dL_law_913 ?_
  refine g_iconst (pc := 915) C dL_law_915 ?_
  refine g_iadd (pc := 916) C dL_law_916 ?_
  refine g_sld (pc := 917) C hX hL (by omega) dL_law_917 ?_
  refine g_aload_3 (pc := 918) C dL_law_918 ?_
  refine g_call0 C (g_runX (pc := 919) C (As := [.ref (ad 0), .int (zI (xs (i + 1).toNat).toInt), .ref (ad 12)]) (rest := []) Kh cx_L_137.1 cx_L_137.2 ⟨Nat.le_of_ble_eq_true rfl, Nat.le_of_ble_eq_true rfl⟩ (Nat.le_of_ble_eq_true rfl) ⟨(by show k + 8 ≤ 601024; omega), (by show n + 48 ≤ 7293034; omega)⟩ dL_law_919) (fun E u h => h.elim) (fun v u h => ?_)
  obtain ⟨code, rfl, hc, h13b, ⟨q0, q4, q12⟩, Km⟩ := hp v u h
  obtain ⟨np', ad', T'⟩ := u
  dsimp only at h13b q0 q4 q12 Km
  refine g_eq (lv2 := [some (.ref b), some (.ref (ad' 0)), some (.ref (ad' 4)), some (.ref (ad' 12)), some (.int (zI i)), z5, z6]) (st2 := [.int (zI code)]) rfl (by rw [q0, q4, q12]) rfl ?_
  refine g_istore_5 (pc := 922) C dL_law_922 ?_
  refine g_aload_2 (pc := 924) C dL_law_924 ?_
  refine g_aload_0 (pc := 925) C dL_law_925 ?_
  refine g_iload_4 (pc := 926) C dL_law_926 ?_
  refine g_iconst (pc := 928) C dL_law_928 ?_
  refine g_iadd (pc := 929) C dL_law_929 ?_
  refine g_sld (pc := 930) C hX hL (by omega) dL_law_930 ?_
  refine g_call0 C (g_runV (pc := 931) C (ci := 2) (q := 4) (Cn := RX2) (TT := TX2) (N := 11) (As := [.int (zI (xs (i + 1).toNat).toInt)]) (rest := []) Km cs_L_139.1 cs_L_139.2 ⟨Nat.le_of_ble_eq_true rfl, Nat.le_of_ble_eq_true rfl⟩ (show 4 < np' by omega) rfl rfl (Nat.le_of_ble_eq_true rfl) ⟨(by show k + 8 + 0 ≤ 601024; omega), (by show n + 48 + 0 ≤ 7293034; omega)⟩ dL_law_931) (fun E u h => h.elim) (fun v2 u2 h2 => ?_)
  obtain ⟨r, U, rfl, hr, rfl, e40, e12, hI⟩ := h2
  refine g_eq (st2 := [.int (zI r)]) rfl rfl rfl ?_
  dsimp only
  refine g_istore_6 (pc := 934) C dL_law_934 ?_
  refine g_aload_2 (pc := 936) C dL_law_936 ?_
  refine g_cM0Pv (pc := 937) C cs_L_89 (k_X2_thrown (by omega)) ⟨Nat.le_of_ble_eq_true rfl, Nat.le_of_ble_eq_true rfl⟩ (by omega) (Nat.le_of_ble_eq_true rfl) ⟨(by show k + 8 + 0 + 0 ≤ 601024; omega), (by show n + 48 + 0 + 0 ≤ 7293034; omega)⟩ dL_law_937 ?_
  rw [e40]
  refine g_iload_5 (pc := 940) C dL_law_940 ?_
  refine g_icmp_eq (pc := 942) (tgt := 947) C dL_law_942 (by decide) (by omega) (by omega) (fun _ => ?_) (fun h942 => absurd h942 (by omega))
  refine g_iload_5 (pc := 947) C dL_law_947 ?_
  by_cases h0 : code = 0
  · refine g_if_ne (pc := 949) (tgt := 964) C dL_law_949 (by decide) (by omega) (fun h949 => absurd h949 (by omega)) (fun _ => ?_)
    refine g_aload_3 (pc := 952) C dL_law_952 ?_
    refine g_iconst (pc := 953) C dL_law_953 ?_
    refine g_ald_12 (pc := 954) C (by omega) dL_law_954 ?_
    refine g_iload_6 (pc := 955) C dL_law_955 ?_
    refine g_i2l (pc := 957) C dL_law_957 (by omega) ?_
    refine g_lcmp (pc := 958) C (by rw [e12 h0]) dL_law_958 ?_
    refine g_if_eq (pc := 959) (tgt := 964) C dL_law_959 (by decide) (by omega) (fun _ => ?_) (fun h959 => absurd h959 (by omega))
    refine g_goto (pc := 964) (tgt := 1447) C dL_law_964 (by decide) ?_
    exact kk np' ad' U r code h13b hI
  · refine g_if_ne (pc := 949) (tgt := 964) C dL_law_949 (by decide) (by omega) (fun _ => ?_) (fun h949 => absurd h949 (by omega))
    refine g_goto (pc := 964) (tgt := 1447) C dL_law_964 (by decide) ?_
    exact kk np' ad' U r code h13b hI

theorem cx_L_140 : GoodIn GW (va_wsS RL 140 yL_free (Cond.codeWith yL_free cL_free 4 (some .int) [(0, 9, 12, 13)] :: GW)) ∧ (yL_free.cls ≠ "java/lang/invoke/MethodHandle" ∧ yL_free.cls ≠ "java/lang/invoke/VarHandle" ∧ (parseMethodDescriptor yL_free.desc).map (fun d => d.parameters.length) = some 3) := ⟨GW_X ml_L_140 mt_L_free ini_PrefixYardLaw mc_L_free, by decide +kernel⟩
theorem lw_free {l : Launch} {p : Program} {e : Env} {s : State} {m : MethodId} {below : List Frame} {meth : Method} {c : Code} {cs : CSt} {b L : Nat} {xs : Nat → Int32} {k n np : Nat} {ad : Nat → Nat} {T : MT} {i : Int} {z5 z6 : Option Value} (C : gC p l s m #[Value.ref b] meth c cs (fun q => s.heap.size ≤ q) 7 cL_law RL ret) (hX : scP b L xs (fun q => s.heap.size ≤ q) s) (hL : L ≤ 2560) (hi : 0 ≤ i ∧ i + 5 ≤ L) (hk : k ≤ 5000 ∧ n ≤ 60000) (h13 : 13 ≤ np) {PRh : Option Value → St3 → Prop} (Kh : KC l cs yL_free (Cond.codeWith yL_free cL_free 4 (some .int) [(0, 9, 12, 13)] :: GW) 8 8 48 [.ref (ad 0), .int (zI (xs (i + 1).toNat).toInt), .ref (ad 12)] np ad T PRh (fun _ _ => False)) (hp : ∀ v u, PRh v u → okP l cs yX2_free (Cond.code yX2_free cX2_free 4 (some .int) :: GW) 2 [.int (zI (xs (i + 1).toNat).toInt)] ad (fun _ => True) v u) (kk : ∀ (np' : Nat) (ad' : Nat → Nat) (U : MT) (r code : Int), 13 ≤ np' → Inv np' U → GG p l e room_1 s m #[Value.ref b] below meth c (lw_Z below #[Value.ref b] s) cs (fun q => s.heap.size ≤ q) 7 (k + 8) (n + 48) np' ad' U 1447 [some (.ref b), some (.ref (ad' 0)), some (.ref (ad' 4)), some (.ref (ad' 12)), some (.int (zI i)), some (.int (zI code)), some (.int (zI r))] []) : GG p l e room_1 s m #[Value.ref b] below meth c (lw_Z below #[Value.ref b] s) cs (fun q => s.heap.size ≤ q) 7 k n np ad T 967 [some (.ref b), some (.ref (ad 0)), some (.ref (ad 4)), some (.ref (ad 12)), some (.int (zI i)), z5, z6] [] := by
  refine g_aload_1 (pc := 967) C dL_law_967 ?_
  refine g_aload_0 (pc := 968) C dL_law_968 ?_
  refine g_iload_4 (pc := 969) C dL_law_969 ?_
  refine g_iconst (pc := 971) C dL_law_971 ?_
  refine g_iadd (pc := 972) C dL_law_972 ?_
  refine g_sld (pc := 973) C hX hL (by omega) dL_law_973 ?_
  refine g_aload_3 (pc := 974) C dL_law_974 ?_
  refine g_call0 C (g_runX (pc := 975) C (As := [.ref (ad 0), .int (zI (xs (i + 1).toNat).toInt), .ref (ad 12)]) (rest := []) Kh cx_L_140.1 cx_L_140.2 ⟨Nat.le_of_ble_eq_true rfl, Nat.le_of_ble_eq_true rfl⟩ (Nat.le_of_ble_eq_true rfl) ⟨(by show k + 8 ≤ 601024; omega), (by show n + 48 ≤ 7293034; omega)⟩ dL_law_975) (fun E u h => h.elim) (fun v u h => ?_)
  obtain ⟨code, rfl, hc, h13b, ⟨q0, q4, q12⟩, Km⟩ := hp v u h
  obtain ⟨np', ad', T'⟩ := u
  dsimp only at h13b q0 q4 q12 Km
  refine g_eq (lv2 := [some (.ref b), some (.ref (ad' 0)), some (.ref (ad' 4)), some (.ref (ad' 12)), some (.int (zI i)), z5, z6]) (st2 := [.int (zI code)]) rfl (by rw [q0, q4, q12]) rfl ?_
  refine g_istore_5 (pc := 978) C dL_law_978 ?_
  refine g_aload_2 (pc := 980) C dL_law_980 ?_
  refine g_aload_0 (pc := 981) C dL_law_981 ?_
  refine g_iload_4 (pc := 982) C dL_law_982 ?_
  refine g_iconst (pc := 984) C dL_law_984 ?_
  refine g_iadd (pc := 985) C dL_law_985 ?_
  refine g_sld (pc := 986) C hX hL (by omega) dL_law_986 ?_
  refine g_call0 C (g_runV (pc := 987) C (ci := 2) (q := 4) (Cn := RX2) (TT := TX2) (N := 11) (As := [.int (zI (xs (i + 1).toNat).toInt)]) (rest := []) Km cs_L_142.1 cs_L_142.2 ⟨Nat.le_of_ble_eq_true rfl, Nat.le_of_ble_eq_true rfl⟩ (show 4 < np' by omega) rfl rfl (Nat.le_of_ble_eq_true rfl) ⟨(by show k + 8 + 0 ≤ 601024; omega), (by show n + 48 + 0 ≤ 7293034; omega)⟩ dL_law_987) (fun E u h => h.elim) (fun v2 u2 h2 => ?_)
  obtain ⟨r, U, rfl, hr, rfl, e40, e12, hI⟩ := h2
  refine g_eq (st2 := [.int (zI r)]) rfl rfl rfl ?_
  dsimp only
  refine g_istore_6 (pc := 990) C dL_law_990 ?_
  refine g_aload_2 (pc := 992) C dL_law_992 ?_
  refine g_cM0Pv (pc := 993) C cs_L_89 (k_X2_thrown (by omega)) ⟨Nat.le_of_ble_eq_true rfl, Nat.le_of_ble_eq_true rfl⟩ (by omega) (Nat.le_of_ble_eq_true rfl) ⟨(by show k + 8 + 0 + 0 ≤ 601024; omega), (by show n + 48 + 0 + 0 ≤ 7293034; omega)⟩ dL_law_993 ?_
  rw [e40]
  refine g_iload_5 (pc := 996) C dL_law_996 ?_
  refine g_icmp_eq (pc := 998) (tgt := 1003) C dL_law_998 (by decide) (by omega) (by omega) (fun _ => ?_) (fun h998 => absurd h998 (by omega))
  refine g_iload_5 (pc := 1003) C dL_law_1003 ?_
  by_cases h0 : code = 0
  · refine g_if_ne (pc := 1005) (tgt := 1020) C dL_law_1005 (by decide) (by omega) (fun h1005 => absurd h1005 (by omega)) (fun _ => ?_)
    refine g_aload_3 (pc := 1008) C dL_law_1008 ?_
    refine g_iconst (pc := 1009) C dL_law_1009 ?_
    refine g_ald_12 (pc := 1010) C (by omega) dL_law_1010 ?_
    refine g_iload_6 (pc := 1011) C dL_law_1011 ?_
    refine g_i2l (pc := 1013) C dL_law_1013 (by omega) ?_
    refine g_lcmp (pc := 1014) C (by rw [e12 h0]) dL_law_1014 ?_
    refine g_if_eq (pc := 1015) (tgt := 1020) C dL_law_1015 (by decide) (by omega) (fun _ => ?_) (fun h1015 => absurd h1015 (by omega))
    refine g_goto (pc := 1020) (tgt := 1447) C dL_law_1020 (by decide) ?_
    exact kk np' ad' U r code h13b hI
  · refine g_if_ne (pc := 1005) (tgt := 1020) C dL_law_1005 (by decide) (by omega) (fun _ => ?_) (fun h1005 => absurd h1005 (by omega))
    refine g_goto (pc := 1020) (tgt := 1447) C dL_law_1020 (by decide) ?_
    exact kk np' ad' U r code h13b hI

theorem cx_L_143 : GoodIn GW (va_wsS RL 143 yL_greatestFree (Cond.codeWith yL_greatestFree cL_greatestFree 4 (some .int) [(0, 9, 12, 13)] :: GW)) ∧ (yL_greatestFree.cls ≠ "java/lang/invoke/MethodHandle" ∧ yL_greatestFree.cls ≠ "java/lang/invoke/VarHandle" ∧ (parseMethodDescriptor yL_greatestFree.desc).map (fun d => d.parameters.length) = some 3) := ⟨GW_X ml_L_143 mt_L_greatestFree ini_PrefixYardLaw mc_L_greatestFree, by decide +kernel⟩
theorem lw_greatestFree {l : Launch} {p : Program} {e : Env} {s : State} {m : MethodId} {below : List Frame} {meth : Method} {c : Code} {cs : CSt} {b L : Nat} {xs : Nat → Int32} {k n np : Nat} {ad : Nat → Nat} {T : MT} {i : Int} {z5 z6 : Option Value} (C : gC p l s m #[Value.ref b] meth c cs (fun q => s.heap.size ≤ q) 7 cL_law RL ret) (hX : scP b L xs (fun q => s.heap.size ≤ q) s) (hL : L ≤ 2560) (hi : 0 ≤ i ∧ i + 5 ≤ L) (hk : k ≤ 5000 ∧ n ≤ 60000) (h13 : 13 ≤ np) {PRh : Option Value → St3 → Prop} (Kh : KC l cs yL_greatestFree (Cond.codeWith yL_greatestFree cL_greatestFree 4 (some .int) [(0, 9, 12, 13)] :: GW) 8 8 48 [.ref (ad 0), .int (zI (xs (i + 1).toNat).toInt), .ref (ad 12)] np ad T PRh (fun _ _ => False)) (hp : ∀ v u, PRh v u → okP l cs yX2_greatestFree (Cond.code yX2_greatestFree cX2_greatestFree 4 (some .int) :: GW) 2 [.int (zI (xs (i + 1).toNat).toInt)] ad (fun _ => True) v u) (kk : ∀ (np' : Nat) (ad' : Nat → Nat) (U : MT) (r code : Int), 13 ≤ np' → Inv np' U → GG p l e room_1 s m #[Value.ref b] below meth c (lw_Z below #[Value.ref b] s) cs (fun q => s.heap.size ≤ q) 7 (k + 8) (n + 48) np' ad' U 1447 [some (.ref b), some (.ref (ad' 0)), some (.ref (ad' 4)), some (.ref (ad' 12)), some (.int (zI i)), some (.int (zI code)), some (.int (zI r))] []) : GG p l e room_1 s m #[Value.ref b] below meth c (lw_Z below #[Value.ref b] s) cs (fun q => s.heap.size ≤ q) 7 k n np ad T 1023 [some (.ref b), some (.ref (ad 0)), some (.ref (ad 4)), some (.ref (ad 12)), some (.int (zI i)), z5, z6] [] := by
  refine g_aload_1 (pc := 1023) C dL_law_1023 ?_
  refine g_aload_0 (pc := 1024) C dL_law_1024 ?_
  refine g_iload_4 (pc := 1025) C dL_law_1025 ?_
  refine g_iconst (pc := 1027) C dL_law_1027 ?_
  refine g_iadd (pc := 1028) C dL_law_1028 ?_
  refine g_sld (pc := 1029) C hX hL (by omega) dL_law_1029 ?_
  refine g_aload_3 (pc := 1030) C dL_law_1030 ?_
  refine g_call0 C (g_runX (pc := 1031) C (As := [.ref (ad 0), .int (zI (xs (i + 1).toNat).toInt), .ref (ad 12)]) (rest := []) Kh cx_L_143.1 cx_L_143.2 ⟨Nat.le_of_ble_eq_true rfl, Nat.le_of_ble_eq_true rfl⟩ (Nat.le_of_ble_eq_true rfl) ⟨(by show k + 8 ≤ 601024; omega), (by show n + 48 ≤ 7293034; omega)⟩ dL_law_1031) (fun E u h => h.elim) (fun v u h => ?_)
  obtain ⟨code, rfl, hc, h13b, ⟨q0, q4, q12⟩, Km⟩ := hp v u h
  obtain ⟨np', ad', T'⟩ := u
  dsimp only at h13b q0 q4 q12 Km
  refine g_eq (lv2 := [some (.ref b), some (.ref (ad' 0)), some (.ref (ad' 4)), some (.ref (ad' 12)), some (.int (zI i)), z5, z6]) (st2 := [.int (zI code)]) rfl (by rw [q0, q4, q12]) rfl ?_
  refine g_istore_5 (pc := 1034) C dL_law_1034 ?_
  refine g_aload_2 (pc := 1036) C dL_law_1036 ?_
  refine g_aload_0 (pc := 1037) C dL_law_1037 ?_
  refine g_iload_4 (pc := 1038) C dL_law_1038 ?_
  refine g_iconst (pc := 1040) C dL_law_1040 ?_
  refine g_iadd (pc := 1041) C dL_law_1041 ?_
  refine g_sld (pc := 1042) C hX hL (by omega) dL_law_1042 ?_
  refine g_call0 C (g_runV (pc := 1043) C (ci := 2) (q := 4) (Cn := RX2) (TT := TX2) (N := 11) (As := [.int (zI (xs (i + 1).toNat).toInt)]) (rest := []) Km cs_L_145.1 cs_L_145.2 ⟨Nat.le_of_ble_eq_true rfl, Nat.le_of_ble_eq_true rfl⟩ (show 4 < np' by omega) rfl rfl (Nat.le_of_ble_eq_true rfl) ⟨(by show k + 8 + 0 ≤ 601024; omega), (by show n + 48 + 0 ≤ 7293034; omega)⟩ dL_law_1043) (fun E u h => h.elim) (fun v2 u2 h2 => ?_)
  obtain ⟨r, U, rfl, hr, rfl, e40, e12, hI⟩ := h2
  refine g_eq (st2 := [.int (zI r)]) rfl rfl rfl ?_
  dsimp only
  refine g_istore_6 (pc := 1046) C dL_law_1046 ?_
  refine g_aload_2 (pc := 1048) C dL_law_1048 ?_
  refine g_cM0Pv (pc := 1049) C cs_L_89 (k_X2_thrown (by omega)) ⟨Nat.le_of_ble_eq_true rfl, Nat.le_of_ble_eq_true rfl⟩ (by omega) (Nat.le_of_ble_eq_true rfl) ⟨(by show k + 8 + 0 + 0 ≤ 601024; omega), (by show n + 48 + 0 + 0 ≤ 7293034; omega)⟩ dL_law_1049 ?_
  rw [e40]
  refine g_iload_5 (pc := 1052) C dL_law_1052 ?_
  refine g_icmp_eq (pc := 1054) (tgt := 1059) C dL_law_1054 (by decide) (by omega) (by omega) (fun _ => ?_) (fun h1054 => absurd h1054 (by omega))
  refine g_iload_5 (pc := 1059) C dL_law_1059 ?_
  by_cases h0 : code = 0
  · refine g_if_ne (pc := 1061) (tgt := 1076) C dL_law_1061 (by decide) (by omega) (fun h1061 => absurd h1061 (by omega)) (fun _ => ?_)
    refine g_aload_3 (pc := 1064) C dL_law_1064 ?_
    refine g_iconst (pc := 1065) C dL_law_1065 ?_
    refine g_ald_12 (pc := 1066) C (by omega) dL_law_1066 ?_
    refine g_iload_6 (pc := 1067) C dL_law_1067 ?_
    refine g_i2l (pc := 1069) C dL_law_1069 (by omega) ?_
    refine g_lcmp (pc := 1070) C (by rw [e12 h0]) dL_law_1070 ?_
    refine g_if_eq (pc := 1071) (tgt := 1076) C dL_law_1071 (by decide) (by omega) (fun _ => ?_) (fun h1071 => absurd h1071 (by omega))
    refine g_goto (pc := 1076) (tgt := 1447) C dL_law_1076 (by decide) ?_
    exact kk np' ad' U r code h13b hI
  · refine g_if_ne (pc := 1061) (tgt := 1076) C dL_law_1061 (by decide) (by omega) (fun _ => ?_) (fun h1061 => absurd h1061 (by omega))
    refine g_goto (pc := 1076) (tgt := 1447) C dL_law_1076 (by decide) ?_
    exact kk np' ad' U r code h13b hI

theorem cx_L_146 : GoodIn GW (va_wsS RL 146 yL_inTheWay (Cond.codeWith yL_inTheWay cL_inTheWay 5 (some .int) [(0, 10, 13, 13), (0, 10, 17, 15)] :: GW)) ∧ (yL_inTheWay.cls ≠ "java/lang/invoke/MethodHandle" ∧ yL_inTheWay.cls ≠ "java/lang/invoke/VarHandle" ∧ (parseMethodDescriptor yL_inTheWay.desc).map (fun d => d.parameters.length) = some 4) := ⟨GW_X ml_L_146 mt_L_inTheWay ini_PrefixYardLaw mc_L_inTheWay, by decide +kernel⟩
theorem lw_inTheWay {l : Launch} {p : Program} {e : Env} {s : State} {m : MethodId} {below : List Frame} {meth : Method} {c : Code} {cs : CSt} {b L : Nat} {xs : Nat → Int32} {k n np : Nat} {ad : Nat → Nat} {T : MT} {i : Int} {z5 z6 : Option Value} (C : gC p l s m #[Value.ref b] meth c cs (fun q => s.heap.size ≤ q) 7 cL_law RL ret) (hX : scP b L xs (fun q => s.heap.size ≤ q) s) (hL : L ≤ 2560) (hi : 0 ≤ i ∧ i + 5 ≤ L) (hk : k ≤ 5000 ∧ n ≤ 60000) (h13 : 13 ≤ np) {PRh : Option Value → St3 → Prop} (Kh : KC l cs yL_inTheWay (Cond.codeWith yL_inTheWay cL_inTheWay 5 (some .int) [(0, 10, 13, 13), (0, 10, 17, 15)] :: GW) 8 8 48 [.ref (ad 0), .int (zI (xs (i + 1).toNat).toInt), .int (zI (xs (i + 2).toNat).toInt), .ref (ad 12)] np ad T PRh (fun _ _ => False)) (hp : ∀ v u, PRh v u → okP l cs yX2_inTheWay (Cond.code yX2_inTheWay cX2_inTheWay 6 (some .int) :: GW) 2 [.int (zI (xs (i + 1).toNat).toInt), .int (zI (xs (i + 2).toNat).toInt)] ad (fun _ => True) v u) (kk : ∀ (np' : Nat) (ad' : Nat → Nat) (U : MT) (r code : Int), 13 ≤ np' → Inv np' U → GG p l e room_1 s m #[Value.ref b] below meth c (lw_Z below #[Value.ref b] s) cs (fun q => s.heap.size ≤ q) 7 (k + 8) (n + 48) np' ad' U 1447 [some (.ref b), some (.ref (ad' 0)), some (.ref (ad' 4)), some (.ref (ad' 12)), some (.int (zI i)), some (.int (zI code)), some (.int (zI r))] []) : GG p l e room_1 s m #[Value.ref b] below meth c (lw_Z below #[Value.ref b] s) cs (fun q => s.heap.size ≤ q) 7 k n np ad T 1079 [some (.ref b), some (.ref (ad 0)), some (.ref (ad 4)), some (.ref (ad 12)), some (.int (zI i)), z5, z6] [] := by
  refine g_aload_1 (pc := 1079) C dL_law_1079 ?_
  refine g_aload_0 (pc := 1080) C dL_law_1080 ?_
  refine g_iload_4 (pc := 1081) C dL_law_1081 ?_
  refine g_iconst (pc := 1083) C dL_law_1083 ?_
  refine g_iadd (pc := 1084) C dL_law_1084 ?_
  refine g_sld (pc := 1085) C hX hL (by omega) dL_law_1085 ?_
  refine g_aload_0 (pc := 1086) C dL_law_1086 ?_
  refine g_iload_4 (pc := 1087) C dL_law_1087 ?_
  refine g_iconst (pc := 1089) C dL_law_1089 ?_
  refine g_iadd (pc := 1090) C dL_law_1090 ?_
  refine g_sld (pc := 1091) C hX hL (by omega) dL_law_1091 ?_
  refine g_aload_3 (pc := 1092) C dL_law_1092 ?_
  refine g_call0 C (g_runX (pc := 1093) C (As := [.ref (ad 0), .int (zI (xs (i + 1).toNat).toInt), .int (zI (xs (i + 2).toNat).toInt), .ref (ad 12)]) (rest := []) Kh cx_L_146.1 cx_L_146.2 ⟨Nat.le_of_ble_eq_true rfl, Nat.le_of_ble_eq_true rfl⟩ (Nat.le_of_ble_eq_true rfl) ⟨(by show k + 8 ≤ 601024; omega), (by show n + 48 ≤ 7293034; omega)⟩ dL_law_1093) (fun E u h => h.elim) (fun v u h => ?_)
  obtain ⟨code, rfl, hc, h13b, ⟨q0, q4, q12⟩, Km⟩ := hp v u h
  obtain ⟨np', ad', T'⟩ := u
  dsimp only at h13b q0 q4 q12 Km
  refine g_eq (lv2 := [some (.ref b), some (.ref (ad' 0)), some (.ref (ad' 4)), some (.ref (ad' 12)), some (.int (zI i)), z5, z6]) (st2 := [.int (zI code)]) rfl (by rw [q0, q4, q12]) rfl ?_
  refine g_istore_5 (pc := 1096) C dL_law_1096 ?_
  refine g_aload_2 (pc := 1098) C dL_law_1098 ?_
  refine g_aload_0 (pc := 1099) C dL_law_1099 ?_
  refine g_iload_4 (pc := 1100) C dL_law_1100 ?_
  refine g_iconst (pc := 1102) C dL_law_1102 ?_
  refine g_iadd (pc := 1103) C dL_law_1103 ?_
  refine g_sld (pc := 1104) C hX hL (by omega) dL_law_1104 ?_
  refine g_aload_0 (pc := 1105) C dL_law_1105 ?_
  refine g_iload_4 (pc := 1106) C dL_law_1106 ?_
  refine g_iconst (pc := 1108) C dL_law_1108 ?_
  refine g_iadd (pc := 1109) C dL_law_1109 ?_
  refine g_sld (pc := 1110) C hX hL (by omega) dL_law_1110 ?_
  refine g_call0 C (g_runV (pc := 1111) C (ci := 2) (q := 4) (Cn := RX2) (TT := TX2) (N := 11) (As := [.int (zI (xs (i + 1).toNat).toInt), .int (zI (xs (i + 2).toNat).toInt)]) (rest := []) Km cs_L_148.1 cs_L_148.2 ⟨Nat.le_of_ble_eq_true rfl, Nat.le_of_ble_eq_true rfl⟩ (show 4 < np' by omega) rfl rfl (Nat.le_of_ble_eq_true rfl) ⟨(by show k + 8 + 0 ≤ 601024; omega), (by show n + 48 + 0 ≤ 7293034; omega)⟩ dL_law_1111) (fun E u h => h.elim) (fun v2 u2 h2 => ?_)
  obtain ⟨r, U, rfl, hr, rfl, e40, e12, hI⟩ := h2
  refine g_eq (st2 := [.int (zI r)]) rfl rfl rfl ?_
  dsimp only
  refine g_istore_6 (pc := 1114) C dL_law_1114 ?_
  refine g_aload_2 (pc := 1116) C dL_law_1116 ?_
  refine g_cM0Pv (pc := 1117) C cs_L_89 (k_X2_thrown (by omega)) ⟨Nat.le_of_ble_eq_true rfl, Nat.le_of_ble_eq_true rfl⟩ (by omega) (Nat.le_of_ble_eq_true rfl) ⟨(by show k + 8 + 0 + 0 ≤ 601024; omega), (by show n + 48 + 0 + 0 ≤ 7293034; omega)⟩ dL_law_1117 ?_
  rw [e40]
  refine g_iload_5 (pc := 1120) C dL_law_1120 ?_
  refine g_icmp_eq (pc := 1122) (tgt := 1127) C dL_law_1122 (by decide) (by omega) (by omega) (fun _ => ?_) (fun h1122 => absurd h1122 (by omega))
  refine g_iload_5 (pc := 1127) C dL_law_1127 ?_
  by_cases h0 : code = 0
  · refine g_if_ne (pc := 1129) (tgt := 1144) C dL_law_1129 (by decide) (by omega) (fun h1129 => absurd h1129 (by omega)) (fun _ => ?_)
    refine g_aload_3 (pc := 1132) C dL_law_1132 ?_
    refine g_iconst (pc := 1133) C dL_law_1133 ?_
    refine g_ald_12 (pc := 1134) C (by omega) dL_law_1134 ?_
    refine g_iload_6 (pc := 1135) C dL_law_1135 ?_
    refine g_i2l (pc := 1137) C dL_law_1137 (by omega) ?_
    refine g_lcmp (pc := 1138) C (by rw [e12 h0]) dL_law_1138 ?_
    refine g_if_eq (pc := 1139) (tgt := 1144) C dL_law_1139 (by decide) (by omega) (fun _ => ?_) (fun h1139 => absurd h1139 (by omega))
    refine g_goto (pc := 1144) (tgt := 1447) C dL_law_1144 (by decide) ?_
    exact kk np' ad' U r code h13b hI
  · refine g_if_ne (pc := 1129) (tgt := 1144) C dL_law_1129 (by decide) (by omega) (fun _ => ?_) (fun h1129 => absurd h1129 (by omega))
    refine g_goto (pc := 1144) (tgt := 1447) C dL_law_1144 (by decide) ?_
    exact kk np' ad' U r code h13b hI

theorem lw_lent {l : Launch} {p : Program} {e : Env} {s : State} {m : MethodId} {below : List Frame} {meth : Method} {c : Code} {cs : CSt} {b L : Nat} {xs : Nat → Int32} {k n np : Nat} {ad : Nat → Nat} {T : MT} {i : Int} {z5 z6 : Option Value} {U : MT} {w : Int} (C : gC p l s m #[Value.ref b] meth c cs (fun q => s.heap.size ≤ q) 7 cL_law RL ret) (hX : scP b L xs (fun q => s.heap.size ≤ q) s) (hL : L ≤ 2560) (hi : 0 ≤ i ∧ i + 5 ≤ L) (hk : k ≤ 5000 ∧ n ≤ 60000) (h13 : 13 ≤ np) (Kc : KD l cs yX1_lent (Cond.code yX1_lent cX1_lent 1 (some .int) :: GW) 7 8 48 [.ref (ad 0)] np ad T 0 (some (.int (zI w))) (np, ad, T)) (Km : KD l cs yX2_lent (Cond.code yX2_lent cX2_lent 1 (some .int) :: GW) 0 0 0 [.ref (ad 4)] np ad T 0 (some (.int (zI w))) (np, ad, U)) (hw : -2147483648 ≤ w ∧ w < 2147483648) (kk : GG p l e room_1 s m #[Value.ref b] below meth c (lw_Z below #[Value.ref b] s) cs (fun q => s.heap.size ≤ q) 7 (k + 8) (n + 48) np ad U 1447 [some (.ref b), some (.ref (ad 0)), some (.ref (ad 4)), some (.ref (ad 12)), some (.int (zI i)), z5, z6] []) : GG p l e room_1 s m #[Value.ref b] below meth c (lw_Z below #[Value.ref b] s) cs (fun q => s.heap.size ≤ q) 7 k n np ad T 1147 [some (.ref b), some (.ref (ad 0)), some (.ref (ad 4)), some (.ref (ad 12)), some (.int (zI i)), z5, z6] [] := by
  refine g_aload_1 (pc := 1147) C dL_law_1147 ?_
  refine g_call0 C (g_runV (pc := 1148) C (ci := 1) (q := 0) (Cn := RX1) (TT := TX1) (N := 8) (As := []) (rest := []) Kc cs_L_149.1 cs_L_149.2 ⟨Nat.le_of_ble_eq_true rfl, Nat.le_of_ble_eq_true rfl⟩ (show 0 < np by omega) rfl rfl (Nat.le_of_ble_eq_true rfl) ⟨(by show k + 8 ≤ 601024; omega), (by show n + 48 ≤ 7293034; omega)⟩ dL_law_1148) (fun E u h => absurd rfl h.1) (fun v u h => ?_)
  obtain ⟨-, rfl, rfl⟩ := h
  refine g_eq (st2 := [.int (zI w)]) rfl rfl rfl ?_
  refine g_aload_2 (pc := 1151) C dL_law_1151 ?_
  refine g_call0 C (g_runV (pc := 1152) C (ci := 2) (q := 4) (Cn := RX2) (TT := TX2) (N := 11) (As := []) (rest := [.int (zI w)]) Km cs_L_152.1 cs_L_152.2 ⟨Nat.le_of_ble_eq_true rfl, Nat.le_of_ble_eq_true rfl⟩ (show 4 < np by omega) rfl rfl (Nat.le_of_ble_eq_true rfl) ⟨(by show k + 8 + 0 ≤ 601024; omega), (by show n + 48 + 0 ≤ 7293034; omega)⟩ dL_law_1152) (fun E u h => absurd rfl h.1) (fun v u h => ?_)
  obtain ⟨-, rfl, rfl⟩ := h
  refine g_eq (st2 := [.int (zI w), .int (zI w)]) rfl rfl rfl ?_
  refine g_icmp_eq (pc := 1155) (tgt := 1447) C dL_law_1155 (by decide) (by omega) (by omega) (fun _ => ?_) (fun h1155 => absurd h1155 (by omega))
  exact kk

theorem cx_L_153 : GoodIn GW (va_wsS RL 153 yL_isLent (Cond.codeWith yL_isLent cL_isLent 4 (some .int) [(0, 16, 19, 13)] :: GW)) ∧ (yL_isLent.cls ≠ "java/lang/invoke/MethodHandle" ∧ yL_isLent.cls ≠ "java/lang/invoke/VarHandle" ∧ (parseMethodDescriptor yL_isLent.desc).map (fun d => d.parameters.length) = some 3) := ⟨GW_X ml_L_153 mt_L_isLent ini_PrefixYardLaw mc_L_isLent, by decide +kernel⟩
theorem lw_isLent {l : Launch} {p : Program} {e : Env} {s : State} {m : MethodId} {below : List Frame} {meth : Method} {c : Code} {cs : CSt} {b L : Nat} {xs : Nat → Int32} {k n np : Nat} {ad : Nat → Nat} {T : MT} {i : Int} {z5 z6 : Option Value} (C : gC p l s m #[Value.ref b] meth c cs (fun q => s.heap.size ≤ q) 7 cL_law RL ret) (hX : scP b L xs (fun q => s.heap.size ≤ q) s) (hL : L ≤ 2560) (hi : 0 ≤ i ∧ i + 5 ≤ L) (hk : k ≤ 5000 ∧ n ≤ 60000) (h13 : 13 ≤ np) {PRh : Option Value → St3 → Prop} (Kh : KC l cs yL_isLent (Cond.codeWith yL_isLent cL_isLent 4 (some .int) [(0, 16, 19, 13)] :: GW) 8 8 48 [.ref (ad 0), .int (zI (xs (i + 1).toNat).toInt), .ref (ad 12)] np ad T PRh (fun _ _ => False)) (hp : ∀ v u, PRh v u → okP l cs yX2_isLent (Cond.code yX2_isLent cX2_isLent 2 (some .boolean) :: GW) 2 [.int (zI (xs (i + 1).toNat).toInt)] ad (fun r => r = 0 ∨ r = 1) v u) (kk : ∀ (np' : Nat) (ad' : Nat → Nat) (U : MT) (r code : Int), 13 ≤ np' → Inv np' U → GG p l e room_1 s m #[Value.ref b] below meth c (lw_Z below #[Value.ref b] s) cs (fun q => s.heap.size ≤ q) 7 (k + 8) (n + 48) np' ad' U 1447 [some (.ref b), some (.ref (ad' 0)), some (.ref (ad' 4)), some (.ref (ad' 12)), some (.int (zI i)), some (.int (zI code)), some (.int (zI r))] []) : GG p l e room_1 s m #[Value.ref b] below meth c (lw_Z below #[Value.ref b] s) cs (fun q => s.heap.size ≤ q) 7 k n np ad T 1160 [some (.ref b), some (.ref (ad 0)), some (.ref (ad 4)), some (.ref (ad 12)), some (.int (zI i)), z5, z6] [] := by
  refine g_aload_1 (pc := 1160) C dL_law_1160 ?_
  refine g_aload_0 (pc := 1161) C dL_law_1161 ?_
  refine g_iload_4 (pc := 1162) C dL_law_1162 ?_
  refine g_iconst (pc := 1164) C dL_law_1164 ?_
  refine g_iadd (pc := 1165) C dL_law_1165 ?_
  refine g_sld (pc := 1166) C hX hL (by omega) dL_law_1166 ?_
  refine g_aload_3 (pc := 1167) C dL_law_1167 ?_
  refine g_call0 C (g_runX (pc := 1168) C (As := [.ref (ad 0), .int (zI (xs (i + 1).toNat).toInt), .ref (ad 12)]) (rest := []) Kh cx_L_153.1 cx_L_153.2 ⟨Nat.le_of_ble_eq_true rfl, Nat.le_of_ble_eq_true rfl⟩ (Nat.le_of_ble_eq_true rfl) ⟨(by show k + 8 ≤ 601024; omega), (by show n + 48 ≤ 7293034; omega)⟩ dL_law_1168) (fun E u h => h.elim) (fun v u h => ?_)
  obtain ⟨code, rfl, hc, h13b, ⟨q0, q4, q12⟩, Km⟩ := hp v u h
  obtain ⟨np', ad', T'⟩ := u
  dsimp only at h13b q0 q4 q12 Km
  refine g_eq (lv2 := [some (.ref b), some (.ref (ad' 0)), some (.ref (ad' 4)), some (.ref (ad' 12)), some (.int (zI i)), z5, z6]) (st2 := [.int (zI code)]) rfl (by rw [q0, q4, q12]) rfl ?_
  refine g_istore_5 (pc := 1171) C dL_law_1171 ?_
  refine g_aload_2 (pc := 1173) C dL_law_1173 ?_
  refine g_aload_0 (pc := 1174) C dL_law_1174 ?_
  refine g_iload_4 (pc := 1175) C dL_law_1175 ?_
  refine g_iconst (pc := 1177) C dL_law_1177 ?_
  refine g_iadd (pc := 1178) C dL_law_1178 ?_
  refine g_sld (pc := 1179) C hX hL (by omega) dL_law_1179 ?_
  refine g_call0 C (g_runV (pc := 1180) C (ci := 2) (q := 4) (Cn := RX2) (TT := TX2) (N := 11) (As := [.int (zI (xs (i + 1).toNat).toInt)]) (rest := []) Km cs_L_155.1 cs_L_155.2 ⟨Nat.le_of_ble_eq_true rfl, Nat.le_of_ble_eq_true rfl⟩ (show 4 < np' by omega) rfl rfl (Nat.le_of_ble_eq_true rfl) ⟨(by show k + 8 + 0 ≤ 601024; omega), (by show n + 48 + 0 ≤ 7293034; omega)⟩ dL_law_1180) (fun E u h => h.elim) (fun v2 u2 h2 => ?_)
  obtain ⟨r, U, rfl, hr, rfl, e40, e12, hI⟩ := h2
  refine g_eq (st2 := [.int (zI r)]) rfl rfl rfl ?_
  dsimp only
  refine g_istore_6 (pc := 1183) C dL_law_1183 ?_
  refine g_aload_2 (pc := 1185) C dL_law_1185 ?_
  refine g_cM0Pv (pc := 1186) C cs_L_89 (k_X2_thrown (by omega)) ⟨Nat.le_of_ble_eq_true rfl, Nat.le_of_ble_eq_true rfl⟩ (by omega) (Nat.le_of_ble_eq_true rfl) ⟨(by show k + 8 + 0 + 0 ≤ 601024; omega), (by show n + 48 + 0 + 0 ≤ 7293034; omega)⟩ dL_law_1186 ?_
  rw [e40]
  refine g_iload_5 (pc := 1189) C dL_law_1189 ?_
  refine g_icmp_eq (pc := 1191) (tgt := 1196) C dL_law_1191 (by decide) (by omega) (by omega) (fun _ => ?_) (fun h1191 => absurd h1191 (by omega))
  refine g_iload_5 (pc := 1196) C dL_law_1196 ?_
  by_cases h0 : code = 0
  · refine g_if_ne (pc := 1198) (tgt := 1220) C dL_law_1198 (by decide) (by omega) (fun h1198 => absurd h1198 (by omega)) (fun _ => ?_)
    refine g_aload_3 (pc := 1201) C dL_law_1201 ?_
    refine g_iconst (pc := 1202) C dL_law_1202 ?_
    refine g_ald_12 (pc := 1203) C (by omega) dL_law_1203 ?_
    refine g_iload_6 (pc := 1204) C dL_law_1204 ?_
    rcases hr.2.2 with hr0 | hr1
    · refine g_if_eq (pc := 1206) (tgt := 1213) C dL_law_1206 (by decide) (by omega) (fun _ => ?_) (fun h1206 => absurd h1206 (by omega))
      refine g_lconst (pc := 1213) C dL_law_1213 (z := Int64.ofInt 0) (by decide) ?_
      refine g_lcmp (pc := 1214) C (by rw [e12 h0, hr0]) dL_law_1214 ?_
      refine g_if_eq (pc := 1215) (tgt := 1220) C dL_law_1215 (by decide) (by omega) (fun _ => ?_) (fun h1215 => absurd h1215 (by omega))
      refine g_goto (pc := 1220) (tgt := 1447) C dL_law_1220 (by decide) ?_
      exact kk np' ad' U r code h13b hI
    · refine g_if_eq (pc := 1206) (tgt := 1213) C dL_law_1206 (by decide) (by omega) (fun h1206 => absurd h1206 (by omega)) (fun _ => ?_)
      refine g_lconst (pc := 1209) C dL_law_1209 (z := Int64.ofInt 1) (by decide) ?_
      refine g_goto (pc := 1210) (tgt := 1214) C dL_law_1210 (by decide) ?_
      refine g_lcmp (pc := 1214) C (by rw [e12 h0, hr1]) dL_law_1214 ?_
      refine g_if_eq (pc := 1215) (tgt := 1220) C dL_law_1215 (by decide) (by omega) (fun _ => ?_) (fun h1215 => absurd h1215 (by omega))
      refine g_goto (pc := 1220) (tgt := 1447) C dL_law_1220 (by decide) ?_
      exact kk np' ad' U r code h13b hI
  · refine g_if_ne (pc := 1198) (tgt := 1220) C dL_law_1198 (by decide) (by omega) (fun _ => ?_) (fun h1198 => absurd h1198 (by omega))
    refine g_goto (pc := 1220) (tgt := 1447) C dL_law_1220 (by decide) ?_
    exact kk np' ad' U r code h13b hI

theorem cx_L_156 : GoodIn GW (va_wsS RL 156 yL_nearest (Cond.codeWith yL_nearest cL_nearest 4 (some .int) [(0, 9, 12, 13)] :: GW)) ∧ (yL_nearest.cls ≠ "java/lang/invoke/MethodHandle" ∧ yL_nearest.cls ≠ "java/lang/invoke/VarHandle" ∧ (parseMethodDescriptor yL_nearest.desc).map (fun d => d.parameters.length) = some 3) := ⟨GW_X ml_L_156 mt_L_nearest ini_PrefixYardLaw mc_L_nearest, by decide +kernel⟩
theorem lw_nearest {l : Launch} {p : Program} {e : Env} {s : State} {m : MethodId} {below : List Frame} {meth : Method} {c : Code} {cs : CSt} {b L : Nat} {xs : Nat → Int32} {k n np : Nat} {ad : Nat → Nat} {T : MT} {i : Int} {z5 z6 : Option Value} (C : gC p l s m #[Value.ref b] meth c cs (fun q => s.heap.size ≤ q) 7 cL_law RL ret) (hX : scP b L xs (fun q => s.heap.size ≤ q) s) (hL : L ≤ 2560) (hi : 0 ≤ i ∧ i + 5 ≤ L) (hk : k ≤ 5000 ∧ n ≤ 60000) (h13 : 13 ≤ np) {PRh : Option Value → St3 → Prop} (Kh : KC l cs yL_nearest (Cond.codeWith yL_nearest cL_nearest 4 (some .int) [(0, 9, 12, 13)] :: GW) 8 8 48 [.ref (ad 0), .int (zI (xs (i + 1).toNat).toInt), .ref (ad 12)] np ad T PRh (fun _ _ => False)) (hp : ∀ v u, PRh v u → okP l cs yX2_nearest (Cond.code yX2_nearest cX2_nearest 2 (some .int) :: GW) 3 [.int (zI (xs (i + 1).toNat).toInt)] ad (fun _ => True) v u) (kk : ∀ (np' : Nat) (ad' : Nat → Nat) (U : MT) (r code : Int), 13 ≤ np' → Inv np' U → GG p l e room_1 s m #[Value.ref b] below meth c (lw_Z below #[Value.ref b] s) cs (fun q => s.heap.size ≤ q) 7 (k + 8) (n + 48) np' ad' U 1447 [some (.ref b), some (.ref (ad' 0)), some (.ref (ad' 4)), some (.ref (ad' 12)), some (.int (zI i)), some (.int (zI code)), some (.int (zI r))] []) : GG p l e room_1 s m #[Value.ref b] below meth c (lw_Z below #[Value.ref b] s) cs (fun q => s.heap.size ≤ q) 7 k n np ad T 1223 [some (.ref b), some (.ref (ad 0)), some (.ref (ad 4)), some (.ref (ad 12)), some (.int (zI i)), z5, z6] [] := by
  refine g_aload_1 (pc := 1223) C dL_law_1223 ?_
  refine g_aload_0 (pc := 1224) C dL_law_1224 ?_
  refine g_iload_4 (pc := 1225) C dL_law_1225 ?_
  refine g_iconst (pc := 1227) C dL_law_1227 ?_
  refine g_iadd (pc := 1228) C dL_law_1228 ?_
  refine g_sld (pc := 1229) C hX hL (by omega) dL_law_1229 ?_
  refine g_aload_3 (pc := 1230) C dL_law_1230 ?_
  refine g_call0 C (g_runX (pc := 1231) C (As := [.ref (ad 0), .int (zI (xs (i + 1).toNat).toInt), .ref (ad 12)]) (rest := []) Kh cx_L_156.1 cx_L_156.2 ⟨Nat.le_of_ble_eq_true rfl, Nat.le_of_ble_eq_true rfl⟩ (Nat.le_of_ble_eq_true rfl) ⟨(by show k + 8 ≤ 601024; omega), (by show n + 48 ≤ 7293034; omega)⟩ dL_law_1231) (fun E u h => h.elim) (fun v u h => ?_)
  obtain ⟨code, rfl, hc, h13b, ⟨q0, q4, q12⟩, Km⟩ := hp v u h
  obtain ⟨np', ad', T'⟩ := u
  dsimp only at h13b q0 q4 q12 Km
  refine g_eq (lv2 := [some (.ref b), some (.ref (ad' 0)), some (.ref (ad' 4)), some (.ref (ad' 12)), some (.int (zI i)), z5, z6]) (st2 := [.int (zI code)]) rfl (by rw [q0, q4, q12]) rfl ?_
  refine g_istore_5 (pc := 1234) C dL_law_1234 ?_
  refine g_aload_2 (pc := 1236) C dL_law_1236 ?_
  refine g_aload_0 (pc := 1237) C dL_law_1237 ?_
  refine g_iload_4 (pc := 1238) C dL_law_1238 ?_
  refine g_iconst (pc := 1240) C dL_law_1240 ?_
  refine g_iadd (pc := 1241) C dL_law_1241 ?_
  refine g_sld (pc := 1242) C hX hL (by omega) dL_law_1242 ?_
  refine g_call0 C (g_runV (pc := 1243) C (ci := 2) (q := 4) (Cn := RX2) (TT := TX2) (N := 11) (As := [.int (zI (xs (i + 1).toNat).toInt)]) (rest := []) Km cs_L_158.1 cs_L_158.2 ⟨Nat.le_of_ble_eq_true rfl, Nat.le_of_ble_eq_true rfl⟩ (show 4 < np' by omega) rfl rfl (Nat.le_of_ble_eq_true rfl) ⟨(by show k + 8 + 0 ≤ 601024; omega), (by show n + 48 + 0 ≤ 7293034; omega)⟩ dL_law_1243) (fun E u h => h.elim) (fun v2 u2 h2 => ?_)
  obtain ⟨r, U, rfl, hr, rfl, e40, e12, hI⟩ := h2
  refine g_eq (st2 := [.int (zI r)]) rfl rfl rfl ?_
  dsimp only
  refine g_istore_6 (pc := 1246) C dL_law_1246 ?_
  refine g_aload_2 (pc := 1248) C dL_law_1248 ?_
  refine g_cM0Pv (pc := 1249) C cs_L_89 (k_X2_thrown (by omega)) ⟨Nat.le_of_ble_eq_true rfl, Nat.le_of_ble_eq_true rfl⟩ (by omega) (Nat.le_of_ble_eq_true rfl) ⟨(by show k + 8 + 0 + 0 ≤ 601024; omega), (by show n + 48 + 0 + 0 ≤ 7293034; omega)⟩ dL_law_1249 ?_
  rw [e40]
  refine g_iload_5 (pc := 1252) C dL_law_1252 ?_
  refine g_icmp_eq (pc := 1254) (tgt := 1259) C dL_law_1254 (by decide) (by omega) (by omega) (fun _ => ?_) (fun h1254 => absurd h1254 (by omega))
  refine g_iload_5 (pc := 1259) C dL_law_1259 ?_
  by_cases h0 : code = 0
  · refine g_if_ne (pc := 1261) (tgt := 1276) C dL_law_1261 (by decide) (by omega) (fun h1261 => absurd h1261 (by omega)) (fun _ => ?_)
    refine g_aload_3 (pc := 1264) C dL_law_1264 ?_
    refine g_iconst (pc := 1265) C dL_law_1265 ?_
    refine g_ald_12 (pc := 1266) C (by omega) dL_law_1266 ?_
    refine g_iload_6 (pc := 1267) C dL_law_1267 ?_
    refine g_i2l (pc := 1269) C dL_law_1269 (by omega) ?_
    refine g_lcmp (pc := 1270) C (by rw [e12 h0]) dL_law_1270 ?_
    refine g_if_eq (pc := 1271) (tgt := 1276) C dL_law_1271 (by decide) (by omega) (fun _ => ?_) (fun h1271 => absurd h1271 (by omega))
    refine g_goto (pc := 1276) (tgt := 1447) C dL_law_1276 (by decide) ?_
    exact kk np' ad' U r code h13b hI
  · refine g_if_ne (pc := 1261) (tgt := 1276) C dL_law_1261 (by decide) (by omega) (fun _ => ?_) (fun h1261 => absurd h1261 (by omega))
    refine g_goto (pc := 1276) (tgt := 1447) C dL_law_1276 (by decide) ?_
    exact kk np' ad' U r code h13b hI

theorem cx_L_159 : GoodIn GW (va_wsS RL 159 yL_nearestByRow (Cond.codeWith yL_nearestByRow cL_nearestByRow 4 (some .int) [(0, 9, 12, 13)] :: GW)) ∧ (yL_nearestByRow.cls ≠ "java/lang/invoke/MethodHandle" ∧ yL_nearestByRow.cls ≠ "java/lang/invoke/VarHandle" ∧ (parseMethodDescriptor yL_nearestByRow.desc).map (fun d => d.parameters.length) = some 3) := ⟨GW_X ml_L_159 mt_L_nearestByRow ini_PrefixYardLaw mc_L_nearestByRow, by decide +kernel⟩
theorem lw_nearestByRow {l : Launch} {p : Program} {e : Env} {s : State} {m : MethodId} {below : List Frame} {meth : Method} {c : Code} {cs : CSt} {b L : Nat} {xs : Nat → Int32} {k n np : Nat} {ad : Nat → Nat} {T : MT} {i : Int} {z5 z6 : Option Value} (C : gC p l s m #[Value.ref b] meth c cs (fun q => s.heap.size ≤ q) 7 cL_law RL ret) (hX : scP b L xs (fun q => s.heap.size ≤ q) s) (hL : L ≤ 2560) (hi : 0 ≤ i ∧ i + 5 ≤ L) (hk : k ≤ 5000 ∧ n ≤ 60000) (h13 : 13 ≤ np) {PRh : Option Value → St3 → Prop} (Kh : KC l cs yL_nearestByRow (Cond.codeWith yL_nearestByRow cL_nearestByRow 4 (some .int) [(0, 9, 12, 13)] :: GW) 8 8 48 [.ref (ad 0), .int (zI (xs (i + 1).toNat).toInt), .ref (ad 12)] np ad T PRh (fun _ _ => False)) (hp : ∀ v u, PRh v u → okP l cs yX2_nearestByRow (Cond.code yX2_nearestByRow cX2_nearestByRow 2 (some .int) :: GW) 2 [.int (zI (xs (i + 1).toNat).toInt)] ad (fun _ => True) v u) (kk : ∀ (np' : Nat) (ad' : Nat → Nat) (U : MT) (r code : Int), 13 ≤ np' → Inv np' U → GG p l e room_1 s m #[Value.ref b] below meth c (lw_Z below #[Value.ref b] s) cs (fun q => s.heap.size ≤ q) 7 (k + 8) (n + 48) np' ad' U 1447 [some (.ref b), some (.ref (ad' 0)), some (.ref (ad' 4)), some (.ref (ad' 12)), some (.int (zI i)), some (.int (zI code)), some (.int (zI r))] []) : GG p l e room_1 s m #[Value.ref b] below meth c (lw_Z below #[Value.ref b] s) cs (fun q => s.heap.size ≤ q) 7 k n np ad T 1279 [some (.ref b), some (.ref (ad 0)), some (.ref (ad 4)), some (.ref (ad 12)), some (.int (zI i)), z5, z6] [] := by
  refine g_aload_1 (pc := 1279) C dL_law_1279 ?_
  refine g_aload_0 (pc := 1280) C dL_law_1280 ?_
  refine g_iload_4 (pc := 1281) C dL_law_1281 ?_
  refine g_iconst (pc := 1283) C dL_law_1283 ?_
  refine g_iadd (pc := 1284) C dL_law_1284 ?_
  refine g_sld (pc := 1285) C hX hL (by omega) dL_law_1285 ?_
  refine g_aload_3 (pc := 1286) C dL_law_1286 ?_
  refine g_call0 C (g_runX (pc := 1287) C (As := [.ref (ad 0), .int (zI (xs (i + 1).toNat).toInt), .ref (ad 12)]) (rest := []) Kh cx_L_159.1 cx_L_159.2 ⟨Nat.le_of_ble_eq_true rfl, Nat.le_of_ble_eq_true rfl⟩ (Nat.le_of_ble_eq_true rfl) ⟨(by show k + 8 ≤ 601024; omega), (by show n + 48 ≤ 7293034; omega)⟩ dL_law_1287) (fun E u h => h.elim) (fun v u h => ?_)
  obtain ⟨code, rfl, hc, h13b, ⟨q0, q4, q12⟩, Km⟩ := hp v u h
  obtain ⟨np', ad', T'⟩ := u
  dsimp only at h13b q0 q4 q12 Km
  refine g_eq (lv2 := [some (.ref b), some (.ref (ad' 0)), some (.ref (ad' 4)), some (.ref (ad' 12)), some (.int (zI i)), z5, z6]) (st2 := [.int (zI code)]) rfl (by rw [q0, q4, q12]) rfl ?_
  refine g_istore_5 (pc := 1290) C dL_law_1290 ?_
  refine g_aload_2 (pc := 1292) C dL_law_1292 ?_
  refine g_aload_0 (pc := 1293) C dL_law_1293 ?_
  refine g_iload_4 (pc := 1294) C dL_law_1294 ?_
  refine g_iconst (pc := 1296) C dL_law_1296 ?_
  refine g_iadd (pc := 1297) C dL_law_1297 ?_
  refine g_sld (pc := 1298) C hX hL (by omega) dL_law_1298 ?_
  refine g_call0 C (g_runV (pc := 1299) C (ci := 2) (q := 4) (Cn := RX2) (TT := TX2) (N := 11) (As := [.int (zI (xs (i + 1).toNat).toInt)]) (rest := []) Km cs_L_161.1 cs_L_161.2 ⟨Nat.le_of_ble_eq_true rfl, Nat.le_of_ble_eq_true rfl⟩ (show 4 < np' by omega) rfl rfl (Nat.le_of_ble_eq_true rfl) ⟨(by show k + 8 + 0 ≤ 601024; omega), (by show n + 48 + 0 ≤ 7293034; omega)⟩ dL_law_1299) (fun E u h => h.elim) (fun v2 u2 h2 => ?_)
  obtain ⟨r, U, rfl, hr, rfl, e40, e12, hI⟩ := h2
  refine g_eq (st2 := [.int (zI r)]) rfl rfl rfl ?_
  dsimp only
  refine g_istore_6 (pc := 1302) C dL_law_1302 ?_
  refine g_aload_2 (pc := 1304) C dL_law_1304 ?_
  refine g_cM0Pv (pc := 1305) C cs_L_89 (k_X2_thrown (by omega)) ⟨Nat.le_of_ble_eq_true rfl, Nat.le_of_ble_eq_true rfl⟩ (by omega) (Nat.le_of_ble_eq_true rfl) ⟨(by show k + 8 + 0 + 0 ≤ 601024; omega), (by show n + 48 + 0 + 0 ≤ 7293034; omega)⟩ dL_law_1305 ?_
  rw [e40]
  refine g_iload_5 (pc := 1308) C dL_law_1308 ?_
  refine g_icmp_eq (pc := 1310) (tgt := 1315) C dL_law_1310 (by decide) (by omega) (by omega) (fun _ => ?_) (fun h1310 => absurd h1310 (by omega))
  refine g_iload_5 (pc := 1315) C dL_law_1315 ?_
  by_cases h0 : code = 0
  · refine g_if_ne (pc := 1317) (tgt := 1332) C dL_law_1317 (by decide) (by omega) (fun h1317 => absurd h1317 (by omega)) (fun _ => ?_)
    refine g_aload_3 (pc := 1320) C dL_law_1320 ?_
    refine g_iconst (pc := 1321) C dL_law_1321 ?_
    refine g_ald_12 (pc := 1322) C (by omega) dL_law_1322 ?_
    refine g_iload_6 (pc := 1323) C dL_law_1323 ?_
    refine g_i2l (pc := 1325) C dL_law_1325 (by omega) ?_
    refine g_lcmp (pc := 1326) C (by rw [e12 h0]) dL_law_1326 ?_
    refine g_if_eq (pc := 1327) (tgt := 1332) C dL_law_1327 (by decide) (by omega) (fun _ => ?_) (fun h1327 => absurd h1327 (by omega))
    refine g_goto (pc := 1332) (tgt := 1447) C dL_law_1332 (by decide) ?_
    exact kk np' ad' U r code h13b hI
  · refine g_if_ne (pc := 1317) (tgt := 1332) C dL_law_1317 (by decide) (by omega) (fun _ => ?_) (fun h1317 => absurd h1317 (by omega))
    refine g_goto (pc := 1332) (tgt := 1447) C dL_law_1332 (by decide) ?_
    exact kk np' ad' U r code h13b hI

theorem cx_L_162 : GoodIn GW (va_wsS RL 162 yL_owned (Cond.codeWith yL_owned cL_owned 4 (some .int) [(0, 9, 12, 15)] :: GW)) ∧ (yL_owned.cls ≠ "java/lang/invoke/MethodHandle" ∧ yL_owned.cls ≠ "java/lang/invoke/VarHandle" ∧ (parseMethodDescriptor yL_owned.desc).map (fun d => d.parameters.length) = some 3) := ⟨GW_X ml_L_162 mt_L_owned ini_PrefixYardLaw mc_L_owned, by decide +kernel⟩
theorem lw_owned {l : Launch} {p : Program} {e : Env} {s : State} {m : MethodId} {below : List Frame} {meth : Method} {c : Code} {cs : CSt} {b L : Nat} {xs : Nat → Int32} {k n np : Nat} {ad : Nat → Nat} {T : MT} {i : Int} {z5 z6 : Option Value} (C : gC p l s m #[Value.ref b] meth c cs (fun q => s.heap.size ≤ q) 7 cL_law RL ret) (hX : scP b L xs (fun q => s.heap.size ≤ q) s) (hL : L ≤ 2560) (hi : 0 ≤ i ∧ i + 5 ≤ L) (hk : k ≤ 5000 ∧ n ≤ 60000) (h13 : 13 ≤ np) {PRh : Option Value → St3 → Prop} (Kh : KC l cs yL_owned (Cond.codeWith yL_owned cL_owned 4 (some .int) [(0, 9, 12, 15)] :: GW) 8 8 48 [.ref (ad 0), .int (zI (xs (i + 1).toNat).toInt), .ref (ad 12)] np ad T PRh (fun _ _ => False)) (hp : ∀ v u, PRh v u → okP l cs yX2_owned (Cond.code yX2_owned cX2_owned 2 (some .int) :: GW) 2 [.int (zI (xs (i + 1).toNat).toInt)] ad (fun _ => True) v u) (kk : ∀ (np' : Nat) (ad' : Nat → Nat) (U : MT) (r code : Int), 13 ≤ np' → Inv np' U → GG p l e room_1 s m #[Value.ref b] below meth c (lw_Z below #[Value.ref b] s) cs (fun q => s.heap.size ≤ q) 7 (k + 8) (n + 48) np' ad' U 1447 [some (.ref b), some (.ref (ad' 0)), some (.ref (ad' 4)), some (.ref (ad' 12)), some (.int (zI i)), some (.int (zI code)), some (.int (zI r))] []) : GG p l e room_1 s m #[Value.ref b] below meth c (lw_Z below #[Value.ref b] s) cs (fun q => s.heap.size ≤ q) 7 k n np ad T 1335 [some (.ref b), some (.ref (ad 0)), some (.ref (ad 4)), some (.ref (ad 12)), some (.int (zI i)), z5, z6] [] := by
  refine g_aload_1 (pc := 1335) C dL_law_1335 ?_
  refine g_aload_0 (pc := 1336) C dL_law_1336 ?_
  refine g_iload_4 (pc := 1337) C dL_law_1337 ?_
  refine g_iconst (pc := 1339) C dL_law_1339 ?_
  refine g_iadd (pc := 1340) C dL_law_1340 ?_
  refine g_sld (pc := 1341) C hX hL (by omega) dL_law_1341 ?_
  refine g_aload_3 (pc := 1342) C dL_law_1342 ?_
  refine g_call0 C (g_runX (pc := 1343) C (As := [.ref (ad 0), .int (zI (xs (i + 1).toNat).toInt), .ref (ad 12)]) (rest := []) Kh cx_L_162.1 cx_L_162.2 ⟨Nat.le_of_ble_eq_true rfl, Nat.le_of_ble_eq_true rfl⟩ (Nat.le_of_ble_eq_true rfl) ⟨(by show k + 8 ≤ 601024; omega), (by show n + 48 ≤ 7293034; omega)⟩ dL_law_1343) (fun E u h => h.elim) (fun v u h => ?_)
  obtain ⟨code, rfl, hc, h13b, ⟨q0, q4, q12⟩, Km⟩ := hp v u h
  obtain ⟨np', ad', T'⟩ := u
  dsimp only at h13b q0 q4 q12 Km
  refine g_eq (lv2 := [some (.ref b), some (.ref (ad' 0)), some (.ref (ad' 4)), some (.ref (ad' 12)), some (.int (zI i)), z5, z6]) (st2 := [.int (zI code)]) rfl (by rw [q0, q4, q12]) rfl ?_
  refine g_istore_5 (pc := 1346) C dL_law_1346 ?_
  refine g_aload_2 (pc := 1348) C dL_law_1348 ?_
  refine g_aload_0 (pc := 1349) C dL_law_1349 ?_
  refine g_iload_4 (pc := 1350) C dL_law_1350 ?_
  refine g_iconst (pc := 1352) C dL_law_1352 ?_
  refine g_iadd (pc := 1353) C dL_law_1353 ?_
  refine g_sld (pc := 1354) C hX hL (by omega) dL_law_1354 ?_
  refine g_call0 C (g_runV (pc := 1355) C (ci := 2) (q := 4) (Cn := RX2) (TT := TX2) (N := 11) (As := [.int (zI (xs (i + 1).toNat).toInt)]) (rest := []) Km cs_L_164.1 cs_L_164.2 ⟨Nat.le_of_ble_eq_true rfl, Nat.le_of_ble_eq_true rfl⟩ (show 4 < np' by omega) rfl rfl (Nat.le_of_ble_eq_true rfl) ⟨(by show k + 8 + 0 ≤ 601024; omega), (by show n + 48 + 0 ≤ 7293034; omega)⟩ dL_law_1355) (fun E u h => h.elim) (fun v2 u2 h2 => ?_)
  obtain ⟨r, U, rfl, hr, rfl, e40, e12, hI⟩ := h2
  refine g_eq (st2 := [.int (zI r)]) rfl rfl rfl ?_
  dsimp only
  refine g_istore_6 (pc := 1358) C dL_law_1358 ?_
  refine g_aload_2 (pc := 1360) C dL_law_1360 ?_
  refine g_cM0Pv (pc := 1361) C cs_L_89 (k_X2_thrown (by omega)) ⟨Nat.le_of_ble_eq_true rfl, Nat.le_of_ble_eq_true rfl⟩ (by omega) (Nat.le_of_ble_eq_true rfl) ⟨(by show k + 8 + 0 + 0 ≤ 601024; omega), (by show n + 48 + 0 + 0 ≤ 7293034; omega)⟩ dL_law_1361 ?_
  rw [e40]
  refine g_iload_5 (pc := 1364) C dL_law_1364 ?_
  refine g_icmp_eq (pc := 1366) (tgt := 1371) C dL_law_1366 (by decide) (by omega) (by omega) (fun _ => ?_) (fun h1366 => absurd h1366 (by omega))
  refine g_iload_5 (pc := 1371) C dL_law_1371 ?_
  by_cases h0 : code = 0
  · refine g_if_ne (pc := 1373) (tgt := 1388) C dL_law_1373 (by decide) (by omega) (fun h1373 => absurd h1373 (by omega)) (fun _ => ?_)
    refine g_aload_3 (pc := 1376) C dL_law_1376 ?_
    refine g_iconst (pc := 1377) C dL_law_1377 ?_
    refine g_ald_12 (pc := 1378) C (by omega) dL_law_1378 ?_
    refine g_iload_6 (pc := 1379) C dL_law_1379 ?_
    refine g_i2l (pc := 1381) C dL_law_1381 (by omega) ?_
    refine g_lcmp (pc := 1382) C (by rw [e12 h0]) dL_law_1382 ?_
    refine g_if_eq (pc := 1383) (tgt := 1388) C dL_law_1383 (by decide) (by omega) (fun _ => ?_) (fun h1383 => absurd h1383 (by omega))
    refine g_goto (pc := 1388) (tgt := 1447) C dL_law_1388 (by decide) ?_
    exact kk np' ad' U r code h13b hI
  · refine g_if_ne (pc := 1373) (tgt := 1388) C dL_law_1373 (by decide) (by omega) (fun _ => ?_) (fun h1373 => absurd h1373 (by omega))
    refine g_goto (pc := 1388) (tgt := 1447) C dL_law_1388 (by decide) ?_
    exact kk np' ad' U r code h13b hI

theorem cx_L_165 : GoodIn GW (va_wsS RL 165 yL_blocks (Cond.codeWith yL_blocks cL_blocks 4 (some .int) [(0, 9, 12, 15)] :: GW)) ∧ (yL_blocks.cls ≠ "java/lang/invoke/MethodHandle" ∧ yL_blocks.cls ≠ "java/lang/invoke/VarHandle" ∧ (parseMethodDescriptor yL_blocks.desc).map (fun d => d.parameters.length) = some 3) := ⟨GW_X ml_L_165 mt_L_blocks ini_PrefixYardLaw mc_L_blocks, by decide +kernel⟩
theorem lw_blocks {l : Launch} {p : Program} {e : Env} {s : State} {m : MethodId} {below : List Frame} {meth : Method} {c : Code} {cs : CSt} {b L : Nat} {xs : Nat → Int32} {k n np : Nat} {ad : Nat → Nat} {T : MT} {i : Int} {z5 z6 : Option Value} (C : gC p l s m #[Value.ref b] meth c cs (fun q => s.heap.size ≤ q) 7 cL_law RL ret) (hX : scP b L xs (fun q => s.heap.size ≤ q) s) (hL : L ≤ 2560) (hi : 0 ≤ i ∧ i + 5 ≤ L) (hk : k ≤ 5000 ∧ n ≤ 60000) (h13 : 13 ≤ np) {PRh : Option Value → St3 → Prop} (Kh : KC l cs yL_blocks (Cond.codeWith yL_blocks cL_blocks 4 (some .int) [(0, 9, 12, 15)] :: GW) 8 8 48 [.ref (ad 0), .int (zI (xs (i + 1).toNat).toInt), .ref (ad 12)] np ad T PRh (fun _ _ => False)) (hp : ∀ v u, PRh v u → okP l cs yX2_blocks (Cond.code yX2_blocks cX2_blocks 5 (some .int) :: GW) 2 [.int (zI (xs (i + 1).toNat).toInt)] ad (fun _ => True) v u) (kk : ∀ (np' : Nat) (ad' : Nat → Nat) (U : MT) (r code : Int), 13 ≤ np' → Inv np' U → GG p l e room_1 s m #[Value.ref b] below meth c (lw_Z below #[Value.ref b] s) cs (fun q => s.heap.size ≤ q) 7 (k + 8) (n + 48) np' ad' U 1447 [some (.ref b), some (.ref (ad' 0)), some (.ref (ad' 4)), some (.ref (ad' 12)), some (.int (zI i)), some (.int (zI code)), some (.int (zI r))] []) : GG p l e room_1 s m #[Value.ref b] below meth c (lw_Z below #[Value.ref b] s) cs (fun q => s.heap.size ≤ q) 7 k n np ad T 1391 [some (.ref b), some (.ref (ad 0)), some (.ref (ad 4)), some (.ref (ad 12)), some (.int (zI i)), z5, z6] [] := by
  refine g_aload_1 (pc := 1391) C dL_law_1391 ?_
  refine g_aload_0 (pc := 1392) C dL_law_1392 ?_
  refine g_iload_4 (pc := 1393) C dL_law_1393 ?_
  refine g_iconst (pc := 1395) C dL_law_1395 ?_
  refine g_iadd (pc := 1396) C dL_law_1396 ?_
  refine g_sld (pc := 1397) C hX hL (by omega) dL_law_1397 ?_
  refine g_aload_3 (pc := 1398) C dL_law_1398 ?_
  refine g_call0 C (g_runX (pc := 1399) C (As := [.ref (ad 0), .int (zI (xs (i + 1).toNat).toInt), .ref (ad 12)]) (rest := []) Kh cx_L_165.1 cx_L_165.2 ⟨Nat.le_of_ble_eq_true rfl, Nat.le_of_ble_eq_true rfl⟩ (Nat.le_of_ble_eq_true rfl) ⟨(by show k + 8 ≤ 601024; omega), (by show n + 48 ≤ 7293034; omega)⟩ dL_law_1399) (fun E u h => h.elim) (fun v u h => ?_)
  obtain ⟨code, rfl, hc, h13b, ⟨q0, q4, q12⟩, Km⟩ := hp v u h
  obtain ⟨np', ad', T'⟩ := u
  dsimp only at h13b q0 q4 q12 Km
  refine g_eq (lv2 := [some (.ref b), some (.ref (ad' 0)), some (.ref (ad' 4)), some (.ref (ad' 12)), some (.int (zI i)), z5, z6]) (st2 := [.int (zI code)]) rfl (by rw [q0, q4, q12]) rfl ?_
  refine g_istore_5 (pc := 1402) C dL_law_1402 ?_
  refine g_aload_2 (pc := 1404) C dL_law_1404 ?_
  refine g_aload_0 (pc := 1405) C dL_law_1405 ?_
  refine g_iload_4 (pc := 1406) C dL_law_1406 ?_
  refine g_iconst (pc := 1408) C dL_law_1408 ?_
  refine g_iadd (pc := 1409) C dL_law_1409 ?_
  refine g_sld (pc := 1410) C hX hL (by omega) dL_law_1410 ?_
  refine g_call0 C (g_runV (pc := 1411) C (ci := 2) (q := 4) (Cn := RX2) (TT := TX2) (N := 11) (As := [.int (zI (xs (i + 1).toNat).toInt)]) (rest := []) Km cs_L_167.1 cs_L_167.2 ⟨Nat.le_of_ble_eq_true rfl, Nat.le_of_ble_eq_true rfl⟩ (show 4 < np' by omega) rfl rfl (Nat.le_of_ble_eq_true rfl) ⟨(by show k + 8 + 0 ≤ 601024; omega), (by show n + 48 + 0 ≤ 7293034; omega)⟩ dL_law_1411) (fun E u h => h.elim) (fun v2 u2 h2 => ?_)
  obtain ⟨r, U, rfl, hr, rfl, e40, e12, hI⟩ := h2
  refine g_eq (st2 := [.int (zI r)]) rfl rfl rfl ?_
  dsimp only
  refine g_istore_6 (pc := 1414) C dL_law_1414 ?_
  refine g_aload_2 (pc := 1416) C dL_law_1416 ?_
  refine g_cM0Pv (pc := 1417) C cs_L_89 (k_X2_thrown (by omega)) ⟨Nat.le_of_ble_eq_true rfl, Nat.le_of_ble_eq_true rfl⟩ (by omega) (Nat.le_of_ble_eq_true rfl) ⟨(by show k + 8 + 0 + 0 ≤ 601024; omega), (by show n + 48 + 0 + 0 ≤ 7293034; omega)⟩ dL_law_1417 ?_
  rw [e40]
  refine g_iload_5 (pc := 1420) C dL_law_1420 ?_
  refine g_icmp_eq (pc := 1422) (tgt := 1427) C dL_law_1422 (by decide) (by omega) (by omega) (fun _ => ?_) (fun h1422 => absurd h1422 (by omega))
  refine g_iload_5 (pc := 1427) C dL_law_1427 ?_
  by_cases h0 : code = 0
  · refine g_if_ne (pc := 1429) (tgt := 1444) C dL_law_1429 (by decide) (by omega) (fun h1429 => absurd h1429 (by omega)) (fun _ => ?_)
    refine g_aload_3 (pc := 1432) C dL_law_1432 ?_
    refine g_iconst (pc := 1433) C dL_law_1433 ?_
    refine g_ald_12 (pc := 1434) C (by omega) dL_law_1434 ?_
    refine g_iload_6 (pc := 1435) C dL_law_1435 ?_
    refine g_i2l (pc := 1437) C dL_law_1437 (by omega) ?_
    refine g_lcmp (pc := 1438) C (by rw [e12 h0]) dL_law_1438 ?_
    refine g_if_eq (pc := 1439) (tgt := 1444) C dL_law_1439 (by decide) (by omega) (fun _ => ?_) (fun h1439 => absurd h1439 (by omega))
    refine g_goto (pc := 1444) (tgt := 1447) C dL_law_1444 (by decide) ?_
    exact kk np' ad' U r code h13b hI
  · refine g_if_ne (pc := 1429) (tgt := 1444) C dL_law_1429 (by decide) (by omega) (fun _ => ?_) (fun h1429 => absurd h1429 (by omega))
    refine g_goto (pc := 1444) (tgt := 1447) C dL_law_1444 (by decide) ?_
    exact kk np' ad' U r code h13b hI
