/-! THE LAW: its cases, one by one, and its loop -/
/-- the script: L ints sc at the cell b -/
def Sx (X : CT) (b L : Nat) (sc : Nat → Int32) : Prop := va_X b L sc (xs X) (xs X).heap ∧ b < (xs X).heap.size ∧ ¬ xA X b
section LAWROWS
variable {X : CT} {own : String} {cc : ByteArray} {ret0 : Option FieldType} {fr lo : Nat} {pc q b L : Nat} {lv st : List Value} {σ : ST} {sc : Nat → Int32}
theorem V_sld (C : Cx X own cc ret0 fr lo) (S : Sx X b L sc) (hL : L ≤ 3072) {i : Int32} (j : Nat) (hj : i = nI j) (hjl : j < L) (hq : pc + 1 = q) (hdg : decode cc pc = .ok (.iaload, 1)) (kk : V X q lv (.int (sc j) :: st) σ) : V X pc lv (.int i :: .ref b :: st) σ := by
  subst hq; subst hj
  intro H locs ls hP hS hl
  refine va_sld C.x C.b S.1 S.2.1 S.2.2 hS (vp_in_nI hjl (by omega)) hdg ?_
  rw [nI_clamp (by omega)]
  exact kk H locs ls hP hS hl
theorem V_slen (C : Cx X own cc ret0 fr lo) (S : Sx X b L sc) (hq : pc + 1 = q) (hdg : decode cc pc = .ok (.arraylength, 1)) (kk : V X q lv (.int (nI L) :: st) σ) : V X pc lv (.ref b :: st) σ := by
  subst hq
  exact fun H locs ls hP hS hl => va_slen C.x C.b S.1 S.2.1 S.2.2 hS hdg (kk H locs ls hP hS hl)
theorem V_callr (C : Cx X own cc ret0 fr lo) {y : MethodName} {yc : ByteArray} {n na idx k fr2 lo2 : Nat} {yret : Option FieldType} {As rest : List Value} {post : Option Value → ST → Prop}
    (hM : Ct (xl X) y yc n yret fr2 lo2 (xD X) (xad X) (.ref (xad X k) :: As) σ post) (hw : Cw y yc n yret na) (hv : CwV y) (hlink : Cond.methodLink own idx y ∈ TT) (hk : k < 68) (hobj : ∃ (ci : Nat) (fs : List Value) (z : vw_C), cellF (xD X) (xad X) k (σ k) = .inr (ci, fs) ∧ vwCl[ci]? = some z ∧ z.1 = y.cls)
    (hroom : fr2 + 1 ≤ fr ∧ 8 + (n + 11) + lo2 ≤ lo) (hna : As.length = na) (hst : st = As.reverse ++ .ref (xad X k) :: rest) (hcat : (rest.map fun v => v.category).sum ≤ 8) (hq : pc + 3 = q) (hdg : decode cc pc = .ok (.invokevirtual idx, 3))
    (kk : ∀ (v : Option Value) (τ : ST), post v τ → V X q lv (v.toList ++ rest) τ) : V X pc lv st σ := V_callV C hM hw hv hlink hk hobj hroom hna hst hcat hq hdg kk
end LAWROWS
set_option maxHeartbeats 4000000 in
set_option maxRecDepth 100000 in
theorem law_0 {X : CT} {b L i : Nat} {sc : Nat → Int32} {σ : ST} (C : Cx X RL cL_law ret 9 326) (S : Sx X b L sc) (hL : L ≤ 3072) (hi : i + 6 ≤ L) (h : RelE σ) (kk : ∀ τ, RelE τ → V X 1289 [.ref b, .ref (xad X 0), .ref (xad X 40), .int (nI i)] [] τ) : V X 180 [.ref b, .ref (xad X 0), .ref (xad X 40), .int (nI i)] [] σ := by
  refine V_aload_n_1 (q := 181) C rfl dL_law_180 ?_
  refine V_aload_n_0 (q := 182) C rfl dL_law_181 ?_
  refine V_iload_n_3 (q := 183) C rfl dL_law_182 ?_
  refine V_iconst (q := 184) (v := 1) C rfl rfl dL_law_183 ?_
  refine V_iadd (q := 185) C rfl dL_law_184 ?_
  refine V_sld (q := 186) C S hL (i + 1) (nI_add i 1) (by omega) rfl dL_law_185 ?_
  refine V_aload_n_0 (q := 187) C rfl dL_law_186 ?_
  refine V_iload_n_3 (q := 188) C rfl dL_law_187 ?_
  refine V_iconst (q := 189) (v := 2) C rfl rfl dL_law_188 ?_
  refine V_iadd (q := 190) C rfl dL_law_189 ?_
  refine V_sld (q := 191) C S hL (i + 2) (nI_add i 2) (by omega) rfl dL_law_190 ?_
  refine V_aload_n_0 (q := 192) C rfl dL_law_191 ?_
  refine V_iload_n_3 (q := 193) C rfl dL_law_192 ?_
  refine V_iconst (q := 194) (v := 3) C rfl rfl dL_law_193 ?_
  refine V_iadd (q := 195) C rfl dL_law_194 ?_
  refine V_sld (q := 196) C S hL (i + 3) (nI_add i 3) (by omega) rfl dL_law_195 ?_
  refine V_aload_n_0 (q := 197) C rfl dL_law_196 ?_
  refine V_iload_n_3 (q := 198) C rfl dL_law_197 ?_
  refine V_iconst (q := 199) (v := 4) C rfl rfl dL_law_198 ?_
  refine V_iadd (q := 200) C rfl dL_law_199 ?_
  refine V_sld (q := 201) C S hL (i + 4) (nI_add i 4) (by omega) rfl dL_law_200 ?_
  obtain ⟨p1, h1, g1⟩ := op_orchard (l := xl X) (D := xD X) (ad := xad X) (sc (i + 1)) (sc (i + 2)) (sc (i + 3)) (sc (i + 4))  h
  refine V_callr (q := 204) (As := [.int (sc (i + 1)), .int (sc (i + 2)), .int (sc (i + 3)), .int (sc (i + 4))]) (rest := []) C h1 cw_X8_orchard cv_X8_orchard wm_L_13 (by decide) ob_X8 ⟨by decide, by decide⟩ rfl rfl (Nat.le_of_ble_eq_true rfl) rfl dL_law_201 (fun v1 τ1 e1 => ?_)
  obtain ⟨r, rfl, p2, h2, g2⟩ := g1 v1 τ1 e1
  show V X 204 [.ref b, .ref (xad X 0), .ref (xad X 40), .int (nI i)] [.int r] τ1
  refine V_aload_n_2 (q := 205) C rfl dL_law_204 ?_
  refine V_aload_n_0 (q := 206) C rfl dL_law_205 ?_
  refine V_iload_n_3 (q := 207) C rfl dL_law_206 ?_
  refine V_iconst (q := 208) (v := 1) C rfl rfl dL_law_207 ?_
  refine V_iadd (q := 209) C rfl dL_law_208 ?_
  refine V_sld (q := 210) C S hL (i + 1) (nI_add i 1) (by omega) rfl dL_law_209 ?_
  refine V_aload_n_0 (q := 211) C rfl dL_law_210 ?_
  refine V_iload_n_3 (q := 212) C rfl dL_law_211 ?_
  refine V_iconst (q := 213) (v := 2) C rfl rfl dL_law_212 ?_
  refine V_iadd (q := 214) C rfl dL_law_213 ?_
  refine V_sld (q := 215) C S hL (i + 2) (nI_add i 2) (by omega) rfl dL_law_214 ?_
  refine V_aload_n_0 (q := 216) C rfl dL_law_215 ?_
  refine V_iload_n_3 (q := 217) C rfl dL_law_216 ?_
  refine V_iconst (q := 218) (v := 3) C rfl rfl dL_law_217 ?_
  refine V_iadd (q := 219) C rfl dL_law_218 ?_
  refine V_sld (q := 220) C S hL (i + 3) (nI_add i 3) (by omega) rfl dL_law_219 ?_
  refine V_aload_n_0 (q := 221) C rfl dL_law_220 ?_
  refine V_iload_n_3 (q := 222) C rfl dL_law_221 ?_
  refine V_iconst (q := 223) (v := 4) C rfl rfl dL_law_222 ?_
  refine V_iadd (q := 224) C rfl dL_law_223 ?_
  refine V_sld (q := 225) C S hL (i + 4) (nI_add i 4) (by omega) rfl dL_law_224 ?_
  refine V_callr (q := 228) (As := [.int (sc (i + 1)), .int (sc (i + 2)), .int (sc (i + 3)), .int (sc (i + 4))]) (rest := [.int r]) C h2 cw_X9_orchard cv_X9_orchard wm_L_17 (by decide) ob_X9 ⟨by decide, by decide⟩ rfl rfl (Nat.le_of_ble_eq_true rfl) rfl dL_law_225 (fun v2 τ2 e2 => ?_)
  obtain ⟨rfl, hR⟩ := g2 v2 τ2 e2
  show V X 228 [.ref b, .ref (xad X 0), .ref (xad X 40), .int (nI i)] [.int r, .int r] τ2
  refine V_icmp_eq_t (tgt := 1289) C rfl (by decide) dL_law_228 ?_
  exact kk τ2 hR
set_option maxHeartbeats 4000000 in
set_option maxRecDepth 100000 in
theorem law_1 {X : CT} {b L i : Nat} {sc : Nat → Int32} {σ : ST} (C : Cx X RL cL_law ret 9 326) (S : Sx X b L sc) (hL : L ≤ 3072) (hi : i + 6 ≤ L) (h : RelE σ) (kk : ∀ τ, RelE τ → V X 1289 [.ref b, .ref (xad X 0), .ref (xad X 40), .int (nI i)] [] τ) : V X 233 [.ref b, .ref (xad X 0), .ref (xad X 40), .int (nI i)] [] σ := by
  refine V_aload_n_1 (q := 234) C rfl dL_law_233 ?_
  refine V_aload_n_0 (q := 235) C rfl dL_law_234 ?_
  refine V_iload_n_3 (q := 236) C rfl dL_law_235 ?_
  refine V_iconst (q := 237) (v := 1) C rfl rfl dL_law_236 ?_
  refine V_iadd (q := 238) C rfl dL_law_237 ?_
  refine V_sld (q := 239) C S hL (i + 1) (nI_add i 1) (by omega) rfl dL_law_238 ?_
  refine V_aload_n_0 (q := 240) C rfl dL_law_239 ?_
  refine V_iload_n_3 (q := 241) C rfl dL_law_240 ?_
  refine V_iconst (q := 242) (v := 2) C rfl rfl dL_law_241 ?_
  refine V_iadd (q := 243) C rfl dL_law_242 ?_
  refine V_sld (q := 244) C S hL (i + 2) (nI_add i 2) (by omega) rfl dL_law_243 ?_
  obtain ⟨p1, h1, g1⟩ := op_ofTree (l := xl X) (D := xD X) (ad := xad X) (sc (i + 1)) (sc (i + 2))  h
  refine V_callr (q := 247) (As := [.int (sc (i + 1)), .int (sc (i + 2))]) (rest := []) C h1 cw_X8_ofTree cv_X8_ofTree wm_L_18 (by decide) ob_X8 ⟨by decide, by decide⟩ rfl rfl (Nat.le_of_ble_eq_true rfl) rfl dL_law_244 (fun v1 τ1 e1 => ?_)
  obtain ⟨r, rfl, p2, h2, g2⟩ := g1 v1 τ1 e1
  show V X 247 [.ref b, .ref (xad X 0), .ref (xad X 40), .int (nI i)] [.int r] τ1
  refine V_aload_n_2 (q := 248) C rfl dL_law_247 ?_
  refine V_aload_n_0 (q := 249) C rfl dL_law_248 ?_
  refine V_iload_n_3 (q := 250) C rfl dL_law_249 ?_
  refine V_iconst (q := 251) (v := 1) C rfl rfl dL_law_250 ?_
  refine V_iadd (q := 252) C rfl dL_law_251 ?_
  refine V_sld (q := 253) C S hL (i + 1) (nI_add i 1) (by omega) rfl dL_law_252 ?_
  refine V_aload_n_0 (q := 254) C rfl dL_law_253 ?_
  refine V_iload_n_3 (q := 255) C rfl dL_law_254 ?_
  refine V_iconst (q := 256) (v := 2) C rfl rfl dL_law_255 ?_
  refine V_iadd (q := 257) C rfl dL_law_256 ?_
  refine V_sld (q := 258) C S hL (i + 2) (nI_add i 2) (by omega) rfl dL_law_257 ?_
  refine V_callr (q := 261) (As := [.int (sc (i + 1)), .int (sc (i + 2))]) (rest := [.int r]) C h2 cw_X9_ofTree cv_X9_ofTree wm_L_22 (by decide) ob_X9 ⟨by decide, by decide⟩ rfl rfl (Nat.le_of_ble_eq_true rfl) rfl dL_law_258 (fun v2 τ2 e2 => ?_)
  obtain ⟨rfl, hR⟩ := g2 v2 τ2 e2
  show V X 261 [.ref b, .ref (xad X 0), .ref (xad X 40), .int (nI i)] [.int r, .int r] τ2
  refine V_icmp_eq_t (tgt := 1289) C rfl (by decide) dL_law_261 ?_
  exact kk τ2 hR
set_option maxHeartbeats 4000000 in
set_option maxRecDepth 100000 in
theorem law_2 {X : CT} {b L i : Nat} {sc : Nat → Int32} {σ : ST} (C : Cx X RL cL_law ret 9 326) (S : Sx X b L sc) (hL : L ≤ 3072) (hi : i + 6 ≤ L) (h : RelE σ) (kk : ∀ τ, RelE τ → V X 1289 [.ref b, .ref (xad X 0), .ref (xad X 40), .int (nI i)] [] τ) : V X 266 [.ref b, .ref (xad X 0), .ref (xad X 40), .int (nI i)] [] σ := by
  refine V_aload_n_1 (q := 267) C rfl dL_law_266 ?_
  refine V_aload_n_0 (q := 268) C rfl dL_law_267 ?_
  refine V_iload_n_3 (q := 269) C rfl dL_law_268 ?_
  refine V_iconst (q := 270) (v := 1) C rfl rfl dL_law_269 ?_
  refine V_iadd (q := 271) C rfl dL_law_270 ?_
  refine V_sld (q := 272) C S hL (i + 1) (nI_add i 1) (by omega) rfl dL_law_271 ?_
  refine V_aload_n_0 (q := 273) C rfl dL_law_272 ?_
  refine V_iload_n_3 (q := 274) C rfl dL_law_273 ?_
  refine V_iconst (q := 275) (v := 2) C rfl rfl dL_law_274 ?_
  refine V_iadd (q := 276) C rfl dL_law_275 ?_
  refine V_sld (q := 277) C S hL (i + 2) (nI_add i 2) (by omega) rfl dL_law_276 ?_
  obtain ⟨p1, h1, g1⟩ := op_ofPrisoner (l := xl X) (D := xD X) (ad := xad X) (sc (i + 1)) (sc (i + 2))  h
  refine V_callr (q := 280) (As := [.int (sc (i + 1)), .int (sc (i + 2))]) (rest := []) C h1 cw_X8_ofPrisoner cv_X8_ofPrisoner wm_L_23 (by decide) ob_X8 ⟨by decide, by decide⟩ rfl rfl (Nat.le_of_ble_eq_true rfl) rfl dL_law_277 (fun v1 τ1 e1 => ?_)
  obtain ⟨r, rfl, p2, h2, g2⟩ := g1 v1 τ1 e1
  show V X 280 [.ref b, .ref (xad X 0), .ref (xad X 40), .int (nI i)] [.int r] τ1
  refine V_aload_n_2 (q := 281) C rfl dL_law_280 ?_
  refine V_aload_n_0 (q := 282) C rfl dL_law_281 ?_
  refine V_iload_n_3 (q := 283) C rfl dL_law_282 ?_
  refine V_iconst (q := 284) (v := 1) C rfl rfl dL_law_283 ?_
  refine V_iadd (q := 285) C rfl dL_law_284 ?_
  refine V_sld (q := 286) C S hL (i + 1) (nI_add i 1) (by omega) rfl dL_law_285 ?_
  refine V_aload_n_0 (q := 287) C rfl dL_law_286 ?_
  refine V_iload_n_3 (q := 288) C rfl dL_law_287 ?_
  refine V_iconst (q := 289) (v := 2) C rfl rfl dL_law_288 ?_
  refine V_iadd (q := 290) C rfl dL_law_289 ?_
  refine V_sld (q := 291) C S hL (i + 2) (nI_add i 2) (by omega) rfl dL_law_290 ?_
  refine V_callr (q := 294) (As := [.int (sc (i + 1)), .int (sc (i + 2))]) (rest := [.int r]) C h2 cw_X9_ofPrisoner cv_X9_ofPrisoner wm_L_26 (by decide) ob_X9 ⟨by decide, by decide⟩ rfl rfl (Nat.le_of_ble_eq_true rfl) rfl dL_law_291 (fun v2 τ2 e2 => ?_)
  obtain ⟨rfl, hR⟩ := g2 v2 τ2 e2
  show V X 294 [.ref b, .ref (xad X 0), .ref (xad X 40), .int (nI i)] [.int r, .int r] τ2
  refine V_icmp_eq_t (tgt := 1289) C rfl (by decide) dL_law_294 ?_
  exact kk τ2 hR
set_option maxHeartbeats 4000000 in
set_option maxRecDepth 100000 in
theorem law_3 {X : CT} {b L i : Nat} {sc : Nat → Int32} {σ : ST} (C : Cx X RL cL_law ret 9 326) (S : Sx X b L sc) (hL : L ≤ 3072) (hi : i + 6 ≤ L) (h : RelE σ) (kk : ∀ τ, RelE τ → V X 1289 [.ref b, .ref (xad X 0), .ref (xad X 40), .int (nI i)] [] τ) : V X 299 [.ref b, .ref (xad X 0), .ref (xad X 40), .int (nI i)] [] σ := by
  refine V_aload_n_1 (q := 300) C rfl dL_law_299 ?_
  refine V_aload_n_0 (q := 301) C rfl dL_law_300 ?_
  refine V_iload_n_3 (q := 302) C rfl dL_law_301 ?_
  refine V_iconst (q := 303) (v := 1) C rfl rfl dL_law_302 ?_
  refine V_iadd (q := 304) C rfl dL_law_303 ?_
  refine V_sld (q := 305) C S hL (i + 1) (nI_add i 1) (by omega) rfl dL_law_304 ?_
  refine V_aload_n_0 (q := 306) C rfl dL_law_305 ?_
  refine V_iload_n_3 (q := 307) C rfl dL_law_306 ?_
  refine V_iconst (q := 308) (v := 2) C rfl rfl dL_law_307 ?_
  refine V_iadd (q := 309) C rfl dL_law_308 ?_
  refine V_sld (q := 310) C S hL (i + 2) (nI_add i 2) (by omega) rfl dL_law_309 ?_
  obtain ⟨p1, h1, g1⟩ := op_rain (l := xl X) (D := xD X) (ad := xad X) (sc (i + 1)) (sc (i + 2))  h
  refine V_callr (q := 313) (As := [.int (sc (i + 1)), .int (sc (i + 2))]) (rest := []) C h1 cw_X8_rain cv_X8_rain wm_L_27 (by decide) ob_X8 ⟨by decide, by decide⟩ rfl rfl (Nat.le_of_ble_eq_true rfl) rfl dL_law_310 (fun v1 τ1 e1 => ?_)
  obtain ⟨r, rfl, p2, h2, g2⟩ := g1 v1 τ1 e1
  show V X 313 [.ref b, .ref (xad X 0), .ref (xad X 40), .int (nI i)] [.int r] τ1
  refine V_aload_n_2 (q := 314) C rfl dL_law_313 ?_
  refine V_aload_n_0 (q := 315) C rfl dL_law_314 ?_
  refine V_iload_n_3 (q := 316) C rfl dL_law_315 ?_
  refine V_iconst (q := 317) (v := 1) C rfl rfl dL_law_316 ?_
  refine V_iadd (q := 318) C rfl dL_law_317 ?_
  refine V_sld (q := 319) C S hL (i + 1) (nI_add i 1) (by omega) rfl dL_law_318 ?_
  refine V_aload_n_0 (q := 320) C rfl dL_law_319 ?_
  refine V_iload_n_3 (q := 321) C rfl dL_law_320 ?_
  refine V_iconst (q := 322) (v := 2) C rfl rfl dL_law_321 ?_
  refine V_iadd (q := 323) C rfl dL_law_322 ?_
  refine V_sld (q := 324) C S hL (i + 2) (nI_add i 2) (by omega) rfl dL_law_323 ?_
  refine V_callr (q := 327) (As := [.int (sc (i + 1)), .int (sc (i + 2))]) (rest := [.int r]) C h2 cw_X9_rain cv_X9_rain wm_L_30 (by decide) ob_X9 ⟨by decide, by decide⟩ rfl rfl (Nat.le_of_ble_eq_true rfl) rfl dL_law_324 (fun v2 τ2 e2 => ?_)
  obtain ⟨rfl, hR⟩ := g2 v2 τ2 e2
  show V X 327 [.ref b, .ref (xad X 0), .ref (xad X 40), .int (nI i)] [.int r, .int r] τ2
  refine V_icmp_eq_t (tgt := 1289) C rfl (by decide) dL_law_327 ?_
  exact kk τ2 hR
set_option maxHeartbeats 4000000 in
set_option maxRecDepth 100000 in
theorem law_4 {X : CT} {b L i : Nat} {sc : Nat → Int32} {σ : ST} (C : Cx X RL cL_law ret 9 326) (S : Sx X b L sc) (hL : L ≤ 3072) (hi : i + 6 ≤ L) (h : RelE σ) (kk : ∀ τ, RelE τ → V X 1289 [.ref b, .ref (xad X 0), .ref (xad X 40), .int (nI i)] [] τ) : V X 332 [.ref b, .ref (xad X 0), .ref (xad X 40), .int (nI i)] [] σ := by
  refine V_aload_n_1 (q := 333) C rfl dL_law_332 ?_
  refine V_aload_n_0 (q := 334) C rfl dL_law_333 ?_
  refine V_iload_n_3 (q := 335) C rfl dL_law_334 ?_
  refine V_iconst (q := 336) (v := 1) C rfl rfl dL_law_335 ?_
  refine V_iadd (q := 337) C rfl dL_law_336 ?_
  refine V_sld (q := 338) C S hL (i + 1) (nI_add i 1) (by omega) rfl dL_law_337 ?_
  refine V_aload_n_0 (q := 339) C rfl dL_law_338 ?_
  refine V_iload_n_3 (q := 340) C rfl dL_law_339 ?_
  refine V_iconst (q := 341) (v := 2) C rfl rfl dL_law_340 ?_
  refine V_iadd (q := 342) C rfl dL_law_341 ?_
  refine V_sld (q := 343) C S hL (i + 2) (nI_add i 2) (by omega) rfl dL_law_342 ?_
  obtain ⟨p1, h1, g1⟩ := op_water (l := xl X) (D := xD X) (ad := xad X) (sc (i + 1)) (sc (i + 2))  h
  refine V_callr (q := 346) (As := [.int (sc (i + 1)), .int (sc (i + 2))]) (rest := []) C h1 cw_X8_water cv_X8_water wm_L_31 (by decide) ob_X8 ⟨by decide, by decide⟩ rfl rfl (Nat.le_of_ble_eq_true rfl) rfl dL_law_343 (fun v1 τ1 e1 => ?_)
  obtain ⟨r, rfl, p2, h2, g2⟩ := g1 v1 τ1 e1
  show V X 346 [.ref b, .ref (xad X 0), .ref (xad X 40), .int (nI i)] [.int r] τ1
  refine V_aload_n_2 (q := 347) C rfl dL_law_346 ?_
  refine V_aload_n_0 (q := 348) C rfl dL_law_347 ?_
  refine V_iload_n_3 (q := 349) C rfl dL_law_348 ?_
  refine V_iconst (q := 350) (v := 1) C rfl rfl dL_law_349 ?_
  refine V_iadd (q := 351) C rfl dL_law_350 ?_
  refine V_sld (q := 352) C S hL (i + 1) (nI_add i 1) (by omega) rfl dL_law_351 ?_
  refine V_aload_n_0 (q := 353) C rfl dL_law_352 ?_
  refine V_iload_n_3 (q := 354) C rfl dL_law_353 ?_
  refine V_iconst (q := 355) (v := 2) C rfl rfl dL_law_354 ?_
  refine V_iadd (q := 356) C rfl dL_law_355 ?_
  refine V_sld (q := 357) C S hL (i + 2) (nI_add i 2) (by omega) rfl dL_law_356 ?_
  refine V_callr (q := 360) (As := [.int (sc (i + 1)), .int (sc (i + 2))]) (rest := [.int r]) C h2 cw_X9_water cv_X9_water wm_L_34 (by decide) ob_X9 ⟨by decide, by decide⟩ rfl rfl (Nat.le_of_ble_eq_true rfl) rfl dL_law_357 (fun v2 τ2 e2 => ?_)
  obtain ⟨rfl, hR⟩ := g2 v2 τ2 e2
  show V X 360 [.ref b, .ref (xad X 0), .ref (xad X 40), .int (nI i)] [.int r, .int r] τ2
  refine V_icmp_eq_t (tgt := 1289) C rfl (by decide) dL_law_360 ?_
  exact kk τ2 hR
set_option maxHeartbeats 4000000 in
set_option maxRecDepth 100000 in
theorem law_5 {X : CT} {b L i : Nat} {sc : Nat → Int32} {σ : ST} (C : Cx X RL cL_law ret 9 326) (S : Sx X b L sc) (hL : L ≤ 3072) (hi : i + 6 ≤ L) (h : RelE σ) (kk : ∀ τ, RelE τ → V X 1289 [.ref b, .ref (xad X 0), .ref (xad X 40), .int (nI i)] [] τ) : V X 365 [.ref b, .ref (xad X 0), .ref (xad X 40), .int (nI i)] [] σ := by
  by_cases hz : sc (i + 2) = 0
  · refine V_aload_n_1 (q := 366) C rfl dL_law_365 ?_
    refine V_aload_n_0 (q := 367) C rfl dL_law_366 ?_
    refine V_iload_n_3 (q := 368) C rfl dL_law_367 ?_
    refine V_iconst (q := 369) (v := 1) C rfl rfl dL_law_368 ?_
    refine V_iadd (q := 370) C rfl dL_law_369 ?_
    refine V_sld (q := 371) C S hL (i + 1) (nI_add i 1) (by omega) rfl dL_law_370 ?_
    refine V_aload_n_0 (q := 372) C rfl dL_law_371 ?_
    refine V_iload_n_3 (q := 373) C rfl dL_law_372 ?_
    refine V_iconst (q := 374) (v := 2) C rfl rfl dL_law_373 ?_
    refine V_iadd (q := 375) C rfl dL_law_374 ?_
    refine V_sld (q := 376) C S hL (i + 2) (nI_add i 2) (by omega) rfl dL_law_375 ?_
    refine V_if_eq_t (tgt := 383) C hz (by decide) dL_law_376 ?_
    refine V_iconst (q := 384) (v := 0) C rfl rfl dL_law_383 ?_
    obtain ⟨p1, h1, g1⟩ := op_frost (l := xl X) (D := xD X) (ad := xad X) (sc (i + 1)) 0 (Or.inl rfl) h
    refine V_callr (q := 387) (As := [.int (sc (i + 1)), .int 0]) (rest := []) C h1 cw_X8_frost cv_X8_frost wm_L_35 (by decide) ob_X8 ⟨by decide, by decide⟩ rfl rfl (Nat.le_of_ble_eq_true rfl) rfl dL_law_384 (fun v1 τ1 e1 => ?_)
    obtain ⟨r, rfl, p2, h2, g2⟩ := g1 v1 τ1 e1
    show V X 387 [.ref b, .ref (xad X 0), .ref (xad X 40), .int (nI i)] [.int r] τ1
    refine V_aload_n_2 (q := 388) C rfl dL_law_387 ?_
    refine V_aload_n_0 (q := 389) C rfl dL_law_388 ?_
    refine V_iload_n_3 (q := 390) C rfl dL_law_389 ?_
    refine V_iconst (q := 391) (v := 1) C rfl rfl dL_law_390 ?_
    refine V_iadd (q := 392) C rfl dL_law_391 ?_
    refine V_sld (q := 393) C S hL (i + 1) (nI_add i 1) (by omega) rfl dL_law_392 ?_
    refine V_aload_n_0 (q := 394) C rfl dL_law_393 ?_
    refine V_iload_n_3 (q := 395) C rfl dL_law_394 ?_
    refine V_iconst (q := 396) (v := 2) C rfl rfl dL_law_395 ?_
    refine V_iadd (q := 397) C rfl dL_law_396 ?_
    refine V_sld (q := 398) C S hL (i + 2) (nI_add i 2) (by omega) rfl dL_law_397 ?_
    refine V_if_eq_t (tgt := 405) C hz (by decide) dL_law_398 ?_
    refine V_iconst (q := 406) (v := 0) C rfl rfl dL_law_405 ?_
    refine V_callr (q := 409) (As := [.int (sc (i + 1)), .int 0]) (rest := [.int r]) C h2 cw_X9_frost cv_X9_frost wm_L_39 (by decide) ob_X9 ⟨by decide, by decide⟩ rfl rfl (Nat.le_of_ble_eq_true rfl) rfl dL_law_406 (fun v2 τ2 e2 => ?_)
    obtain ⟨rfl, hR⟩ := g2 v2 τ2 e2
    show V X 409 [.ref b, .ref (xad X 0), .ref (xad X 40), .int (nI i)] [.int r, .int r] τ2
    refine V_icmp_eq_t (tgt := 1289) C rfl (by decide) dL_law_409 ?_
    exact kk τ2 hR
  · refine V_aload_n_1 (q := 366) C rfl dL_law_365 ?_
    refine V_aload_n_0 (q := 367) C rfl dL_law_366 ?_
    refine V_iload_n_3 (q := 368) C rfl dL_law_367 ?_
    refine V_iconst (q := 369) (v := 1) C rfl rfl dL_law_368 ?_
    refine V_iadd (q := 370) C rfl dL_law_369 ?_
    refine V_sld (q := 371) C S hL (i + 1) (nI_add i 1) (by omega) rfl dL_law_370 ?_
    refine V_aload_n_0 (q := 372) C rfl dL_law_371 ?_
    refine V_iload_n_3 (q := 373) C rfl dL_law_372 ?_
    refine V_iconst (q := 374) (v := 2) C rfl rfl dL_law_373 ?_
    refine V_iadd (q := 375) C rfl dL_law_374 ?_
    refine V_sld (q := 376) C S hL (i + 2) (nI_add i 2) (by omega) rfl dL_law_375 ?_
    refine V_if_eq_f (q := 379) (tgt := 383) C hz rfl (by decide) dL_law_376 ?_
    refine V_iconst (q := 380) (v := 1) C rfl rfl dL_law_379 ?_
    refine V_goto (tgt := 384) C (by decide) dL_law_380 ?_
    obtain ⟨p1, h1, g1⟩ := op_frost (l := xl X) (D := xD X) (ad := xad X) (sc (i + 1)) 1 (Or.inr rfl) h
    refine V_callr (q := 387) (As := [.int (sc (i + 1)), .int 1]) (rest := []) C h1 cw_X8_frost cv_X8_frost wm_L_35 (by decide) ob_X8 ⟨by decide, by decide⟩ rfl rfl (Nat.le_of_ble_eq_true rfl) rfl dL_law_384 (fun v1 τ1 e1 => ?_)
    obtain ⟨r, rfl, p2, h2, g2⟩ := g1 v1 τ1 e1
    show V X 387 [.ref b, .ref (xad X 0), .ref (xad X 40), .int (nI i)] [.int r] τ1
    refine V_aload_n_2 (q := 388) C rfl dL_law_387 ?_
    refine V_aload_n_0 (q := 389) C rfl dL_law_388 ?_
    refine V_iload_n_3 (q := 390) C rfl dL_law_389 ?_
    refine V_iconst (q := 391) (v := 1) C rfl rfl dL_law_390 ?_
    refine V_iadd (q := 392) C rfl dL_law_391 ?_
    refine V_sld (q := 393) C S hL (i + 1) (nI_add i 1) (by omega) rfl dL_law_392 ?_
    refine V_aload_n_0 (q := 394) C rfl dL_law_393 ?_
    refine V_iload_n_3 (q := 395) C rfl dL_law_394 ?_
    refine V_iconst (q := 396) (v := 2) C rfl rfl dL_law_395 ?_
    refine V_iadd (q := 397) C rfl dL_law_396 ?_
    refine V_sld (q := 398) C S hL (i + 2) (nI_add i 2) (by omega) rfl dL_law_397 ?_
    refine V_if_eq_f (q := 401) (tgt := 405) C hz rfl (by decide) dL_law_398 ?_
    refine V_iconst (q := 402) (v := 1) C rfl rfl dL_law_401 ?_
    refine V_goto (tgt := 406) C (by decide) dL_law_402 ?_
    refine V_callr (q := 409) (As := [.int (sc (i + 1)), .int 1]) (rest := [.int r]) C h2 cw_X9_frost cv_X9_frost wm_L_39 (by decide) ob_X9 ⟨by decide, by decide⟩ rfl rfl (Nat.le_of_ble_eq_true rfl) rfl dL_law_406 (fun v2 τ2 e2 => ?_)
    obtain ⟨rfl, hR⟩ := g2 v2 τ2 e2
    show V X 409 [.ref b, .ref (xad X 0), .ref (xad X 40), .int (nI i)] [.int r, .int r] τ2
    refine V_icmp_eq_t (tgt := 1289) C rfl (by decide) dL_law_409 ?_
    exact kk τ2 hR
set_option maxHeartbeats 4000000 in
set_option maxRecDepth 100000 in
theorem law_6 {X : CT} {b L i : Nat} {sc : Nat → Int32} {σ : ST} (C : Cx X RL cL_law ret 9 326) (S : Sx X b L sc) (hL : L ≤ 3072) (hi : i + 6 ≤ L) (h : RelE σ) (kk : ∀ τ, RelE τ → V X 1289 [.ref b, .ref (xad X 0), .ref (xad X 40), .int (nI i)] [] τ) : V X 414 [.ref b, .ref (xad X 0), .ref (xad X 40), .int (nI i)] [] σ := by
  refine V_aload_n_1 (q := 415) C rfl dL_law_414 ?_
  refine V_aload_n_0 (q := 416) C rfl dL_law_415 ?_
  refine V_iload_n_3 (q := 417) C rfl dL_law_416 ?_
  refine V_iconst (q := 418) (v := 1) C rfl rfl dL_law_417 ?_
  refine V_iadd (q := 419) C rfl dL_law_418 ?_
  refine V_sld (q := 420) C S hL (i + 1) (nI_add i 1) (by omega) rfl dL_law_419 ?_
  refine V_aload_n_0 (q := 421) C rfl dL_law_420 ?_
  refine V_iload_n_3 (q := 422) C rfl dL_law_421 ?_
  refine V_iconst (q := 423) (v := 2) C rfl rfl dL_law_422 ?_
  refine V_iadd (q := 424) C rfl dL_law_423 ?_
  refine V_sld (q := 425) C S hL (i + 2) (nI_add i 2) (by omega) rfl dL_law_424 ?_
  obtain ⟨p1, h1, g1⟩ := op_crow (l := xl X) (D := xD X) (ad := xad X) (sc (i + 1)) (sc (i + 2))  h
  refine V_callr (q := 428) (As := [.int (sc (i + 1)), .int (sc (i + 2))]) (rest := []) C h1 cw_X8_crow cv_X8_crow wm_L_40 (by decide) ob_X8 ⟨by decide, by decide⟩ rfl rfl (Nat.le_of_ble_eq_true rfl) rfl dL_law_425 (fun v1 τ1 e1 => ?_)
  obtain ⟨r, rfl, p2, h2, g2⟩ := g1 v1 τ1 e1
  show V X 428 [.ref b, .ref (xad X 0), .ref (xad X 40), .int (nI i)] [.int r] τ1
  refine V_aload_n_2 (q := 429) C rfl dL_law_428 ?_
  refine V_aload_n_0 (q := 430) C rfl dL_law_429 ?_
  refine V_iload_n_3 (q := 431) C rfl dL_law_430 ?_
  refine V_iconst (q := 432) (v := 1) C rfl rfl dL_law_431 ?_
  refine V_iadd (q := 433) C rfl dL_law_432 ?_
  refine V_sld (q := 434) C S hL (i + 1) (nI_add i 1) (by omega) rfl dL_law_433 ?_
  refine V_aload_n_0 (q := 435) C rfl dL_law_434 ?_
  refine V_iload_n_3 (q := 436) C rfl dL_law_435 ?_
  refine V_iconst (q := 437) (v := 2) C rfl rfl dL_law_436 ?_
  refine V_iadd (q := 438) C rfl dL_law_437 ?_
  refine V_sld (q := 439) C S hL (i + 2) (nI_add i 2) (by omega) rfl dL_law_438 ?_
  refine V_callr (q := 442) (As := [.int (sc (i + 1)), .int (sc (i + 2))]) (rest := [.int r]) C h2 cw_X9_crow cv_X9_crow wm_L_43 (by decide) ob_X9 ⟨by decide, by decide⟩ rfl rfl (Nat.le_of_ble_eq_true rfl) rfl dL_law_439 (fun v2 τ2 e2 => ?_)
  obtain ⟨rfl, hR⟩ := g2 v2 τ2 e2
  show V X 442 [.ref b, .ref (xad X 0), .ref (xad X 40), .int (nI i)] [.int r, .int r] τ2
  refine V_icmp_eq_t (tgt := 1289) C rfl (by decide) dL_law_442 ?_
  exact kk τ2 hR
set_option maxHeartbeats 4000000 in
set_option maxRecDepth 100000 in
theorem law_7 {X : CT} {b L i : Nat} {sc : Nat → Int32} {σ : ST} (C : Cx X RL cL_law ret 9 326) (S : Sx X b L sc) (hL : L ≤ 3072) (hi : i + 6 ≤ L) (h : RelE σ) (kk : ∀ τ, RelE τ → V X 1289 [.ref b, .ref (xad X 0), .ref (xad X 40), .int (nI i)] [] τ) : V X 447 [.ref b, .ref (xad X 0), .ref (xad X 40), .int (nI i)] [] σ := by
  refine V_aload_n_1 (q := 448) C rfl dL_law_447 ?_
  refine V_aload_n_0 (q := 449) C rfl dL_law_448 ?_
  refine V_iload_n_3 (q := 450) C rfl dL_law_449 ?_
  refine V_iconst (q := 451) (v := 1) C rfl rfl dL_law_450 ?_
  refine V_iadd (q := 452) C rfl dL_law_451 ?_
  refine V_sld (q := 453) C S hL (i + 1) (nI_add i 1) (by omega) rfl dL_law_452 ?_
  obtain ⟨p1, h1, g1⟩ := op_shoo (l := xl X) (D := xD X) (ad := xad X) (sc (i + 1))  h
  refine V_callr (q := 456) (As := [.int (sc (i + 1))]) (rest := []) C h1 cw_X8_shoo cv_X8_shoo wm_L_44 (by decide) ob_X8 ⟨by decide, by decide⟩ rfl rfl (Nat.le_of_ble_eq_true rfl) rfl dL_law_453 (fun v1 τ1 e1 => ?_)
  obtain ⟨r, rfl, p2, h2, g2⟩ := g1 v1 τ1 e1
  show V X 456 [.ref b, .ref (xad X 0), .ref (xad X 40), .int (nI i)] [.int r] τ1
  refine V_aload_n_2 (q := 457) C rfl dL_law_456 ?_
  refine V_aload_n_0 (q := 458) C rfl dL_law_457 ?_
  refine V_iload_n_3 (q := 459) C rfl dL_law_458 ?_
  refine V_iconst (q := 460) (v := 1) C rfl rfl dL_law_459 ?_
  refine V_iadd (q := 461) C rfl dL_law_460 ?_
  refine V_sld (q := 462) C S hL (i + 1) (nI_add i 1) (by omega) rfl dL_law_461 ?_
  refine V_callr (q := 465) (As := [.int (sc (i + 1))]) (rest := [.int r]) C h2 cw_X9_shoo cv_X9_shoo wm_L_48 (by decide) ob_X9 ⟨by decide, by decide⟩ rfl rfl (Nat.le_of_ble_eq_true rfl) rfl dL_law_462 (fun v2 τ2 e2 => ?_)
  obtain ⟨rfl, hR⟩ := g2 v2 τ2 e2
  show V X 465 [.ref b, .ref (xad X 0), .ref (xad X 40), .int (nI i)] [.int r, .int r] τ2
  refine V_icmp_eq_t (tgt := 1289) C rfl (by decide) dL_law_465 ?_
  exact kk τ2 hR
set_option maxHeartbeats 4000000 in
set_option maxRecDepth 100000 in
theorem law_8 {X : CT} {b L i : Nat} {sc : Nat → Int32} {σ : ST} (C : Cx X RL cL_law ret 9 326) (S : Sx X b L sc) (hL : L ≤ 3072) (hi : i + 6 ≤ L) (h : RelE σ) (kk : ∀ τ, RelE τ → V X 1289 [.ref b, .ref (xad X 0), .ref (xad X 40), .int (nI i)] [] τ) : V X 470 [.ref b, .ref (xad X 0), .ref (xad X 40), .int (nI i)] [] σ := by
  by_cases hz : sc (i + 2) = 0
  · refine V_aload_n_1 (q := 471) C rfl dL_law_470 ?_
    refine V_aload_n_0 (q := 472) C rfl dL_law_471 ?_
    refine V_iload_n_3 (q := 473) C rfl dL_law_472 ?_
    refine V_iconst (q := 474) (v := 1) C rfl rfl dL_law_473 ?_
    refine V_iadd (q := 475) C rfl dL_law_474 ?_
    refine V_sld (q := 476) C S hL (i + 1) (nI_add i 1) (by omega) rfl dL_law_475 ?_
    refine V_aload_n_0 (q := 477) C rfl dL_law_476 ?_
    refine V_iload_n_3 (q := 478) C rfl dL_law_477 ?_
    refine V_iconst (q := 479) (v := 2) C rfl rfl dL_law_478 ?_
    refine V_iadd (q := 480) C rfl dL_law_479 ?_
    refine V_sld (q := 481) C S hL (i + 2) (nI_add i 2) (by omega) rfl dL_law_480 ?_
    refine V_if_eq_t (tgt := 488) C hz (by decide) dL_law_481 ?_
    refine V_iconst (q := 489) (v := 0) C rfl rfl dL_law_488 ?_
    obtain ⟨p1, h1, g1⟩ := op_fell (l := xl X) (D := xD X) (ad := xad X) (sc (i + 1)) 0 (Or.inl rfl) h
    refine V_callr (q := 492) (As := [.int (sc (i + 1)), .int 0]) (rest := []) C h1 cw_X8_fell cv_X8_fell wm_L_49 (by decide) ob_X8 ⟨by decide, by decide⟩ rfl rfl (Nat.le_of_ble_eq_true rfl) rfl dL_law_489 (fun v1 τ1 e1 => ?_)
    obtain ⟨r, rfl, p2, h2, g2⟩ := g1 v1 τ1 e1
    show V X 492 [.ref b, .ref (xad X 0), .ref (xad X 40), .int (nI i)] [.int r] τ1
    refine V_aload_n_2 (q := 493) C rfl dL_law_492 ?_
    refine V_aload_n_0 (q := 494) C rfl dL_law_493 ?_
    refine V_iload_n_3 (q := 495) C rfl dL_law_494 ?_
    refine V_iconst (q := 496) (v := 1) C rfl rfl dL_law_495 ?_
    refine V_iadd (q := 497) C rfl dL_law_496 ?_
    refine V_sld (q := 498) C S hL (i + 1) (nI_add i 1) (by omega) rfl dL_law_497 ?_
    refine V_aload_n_0 (q := 499) C rfl dL_law_498 ?_
    refine V_iload_n_3 (q := 500) C rfl dL_law_499 ?_
    refine V_iconst (q := 501) (v := 2) C rfl rfl dL_law_500 ?_
    refine V_iadd (q := 502) C rfl dL_law_501 ?_
    refine V_sld (q := 503) C S hL (i + 2) (nI_add i 2) (by omega) rfl dL_law_502 ?_
    refine V_if_eq_t (tgt := 510) C hz (by decide) dL_law_503 ?_
    refine V_iconst (q := 511) (v := 0) C rfl rfl dL_law_510 ?_
    refine V_callr (q := 514) (As := [.int (sc (i + 1)), .int 0]) (rest := [.int r]) C h2 cw_X9_fell cv_X9_fell wm_L_52 (by decide) ob_X9 ⟨by decide, by decide⟩ rfl rfl (Nat.le_of_ble_eq_true rfl) rfl dL_law_511 (fun v2 τ2 e2 => ?_)
    obtain ⟨rfl, hR⟩ := g2 v2 τ2 e2
    show V X 514 [.ref b, .ref (xad X 0), .ref (xad X 40), .int (nI i)] [.int r, .int r] τ2
    refine V_icmp_eq_t (tgt := 1289) C rfl (by decide) dL_law_514 ?_
    exact kk τ2 hR
  · refine V_aload_n_1 (q := 471) C rfl dL_law_470 ?_
    refine V_aload_n_0 (q := 472) C rfl dL_law_471 ?_
    refine V_iload_n_3 (q := 473) C rfl dL_law_472 ?_
    refine V_iconst (q := 474) (v := 1) C rfl rfl dL_law_473 ?_
    refine V_iadd (q := 475) C rfl dL_law_474 ?_
    refine V_sld (q := 476) C S hL (i + 1) (nI_add i 1) (by omega) rfl dL_law_475 ?_
    refine V_aload_n_0 (q := 477) C rfl dL_law_476 ?_
    refine V_iload_n_3 (q := 478) C rfl dL_law_477 ?_
    refine V_iconst (q := 479) (v := 2) C rfl rfl dL_law_478 ?_
    refine V_iadd (q := 480) C rfl dL_law_479 ?_
    refine V_sld (q := 481) C S hL (i + 2) (nI_add i 2) (by omega) rfl dL_law_480 ?_
    refine V_if_eq_f (q := 484) (tgt := 488) C hz rfl (by decide) dL_law_481 ?_
    refine V_iconst (q := 485) (v := 1) C rfl rfl dL_law_484 ?_
    refine V_goto (tgt := 489) C (by decide) dL_law_485 ?_
    obtain ⟨p1, h1, g1⟩ := op_fell (l := xl X) (D := xD X) (ad := xad X) (sc (i + 1)) 1 (Or.inr rfl) h
    refine V_callr (q := 492) (As := [.int (sc (i + 1)), .int 1]) (rest := []) C h1 cw_X8_fell cv_X8_fell wm_L_49 (by decide) ob_X8 ⟨by decide, by decide⟩ rfl rfl (Nat.le_of_ble_eq_true rfl) rfl dL_law_489 (fun v1 τ1 e1 => ?_)
    obtain ⟨r, rfl, p2, h2, g2⟩ := g1 v1 τ1 e1
    show V X 492 [.ref b, .ref (xad X 0), .ref (xad X 40), .int (nI i)] [.int r] τ1
    refine V_aload_n_2 (q := 493) C rfl dL_law_492 ?_
    refine V_aload_n_0 (q := 494) C rfl dL_law_493 ?_
    refine V_iload_n_3 (q := 495) C rfl dL_law_494 ?_
    refine V_iconst (q := 496) (v := 1) C rfl rfl dL_law_495 ?_
    refine V_iadd (q := 497) C rfl dL_law_496 ?_
    refine V_sld (q := 498) C S hL (i + 1) (nI_add i 1) (by omega) rfl dL_law_497 ?_
    refine V_aload_n_0 (q := 499) C rfl dL_law_498 ?_
    refine V_iload_n_3 (q := 500) C rfl dL_law_499 ?_
    refine V_iconst (q := 501) (v := 2) C rfl rfl dL_law_500 ?_
    refine V_iadd (q := 502) C rfl dL_law_501 ?_
    refine V_sld (q := 503) C S hL (i + 2) (nI_add i 2) (by omega) rfl dL_law_502 ?_
    refine V_if_eq_f (q := 506) (tgt := 510) C hz rfl (by decide) dL_law_503 ?_
    refine V_iconst (q := 507) (v := 1) C rfl rfl dL_law_506 ?_
    refine V_goto (tgt := 511) C (by decide) dL_law_507 ?_
    refine V_callr (q := 514) (As := [.int (sc (i + 1)), .int 1]) (rest := [.int r]) C h2 cw_X9_fell cv_X9_fell wm_L_52 (by decide) ob_X9 ⟨by decide, by decide⟩ rfl rfl (Nat.le_of_ble_eq_true rfl) rfl dL_law_511 (fun v2 τ2 e2 => ?_)
    obtain ⟨rfl, hR⟩ := g2 v2 τ2 e2
    show V X 514 [.ref b, .ref (xad X 0), .ref (xad X 40), .int (nI i)] [.int r, .int r] τ2
    refine V_icmp_eq_t (tgt := 1289) C rfl (by decide) dL_law_514 ?_
    exact kk τ2 hR
set_option maxHeartbeats 4000000 in
set_option maxRecDepth 100000 in
theorem law_9 {X : CT} {b L i : Nat} {sc : Nat → Int32} {σ : ST} (C : Cx X RL cL_law ret 9 326) (S : Sx X b L sc) (hL : L ≤ 3072) (hi : i + 6 ≤ L) (h : RelE σ) (kk : ∀ τ, RelE τ → V X 1289 [.ref b, .ref (xad X 0), .ref (xad X 40), .int (nI i)] [] τ) : V X 519 [.ref b, .ref (xad X 0), .ref (xad X 40), .int (nI i)] [] σ := by
  refine V_aload_n_1 (q := 520) C rfl dL_law_519 ?_
  refine V_aload_n_0 (q := 521) C rfl dL_law_520 ?_
  refine V_iload_n_3 (q := 522) C rfl dL_law_521 ?_
  refine V_iconst (q := 523) (v := 1) C rfl rfl dL_law_522 ?_
  refine V_iadd (q := 524) C rfl dL_law_523 ?_
  refine V_sld (q := 525) C S hL (i + 1) (nI_add i 1) (by omega) rfl dL_law_524 ?_
  obtain ⟨p1, h1, g1⟩ := op_out (l := xl X) (D := xD X) (ad := xad X) (sc (i + 1))  h
  refine V_callr (q := 528) (As := [.int (sc (i + 1))]) (rest := []) C h1 cw_X8_out cv_X8_out wm_L_53 (by decide) ob_X8 ⟨by decide, by decide⟩ rfl rfl (Nat.le_of_ble_eq_true rfl) rfl dL_law_525 (fun v1 τ1 e1 => ?_)
  obtain ⟨r, rfl, p2, h2, g2⟩ := g1 v1 τ1 e1
  show V X 528 [.ref b, .ref (xad X 0), .ref (xad X 40), .int (nI i)] [.int r] τ1
  refine V_aload_n_2 (q := 529) C rfl dL_law_528 ?_
  refine V_aload_n_0 (q := 530) C rfl dL_law_529 ?_
  refine V_iload_n_3 (q := 531) C rfl dL_law_530 ?_
  refine V_iconst (q := 532) (v := 1) C rfl rfl dL_law_531 ?_
  refine V_iadd (q := 533) C rfl dL_law_532 ?_
  refine V_sld (q := 534) C S hL (i + 1) (nI_add i 1) (by omega) rfl dL_law_533 ?_
  refine V_callr (q := 537) (As := [.int (sc (i + 1))]) (rest := [.int r]) C h2 cw_X9_out cv_X9_out wm_L_56 (by decide) ob_X9 ⟨by decide, by decide⟩ rfl rfl (Nat.le_of_ble_eq_true rfl) rfl dL_law_534 (fun v2 τ2 e2 => ?_)
  obtain ⟨rfl, hR⟩ := g2 v2 τ2 e2
  show V X 537 [.ref b, .ref (xad X 0), .ref (xad X 40), .int (nI i)] [.int r, .int r] τ2
  refine V_icmp_eq_t (tgt := 1289) C rfl (by decide) dL_law_537 ?_
  exact kk τ2 hR
set_option maxHeartbeats 4000000 in
set_option maxRecDepth 100000 in
theorem law_10 {X : CT} {b L i : Nat} {sc : Nat → Int32} {σ : ST} (C : Cx X RL cL_law ret 9 326) (S : Sx X b L sc) (hL : L ≤ 3072) (hi : i + 6 ≤ L) (h : RelE σ) (kk : ∀ τ, RelE τ → V X 1289 [.ref b, .ref (xad X 0), .ref (xad X 40), .int (nI i)] [] τ) : V X 542 [.ref b, .ref (xad X 0), .ref (xad X 40), .int (nI i)] [] σ := by
  refine V_aload_n_1 (q := 543) C rfl dL_law_542 ?_
  refine V_aload_n_0 (q := 544) C rfl dL_law_543 ?_
  refine V_iload_n_3 (q := 545) C rfl dL_law_544 ?_
  refine V_iconst (q := 546) (v := 1) C rfl rfl dL_law_545 ?_
  refine V_iadd (q := 547) C rfl dL_law_546 ?_
  refine V_sld (q := 548) C S hL (i + 1) (nI_add i 1) (by omega) rfl dL_law_547 ?_
  obtain ⟨p1, h1, g1⟩ := op_by (l := xl X) (D := xD X) (ad := xad X) (sc (i + 1))  h
  refine V_callr (q := 551) (As := [.int (sc (i + 1))]) (rest := []) C h1 cw_X8_by cv_X8_by wm_L_57 (by decide) ob_X8 ⟨by decide, by decide⟩ rfl rfl (Nat.le_of_ble_eq_true rfl) rfl dL_law_548 (fun v1 τ1 e1 => ?_)
  obtain ⟨r, rfl, p2, h2, g2⟩ := g1 v1 τ1 e1
  show V X 551 [.ref b, .ref (xad X 0), .ref (xad X 40), .int (nI i)] [.int r] τ1
  refine V_aload_n_2 (q := 552) C rfl dL_law_551 ?_
  refine V_aload_n_0 (q := 553) C rfl dL_law_552 ?_
  refine V_iload_n_3 (q := 554) C rfl dL_law_553 ?_
  refine V_iconst (q := 555) (v := 1) C rfl rfl dL_law_554 ?_
  refine V_iadd (q := 556) C rfl dL_law_555 ?_
  refine V_sld (q := 557) C S hL (i + 1) (nI_add i 1) (by omega) rfl dL_law_556 ?_
  refine V_callr (q := 560) (As := [.int (sc (i + 1))]) (rest := [.int r]) C h2 cw_X9_by cv_X9_by wm_L_60 (by decide) ob_X9 ⟨by decide, by decide⟩ rfl rfl (Nat.le_of_ble_eq_true rfl) rfl dL_law_557 (fun v2 τ2 e2 => ?_)
  obtain ⟨rfl, hR⟩ := g2 v2 τ2 e2
  show V X 560 [.ref b, .ref (xad X 0), .ref (xad X 40), .int (nI i)] [.int r, .int r] τ2
  refine V_icmp_eq_t (tgt := 1289) C rfl (by decide) dL_law_560 ?_
  exact kk τ2 hR
set_option maxHeartbeats 4000000 in
set_option maxRecDepth 100000 in
theorem law_11 {X : CT} {b L i : Nat} {sc : Nat → Int32} {σ : ST} (C : Cx X RL cL_law ret 9 326) (S : Sx X b L sc) (hL : L ≤ 3072) (hi : i + 6 ≤ L) (h : RelE σ) (kk : ∀ τ, RelE τ → V X 1289 [.ref b, .ref (xad X 0), .ref (xad X 40), .int (nI i)] [] τ) : V X 565 [.ref b, .ref (xad X 0), .ref (xad X 40), .int (nI i)] [] σ := by
  refine V_aload_n_1 (q := 566) C rfl dL_law_565 ?_
  refine V_aload_n_0 (q := 567) C rfl dL_law_566 ?_
  refine V_iload_n_3 (q := 568) C rfl dL_law_567 ?_
  refine V_iconst (q := 569) (v := 1) C rfl rfl dL_law_568 ?_
  refine V_iadd (q := 570) C rfl dL_law_569 ?_
  refine V_sld (q := 571) C S hL (i + 1) (nI_add i 1) (by omega) rfl dL_law_570 ?_
  obtain ⟨p1, h1, g1⟩ := op_free (l := xl X) (D := xD X) (ad := xad X) (sc (i + 1))  h
  refine V_callr (q := 574) (As := [.int (sc (i + 1))]) (rest := []) C h1 cw_X8_free cv_X8_free wm_L_61 (by decide) ob_X8 ⟨by decide, by decide⟩ rfl rfl (Nat.le_of_ble_eq_true rfl) rfl dL_law_571 (fun v1 τ1 e1 => ?_)
  obtain ⟨r, rfl, p2, h2, g2⟩ := g1 v1 τ1 e1
  show V X 574 [.ref b, .ref (xad X 0), .ref (xad X 40), .int (nI i)] [.int r] τ1
  refine V_aload_n_2 (q := 575) C rfl dL_law_574 ?_
  refine V_aload_n_0 (q := 576) C rfl dL_law_575 ?_
  refine V_iload_n_3 (q := 577) C rfl dL_law_576 ?_
  refine V_iconst (q := 578) (v := 1) C rfl rfl dL_law_577 ?_
  refine V_iadd (q := 579) C rfl dL_law_578 ?_
  refine V_sld (q := 580) C S hL (i + 1) (nI_add i 1) (by omega) rfl dL_law_579 ?_
  refine V_callr (q := 583) (As := [.int (sc (i + 1))]) (rest := [.int r]) C h2 cw_X9_free cv_X9_free wm_L_64 (by decide) ob_X9 ⟨by decide, by decide⟩ rfl rfl (Nat.le_of_ble_eq_true rfl) rfl dL_law_580 (fun v2 τ2 e2 => ?_)
  obtain ⟨rfl, hR⟩ := g2 v2 τ2 e2
  show V X 583 [.ref b, .ref (xad X 0), .ref (xad X 40), .int (nI i)] [.int r, .int r] τ2
  refine V_icmp_eq_t (tgt := 1289) C rfl (by decide) dL_law_583 ?_
  exact kk τ2 hR
set_option maxHeartbeats 4000000 in
set_option maxRecDepth 100000 in
theorem law_12 {X : CT} {b L i : Nat} {sc : Nat → Int32} {σ : ST} (C : Cx X RL cL_law ret 9 326) (S : Sx X b L sc) (hL : L ≤ 3072) (hi : i + 6 ≤ L) (h : RelE σ) (kk : ∀ τ, RelE τ → V X 1289 [.ref b, .ref (xad X 0), .ref (xad X 40), .int (nI i)] [] τ) : V X 588 [.ref b, .ref (xad X 0), .ref (xad X 40), .int (nI i)] [] σ := by
  refine V_aload_n_1 (q := 589) C rfl dL_law_588 ?_
  refine V_aload_n_0 (q := 590) C rfl dL_law_589 ?_
  refine V_iload_n_3 (q := 591) C rfl dL_law_590 ?_
  refine V_iconst (q := 592) (v := 1) C rfl rfl dL_law_591 ?_
  refine V_iadd (q := 593) C rfl dL_law_592 ?_
  refine V_sld (q := 594) C S hL (i + 1) (nI_add i 1) (by omega) rfl dL_law_593 ?_
  refine V_aload_n_0 (q := 595) C rfl dL_law_594 ?_
  refine V_iload_n_3 (q := 596) C rfl dL_law_595 ?_
  refine V_iconst (q := 597) (v := 2) C rfl rfl dL_law_596 ?_
  refine V_iadd (q := 598) C rfl dL_law_597 ?_
  refine V_sld (q := 599) C S hL (i + 2) (nI_add i 2) (by omega) rfl dL_law_598 ?_
  obtain ⟨p1, h1, g1⟩ := op_has (l := xl X) (D := xD X) (ad := xad X) (sc (i + 1)) (sc (i + 2))  h
  refine V_callr (q := 602) (As := [.int (sc (i + 1)), .int (sc (i + 2))]) (rest := []) C h1 cw_X8_has cv_X8_has wm_L_65 (by decide) ob_X8 ⟨by decide, by decide⟩ rfl rfl (Nat.le_of_ble_eq_true rfl) rfl dL_law_599 (fun v1 τ1 e1 => ?_)
  obtain ⟨r, rfl, p2, h2, g2⟩ := g1 v1 τ1 e1
  show V X 602 [.ref b, .ref (xad X 0), .ref (xad X 40), .int (nI i)] [.int r] τ1
  refine V_aload_n_2 (q := 603) C rfl dL_law_602 ?_
  refine V_aload_n_0 (q := 604) C rfl dL_law_603 ?_
  refine V_iload_n_3 (q := 605) C rfl dL_law_604 ?_
  refine V_iconst (q := 606) (v := 1) C rfl rfl dL_law_605 ?_
  refine V_iadd (q := 607) C rfl dL_law_606 ?_
  refine V_sld (q := 608) C S hL (i + 1) (nI_add i 1) (by omega) rfl dL_law_607 ?_
  refine V_aload_n_0 (q := 609) C rfl dL_law_608 ?_
  refine V_iload_n_3 (q := 610) C rfl dL_law_609 ?_
  refine V_iconst (q := 611) (v := 2) C rfl rfl dL_law_610 ?_
  refine V_iadd (q := 612) C rfl dL_law_611 ?_
  refine V_sld (q := 613) C S hL (i + 2) (nI_add i 2) (by omega) rfl dL_law_612 ?_
  refine V_callr (q := 616) (As := [.int (sc (i + 1)), .int (sc (i + 2))]) (rest := [.int r]) C h2 cw_X9_has cv_X9_has wm_L_68 (by decide) ob_X9 ⟨by decide, by decide⟩ rfl rfl (Nat.le_of_ble_eq_true rfl) rfl dL_law_613 (fun v2 τ2 e2 => ?_)
  obtain ⟨rfl, hR⟩ := g2 v2 τ2 e2
  show V X 616 [.ref b, .ref (xad X 0), .ref (xad X 40), .int (nI i)] [.int r, .int r] τ2
  refine V_icmp_eq_t (tgt := 1289) C rfl (by decide) dL_law_616 ?_
  exact kk τ2 hR
set_option maxHeartbeats 4000000 in
set_option maxRecDepth 100000 in
theorem law_13 {X : CT} {b L i : Nat} {sc : Nat → Int32} {σ : ST} (C : Cx X RL cL_law ret 9 326) (S : Sx X b L sc) (hL : L ≤ 3072) (hi : i + 6 ≤ L) (h : RelE σ) (kk : ∀ τ, RelE τ → V X 1289 [.ref b, .ref (xad X 0), .ref (xad X 40), .int (nI i)] [] τ) : V X 621 [.ref b, .ref (xad X 0), .ref (xad X 40), .int (nI i)] [] σ := by
  refine V_aload_n_1 (q := 622) C rfl dL_law_621 ?_
  refine V_aload_n_0 (q := 623) C rfl dL_law_622 ?_
  refine V_iload_n_3 (q := 624) C rfl dL_law_623 ?_
  refine V_iconst (q := 625) (v := 1) C rfl rfl dL_law_624 ?_
  refine V_iadd (q := 626) C rfl dL_law_625 ?_
  refine V_sld (q := 627) C S hL (i + 1) (nI_add i 1) (by omega) rfl dL_law_626 ?_
  refine V_aload_n_0 (q := 628) C rfl dL_law_627 ?_
  refine V_iload_n_3 (q := 629) C rfl dL_law_628 ?_
  refine V_iconst (q := 630) (v := 2) C rfl rfl dL_law_629 ?_
  refine V_iadd (q := 631) C rfl dL_law_630 ?_
  refine V_sld (q := 632) C S hL (i + 2) (nI_add i 2) (by omega) rfl dL_law_631 ?_
  refine V_aload_n_0 (q := 633) C rfl dL_law_632 ?_
  refine V_iload_n_3 (q := 634) C rfl dL_law_633 ?_
  refine V_iconst (q := 635) (v := 3) C rfl rfl dL_law_634 ?_
  refine V_iadd (q := 636) C rfl dL_law_635 ?_
  refine V_sld (q := 637) C S hL (i + 3) (nI_add i 3) (by omega) rfl dL_law_636 ?_
  obtain ⟨p1, h1, g1⟩ := op_least (l := xl X) (D := xD X) (ad := xad X) (sc (i + 1)) (sc (i + 2)) (sc (i + 3))  h
  refine V_callr (q := 640) (As := [.int (sc (i + 1)), .int (sc (i + 2)), .int (sc (i + 3))]) (rest := []) C h1 cw_X8_least cv_X8_least wm_L_69 (by decide) ob_X8 ⟨by decide, by decide⟩ rfl rfl (Nat.le_of_ble_eq_true rfl) rfl dL_law_637 (fun v1 τ1 e1 => ?_)
  obtain ⟨r, rfl, p2, h2, g2⟩ := g1 v1 τ1 e1
  show V X 640 [.ref b, .ref (xad X 0), .ref (xad X 40), .int (nI i)] [.int r] τ1
  refine V_aload_n_2 (q := 641) C rfl dL_law_640 ?_
  refine V_aload_n_0 (q := 642) C rfl dL_law_641 ?_
  refine V_iload_n_3 (q := 643) C rfl dL_law_642 ?_
  refine V_iconst (q := 644) (v := 1) C rfl rfl dL_law_643 ?_
  refine V_iadd (q := 645) C rfl dL_law_644 ?_
  refine V_sld (q := 646) C S hL (i + 1) (nI_add i 1) (by omega) rfl dL_law_645 ?_
  refine V_aload_n_0 (q := 647) C rfl dL_law_646 ?_
  refine V_iload_n_3 (q := 648) C rfl dL_law_647 ?_
  refine V_iconst (q := 649) (v := 2) C rfl rfl dL_law_648 ?_
  refine V_iadd (q := 650) C rfl dL_law_649 ?_
  refine V_sld (q := 651) C S hL (i + 2) (nI_add i 2) (by omega) rfl dL_law_650 ?_
  refine V_aload_n_0 (q := 652) C rfl dL_law_651 ?_
  refine V_iload_n_3 (q := 653) C rfl dL_law_652 ?_
  refine V_iconst (q := 654) (v := 3) C rfl rfl dL_law_653 ?_
  refine V_iadd (q := 655) C rfl dL_law_654 ?_
  refine V_sld (q := 656) C S hL (i + 3) (nI_add i 3) (by omega) rfl dL_law_655 ?_
  refine V_callr (q := 659) (As := [.int (sc (i + 1)), .int (sc (i + 2)), .int (sc (i + 3))]) (rest := [.int r]) C h2 cw_X9_least cv_X9_least wm_L_73 (by decide) ob_X9 ⟨by decide, by decide⟩ rfl rfl (Nat.le_of_ble_eq_true rfl) rfl dL_law_656 (fun v2 τ2 e2 => ?_)
  obtain ⟨rfl, hR⟩ := g2 v2 τ2 e2
  show V X 659 [.ref b, .ref (xad X 0), .ref (xad X 40), .int (nI i)] [.int r, .int r] τ2
  refine V_icmp_eq_t (tgt := 1289) C rfl (by decide) dL_law_659 ?_
  exact kk τ2 hR
set_option maxHeartbeats 4000000 in
set_option maxRecDepth 100000 in
theorem law_14 {X : CT} {b L i : Nat} {sc : Nat → Int32} {σ : ST} (C : Cx X RL cL_law ret 9 326) (S : Sx X b L sc) (hL : L ≤ 3072) (hi : i + 6 ≤ L) (h : RelE σ) (kk : ∀ τ, RelE τ → V X 1289 [.ref b, .ref (xad X 0), .ref (xad X 40), .int (nI i)] [] τ) : V X 664 [.ref b, .ref (xad X 0), .ref (xad X 40), .int (nI i)] [] σ := by
  refine V_aload_n_1 (q := 665) C rfl dL_law_664 ?_
  refine V_aload_n_0 (q := 666) C rfl dL_law_665 ?_
  refine V_iload_n_3 (q := 667) C rfl dL_law_666 ?_
  refine V_iconst (q := 668) (v := 1) C rfl rfl dL_law_667 ?_
  refine V_iadd (q := 669) C rfl dL_law_668 ?_
  refine V_sld (q := 670) C S hL (i + 1) (nI_add i 1) (by omega) rfl dL_law_669 ?_
  refine V_aload_n_0 (q := 671) C rfl dL_law_670 ?_
  refine V_iload_n_3 (q := 672) C rfl dL_law_671 ?_
  refine V_iconst (q := 673) (v := 2) C rfl rfl dL_law_672 ?_
  refine V_iadd (q := 674) C rfl dL_law_673 ?_
  refine V_sld (q := 675) C S hL (i + 2) (nI_add i 2) (by omega) rfl dL_law_674 ?_
  refine V_aload_n_0 (q := 676) C rfl dL_law_675 ?_
  refine V_iload_n_3 (q := 677) C rfl dL_law_676 ?_
  refine V_iconst (q := 678) (v := 3) C rfl rfl dL_law_677 ?_
  refine V_iadd (q := 679) C rfl dL_law_678 ?_
  refine V_sld (q := 680) C S hL (i + 3) (nI_add i 3) (by omega) rfl dL_law_679 ?_
  obtain ⟨p1, h1, g1⟩ := op_most (l := xl X) (D := xD X) (ad := xad X) (sc (i + 1)) (sc (i + 2)) (sc (i + 3))  h
  refine V_callr (q := 683) (As := [.int (sc (i + 1)), .int (sc (i + 2)), .int (sc (i + 3))]) (rest := []) C h1 cw_X8_most cv_X8_most wm_L_74 (by decide) ob_X8 ⟨by decide, by decide⟩ rfl rfl (Nat.le_of_ble_eq_true rfl) rfl dL_law_680 (fun v1 τ1 e1 => ?_)
  obtain ⟨r, rfl, p2, h2, g2⟩ := g1 v1 τ1 e1
  show V X 683 [.ref b, .ref (xad X 0), .ref (xad X 40), .int (nI i)] [.int r] τ1
  refine V_aload_n_2 (q := 684) C rfl dL_law_683 ?_
  refine V_aload_n_0 (q := 685) C rfl dL_law_684 ?_
  refine V_iload_n_3 (q := 686) C rfl dL_law_685 ?_
  refine V_iconst (q := 687) (v := 1) C rfl rfl dL_law_686 ?_
  refine V_iadd (q := 688) C rfl dL_law_687 ?_
  refine V_sld (q := 689) C S hL (i + 1) (nI_add i 1) (by omega) rfl dL_law_688 ?_
  refine V_aload_n_0 (q := 690) C rfl dL_law_689 ?_
  refine V_iload_n_3 (q := 691) C rfl dL_law_690 ?_
  refine V_iconst (q := 692) (v := 2) C rfl rfl dL_law_691 ?_
  refine V_iadd (q := 693) C rfl dL_law_692 ?_
  refine V_sld (q := 694) C S hL (i + 2) (nI_add i 2) (by omega) rfl dL_law_693 ?_
  refine V_aload_n_0 (q := 695) C rfl dL_law_694 ?_
  refine V_iload_n_3 (q := 696) C rfl dL_law_695 ?_
  refine V_iconst (q := 697) (v := 3) C rfl rfl dL_law_696 ?_
  refine V_iadd (q := 698) C rfl dL_law_697 ?_
  refine V_sld (q := 699) C S hL (i + 3) (nI_add i 3) (by omega) rfl dL_law_698 ?_
  refine V_callr (q := 702) (As := [.int (sc (i + 1)), .int (sc (i + 2)), .int (sc (i + 3))]) (rest := [.int r]) C h2 cw_X9_most cv_X9_most wm_L_77 (by decide) ob_X9 ⟨by decide, by decide⟩ rfl rfl (Nat.le_of_ble_eq_true rfl) rfl dL_law_699 (fun v2 τ2 e2 => ?_)
  obtain ⟨rfl, hR⟩ := g2 v2 τ2 e2
  show V X 702 [.ref b, .ref (xad X 0), .ref (xad X 40), .int (nI i)] [.int r, .int r] τ2
  refine V_icmp_eq_t (tgt := 1289) C rfl (by decide) dL_law_702 ?_
  exact kk τ2 hR
set_option maxHeartbeats 4000000 in
set_option maxRecDepth 100000 in
theorem law_15 {X : CT} {b L i : Nat} {sc : Nat → Int32} {σ : ST} (C : Cx X RL cL_law ret 9 326) (S : Sx X b L sc) (hL : L ≤ 3072) (hi : i + 6 ≤ L) (h : RelE σ) (kk : ∀ τ, RelE τ → V X 1289 [.ref b, .ref (xad X 0), .ref (xad X 40), .int (nI i)] [] τ) : V X 707 [.ref b, .ref (xad X 0), .ref (xad X 40), .int (nI i)] [] σ := by
  refine V_aload_n_1 (q := 708) C rfl dL_law_707 ?_
  refine V_aload_n_0 (q := 709) C rfl dL_law_708 ?_
  refine V_iload_n_3 (q := 710) C rfl dL_law_709 ?_
  refine V_iconst (q := 711) (v := 1) C rfl rfl dL_law_710 ?_
  refine V_iadd (q := 712) C rfl dL_law_711 ?_
  refine V_sld (q := 713) C S hL (i + 1) (nI_add i 1) (by omega) rfl dL_law_712 ?_
  refine V_aload_n_0 (q := 714) C rfl dL_law_713 ?_
  refine V_iload_n_3 (q := 715) C rfl dL_law_714 ?_
  refine V_iconst (q := 716) (v := 2) C rfl rfl dL_law_715 ?_
  refine V_iadd (q := 717) C rfl dL_law_716 ?_
  refine V_sld (q := 718) C S hL (i + 2) (nI_add i 2) (by omega) rfl dL_law_717 ?_
  obtain ⟨p1, h1, g1⟩ := op_saws (l := xl X) (D := xD X) (ad := xad X) (sc (i + 1)) (sc (i + 2))  h
  refine V_callr (q := 721) (As := [.int (sc (i + 1)), .int (sc (i + 2))]) (rest := []) C h1 cw_X8_saws cv_X8_saws wm_L_78 (by decide) ob_X8 ⟨by decide, by decide⟩ rfl rfl (Nat.le_of_ble_eq_true rfl) rfl dL_law_718 (fun v1 τ1 e1 => ?_)
  obtain ⟨r, rfl, p2, h2, g2⟩ := g1 v1 τ1 e1
  show V X 721 [.ref b, .ref (xad X 0), .ref (xad X 40), .int (nI i)] [.int r] τ1
  refine V_aload_n_2 (q := 722) C rfl dL_law_721 ?_
  refine V_aload_n_0 (q := 723) C rfl dL_law_722 ?_
  refine V_iload_n_3 (q := 724) C rfl dL_law_723 ?_
  refine V_iconst (q := 725) (v := 1) C rfl rfl dL_law_724 ?_
  refine V_iadd (q := 726) C rfl dL_law_725 ?_
  refine V_sld (q := 727) C S hL (i + 1) (nI_add i 1) (by omega) rfl dL_law_726 ?_
  refine V_aload_n_0 (q := 728) C rfl dL_law_727 ?_
  refine V_iload_n_3 (q := 729) C rfl dL_law_728 ?_
  refine V_iconst (q := 730) (v := 2) C rfl rfl dL_law_729 ?_
  refine V_iadd (q := 731) C rfl dL_law_730 ?_
  refine V_sld (q := 732) C S hL (i + 2) (nI_add i 2) (by omega) rfl dL_law_731 ?_
  refine V_callr (q := 735) (As := [.int (sc (i + 1)), .int (sc (i + 2))]) (rest := [.int r]) C h2 cw_X9_saws cv_X9_saws wm_L_81 (by decide) ob_X9 ⟨by decide, by decide⟩ rfl rfl (Nat.le_of_ble_eq_true rfl) rfl dL_law_732 (fun v2 τ2 e2 => ?_)
  obtain ⟨rfl, hR⟩ := g2 v2 τ2 e2
  show V X 735 [.ref b, .ref (xad X 0), .ref (xad X 40), .int (nI i)] [.int r, .int r] τ2
  refine V_icmp_eq_t (tgt := 1289) C rfl (by decide) dL_law_735 ?_
  exact kk τ2 hR
set_option maxHeartbeats 4000000 in
set_option maxRecDepth 100000 in
theorem law_16 {X : CT} {b L i : Nat} {sc : Nat → Int32} {σ : ST} (C : Cx X RL cL_law ret 9 326) (S : Sx X b L sc) (hL : L ≤ 3072) (hi : i + 6 ≤ L) (h : RelE σ) (kk : ∀ τ, RelE τ → V X 1289 [.ref b, .ref (xad X 0), .ref (xad X 40), .int (nI i)] [] τ) : V X 740 [.ref b, .ref (xad X 0), .ref (xad X 40), .int (nI i)] [] σ := by
  refine V_aload_n_1 (q := 741) C rfl dL_law_740 ?_
  refine V_aload_n_0 (q := 742) C rfl dL_law_741 ?_
  refine V_iload_n_3 (q := 743) C rfl dL_law_742 ?_
  refine V_iconst (q := 744) (v := 1) C rfl rfl dL_law_743 ?_
  refine V_iadd (q := 745) C rfl dL_law_744 ?_
  refine V_sld (q := 746) C S hL (i + 1) (nI_add i 1) (by omega) rfl dL_law_745 ?_
  obtain ⟨p1, h1, g1⟩ := op_worth (l := xl X) (D := xD X) (ad := xad X) (sc (i + 1))  h
  refine V_callr (q := 749) (As := [.int (sc (i + 1))]) (rest := []) C h1 cw_X8_worth cv_X8_worth wm_L_82 (by decide) ob_X8 ⟨by decide, by decide⟩ rfl rfl (Nat.le_of_ble_eq_true rfl) rfl dL_law_746 (fun v1 τ1 e1 => ?_)
  obtain ⟨r, rfl, p2, h2, g2⟩ := g1 v1 τ1 e1
  show V X 749 [.ref b, .ref (xad X 0), .ref (xad X 40), .int (nI i)] [.int r] τ1
  refine V_aload_n_2 (q := 750) C rfl dL_law_749 ?_
  refine V_aload_n_0 (q := 751) C rfl dL_law_750 ?_
  refine V_iload_n_3 (q := 752) C rfl dL_law_751 ?_
  refine V_iconst (q := 753) (v := 1) C rfl rfl dL_law_752 ?_
  refine V_iadd (q := 754) C rfl dL_law_753 ?_
  refine V_sld (q := 755) C S hL (i + 1) (nI_add i 1) (by omega) rfl dL_law_754 ?_
  refine V_callr (q := 758) (As := [.int (sc (i + 1))]) (rest := [.int r]) C h2 cw_X9_worth cv_X9_worth wm_L_85 (by decide) ob_X9 ⟨by decide, by decide⟩ rfl rfl (Nat.le_of_ble_eq_true rfl) rfl dL_law_755 (fun v2 τ2 e2 => ?_)
  obtain ⟨rfl, hR⟩ := g2 v2 τ2 e2
  show V X 758 [.ref b, .ref (xad X 0), .ref (xad X 40), .int (nI i)] [.int r, .int r] τ2
  refine V_icmp_eq_t (tgt := 1289) C rfl (by decide) dL_law_758 ?_
  exact kk τ2 hR
set_option maxHeartbeats 4000000 in
set_option maxRecDepth 100000 in
theorem law_17 {X : CT} {b L i : Nat} {sc : Nat → Int32} {σ : ST} (C : Cx X RL cL_law ret 9 326) (S : Sx X b L sc) (hL : L ≤ 3072) (hi : i + 6 ≤ L) (h : RelE σ) (kk : ∀ τ, RelE τ → V X 1289 [.ref b, .ref (xad X 0), .ref (xad X 40), .int (nI i)] [] τ) : V X 763 [.ref b, .ref (xad X 0), .ref (xad X 40), .int (nI i)] [] σ := by
  refine V_aload_n_1 (q := 764) C rfl dL_law_763 ?_
  refine V_aload_n_0 (q := 765) C rfl dL_law_764 ?_
  refine V_iload_n_3 (q := 766) C rfl dL_law_765 ?_
  refine V_iconst (q := 767) (v := 1) C rfl rfl dL_law_766 ?_
  refine V_iadd (q := 768) C rfl dL_law_767 ?_
  refine V_sld (q := 769) C S hL (i + 1) (nI_add i 1) (by omega) rfl dL_law_768 ?_
  refine V_aload_n_0 (q := 770) C rfl dL_law_769 ?_
  refine V_iload_n_3 (q := 771) C rfl dL_law_770 ?_
  refine V_iconst (q := 772) (v := 2) C rfl rfl dL_law_771 ?_
  refine V_iadd (q := 773) C rfl dL_law_772 ?_
  refine V_sld (q := 774) C S hL (i + 2) (nI_add i 2) (by omega) rfl dL_law_773 ?_
  refine V_aload_n_0 (q := 775) C rfl dL_law_774 ?_
  refine V_iload_n_3 (q := 776) C rfl dL_law_775 ?_
  refine V_iconst (q := 777) (v := 3) C rfl rfl dL_law_776 ?_
  refine V_iadd (q := 778) C rfl dL_law_777 ?_
  refine V_sld (q := 779) C S hL (i + 3) (nI_add i 3) (by omega) rfl dL_law_778 ?_
  obtain ⟨p1, h1, g1⟩ := op_odds (l := xl X) (D := xD X) (ad := xad X) (sc (i + 1)) (sc (i + 2)) (sc (i + 3))  h
  refine V_callr (q := 782) (As := [.int (sc (i + 1)), .int (sc (i + 2)), .int (sc (i + 3))]) (rest := []) C h1 cw_X8_odds cv_X8_odds wm_L_86 (by decide) ob_X8 ⟨by decide, by decide⟩ rfl rfl (Nat.le_of_ble_eq_true rfl) rfl dL_law_779 (fun v1 τ1 e1 => ?_)
  obtain ⟨r, rfl, p2, h2, g2⟩ := g1 v1 τ1 e1
  show V X 782 [.ref b, .ref (xad X 0), .ref (xad X 40), .int (nI i)] [.long r] τ1
  refine V_aload_n_2 (q := 783) C rfl dL_law_782 ?_
  refine V_aload_n_0 (q := 784) C rfl dL_law_783 ?_
  refine V_iload_n_3 (q := 785) C rfl dL_law_784 ?_
  refine V_iconst (q := 786) (v := 1) C rfl rfl dL_law_785 ?_
  refine V_iadd (q := 787) C rfl dL_law_786 ?_
  refine V_sld (q := 788) C S hL (i + 1) (nI_add i 1) (by omega) rfl dL_law_787 ?_
  refine V_aload_n_0 (q := 789) C rfl dL_law_788 ?_
  refine V_iload_n_3 (q := 790) C rfl dL_law_789 ?_
  refine V_iconst (q := 791) (v := 2) C rfl rfl dL_law_790 ?_
  refine V_iadd (q := 792) C rfl dL_law_791 ?_
  refine V_sld (q := 793) C S hL (i + 2) (nI_add i 2) (by omega) rfl dL_law_792 ?_
  refine V_aload_n_0 (q := 794) C rfl dL_law_793 ?_
  refine V_iload_n_3 (q := 795) C rfl dL_law_794 ?_
  refine V_iconst (q := 796) (v := 3) C rfl rfl dL_law_795 ?_
  refine V_iadd (q := 797) C rfl dL_law_796 ?_
  refine V_sld (q := 798) C S hL (i + 3) (nI_add i 3) (by omega) rfl dL_law_797 ?_
  refine V_callr (q := 801) (As := [.int (sc (i + 1)), .int (sc (i + 2)), .int (sc (i + 3))]) (rest := [.long r]) C h2 cw_X9_odds cv_X9_odds wm_L_90 (by decide) ob_X9 ⟨by decide, by decide⟩ rfl rfl (Nat.le_of_ble_eq_true rfl) rfl dL_law_798 (fun v2 τ2 e2 => ?_)
  obtain ⟨rfl, hR⟩ := g2 v2 τ2 e2
  show V X 801 [.ref b, .ref (xad X 0), .ref (xad X 40), .int (nI i)] [.long r, .long r] τ2
  refine V_lcmp (q := 802) C rfl dL_law_801 ?_
  refine V_if_eq_t (tgt := 1289) C ((lg_cmp_eq _ _).mpr rfl) (by decide) dL_law_802 ?_
  exact kk τ2 hR
set_option maxHeartbeats 4000000 in
set_option maxRecDepth 100000 in
theorem law_18 {X : CT} {b L i : Nat} {sc : Nat → Int32} {σ : ST} (C : Cx X RL cL_law ret 9 326) (S : Sx X b L sc) (hL : L ≤ 3072) (hi : i + 6 ≤ L) (h : RelE σ) (kk : ∀ τ, RelE τ → V X 1289 [.ref b, .ref (xad X 0), .ref (xad X 40), .int (nI i)] [] τ) : V X 807 [.ref b, .ref (xad X 0), .ref (xad X 40), .int (nI i)] [] σ := by
  refine V_aload_n_1 (q := 808) C rfl dL_law_807 ?_
  refine V_aload_n_0 (q := 809) C rfl dL_law_808 ?_
  refine V_iload_n_3 (q := 810) C rfl dL_law_809 ?_
  refine V_iconst (q := 811) (v := 1) C rfl rfl dL_law_810 ?_
  refine V_iadd (q := 812) C rfl dL_law_811 ?_
  refine V_sld (q := 813) C S hL (i + 1) (nI_add i 1) (by omega) rfl dL_law_812 ?_
  refine V_aload_n_0 (q := 814) C rfl dL_law_813 ?_
  refine V_iload_n_3 (q := 815) C rfl dL_law_814 ?_
  refine V_iconst (q := 816) (v := 2) C rfl rfl dL_law_815 ?_
  refine V_iadd (q := 817) C rfl dL_law_816 ?_
  refine V_sld (q := 818) C S hL (i + 2) (nI_add i 2) (by omega) rfl dL_law_817 ?_
  obtain ⟨p1, h1, g1⟩ := op_green (l := xl X) (D := xD X) (ad := xad X) (sc (i + 1)) (sc (i + 2))  h
  refine V_callr (q := 821) (As := [.int (sc (i + 1)), .int (sc (i + 2))]) (rest := []) C h1 cw_X8_green cv_X8_green wm_L_91 (by decide) ob_X8 ⟨by decide, by decide⟩ rfl rfl (Nat.le_of_ble_eq_true rfl) rfl dL_law_818 (fun v1 τ1 e1 => ?_)
  obtain ⟨r, rfl, p2, h2, g2⟩ := g1 v1 τ1 e1
  show V X 821 [.ref b, .ref (xad X 0), .ref (xad X 40), .int (nI i)] [.int r] τ1
  refine V_aload_n_2 (q := 822) C rfl dL_law_821 ?_
  refine V_aload_n_0 (q := 823) C rfl dL_law_822 ?_
  refine V_iload_n_3 (q := 824) C rfl dL_law_823 ?_
  refine V_iconst (q := 825) (v := 1) C rfl rfl dL_law_824 ?_
  refine V_iadd (q := 826) C rfl dL_law_825 ?_
  refine V_sld (q := 827) C S hL (i + 1) (nI_add i 1) (by omega) rfl dL_law_826 ?_
  refine V_aload_n_0 (q := 828) C rfl dL_law_827 ?_
  refine V_iload_n_3 (q := 829) C rfl dL_law_828 ?_
  refine V_iconst (q := 830) (v := 2) C rfl rfl dL_law_829 ?_
  refine V_iadd (q := 831) C rfl dL_law_830 ?_
  refine V_sld (q := 832) C S hL (i + 2) (nI_add i 2) (by omega) rfl dL_law_831 ?_
  refine V_callr (q := 835) (As := [.int (sc (i + 1)), .int (sc (i + 2))]) (rest := [.int r]) C h2 cw_X9_green cv_X9_green wm_L_94 (by decide) ob_X9 ⟨by decide, by decide⟩ rfl rfl (Nat.le_of_ble_eq_true rfl) rfl dL_law_832 (fun v2 τ2 e2 => ?_)
  obtain ⟨rfl, hR⟩ := g2 v2 τ2 e2
  show V X 835 [.ref b, .ref (xad X 0), .ref (xad X 40), .int (nI i)] [.int r, .int r] τ2
  refine V_icmp_eq_t (tgt := 1289) C rfl (by decide) dL_law_835 ?_
  exact kk τ2 hR
set_option maxHeartbeats 4000000 in
set_option maxRecDepth 100000 in
theorem law_19 {X : CT} {b L i : Nat} {sc : Nat → Int32} {σ : ST} (C : Cx X RL cL_law ret 9 326) (S : Sx X b L sc) (hL : L ≤ 3072) (hi : i + 6 ≤ L) (h : RelE σ) (kk : ∀ τ, RelE τ → V X 1289 [.ref b, .ref (xad X 0), .ref (xad X 40), .int (nI i)] [] τ) : V X 840 [.ref b, .ref (xad X 0), .ref (xad X 40), .int (nI i)] [] σ := by
  by_cases hz : sc (i + 3) = 0
  · refine V_aload_n_1 (q := 841) C rfl dL_law_840 ?_
    refine V_aload_n_0 (q := 842) C rfl dL_law_841 ?_
    refine V_iload_n_3 (q := 843) C rfl dL_law_842 ?_
    refine V_iconst (q := 844) (v := 1) C rfl rfl dL_law_843 ?_
    refine V_iadd (q := 845) C rfl dL_law_844 ?_
    refine V_sld (q := 846) C S hL (i + 1) (nI_add i 1) (by omega) rfl dL_law_845 ?_
    refine V_aload_n_0 (q := 847) C rfl dL_law_846 ?_
    refine V_iload_n_3 (q := 848) C rfl dL_law_847 ?_
    refine V_iconst (q := 849) (v := 2) C rfl rfl dL_law_848 ?_
    refine V_iadd (q := 850) C rfl dL_law_849 ?_
    refine V_sld (q := 851) C S hL (i + 2) (nI_add i 2) (by omega) rfl dL_law_850 ?_
    refine V_aload_n_0 (q := 852) C rfl dL_law_851 ?_
    refine V_iload_n_3 (q := 853) C rfl dL_law_852 ?_
    refine V_iconst (q := 854) (v := 3) C rfl rfl dL_law_853 ?_
    refine V_iadd (q := 855) C rfl dL_law_854 ?_
    refine V_sld (q := 856) C S hL (i + 3) (nI_add i 3) (by omega) rfl dL_law_855 ?_
    refine V_if_eq_t (tgt := 863) C hz (by decide) dL_law_856 ?_
    refine V_iconst (q := 864) (v := 0) C rfl rfl dL_law_863 ?_
    obtain ⟨p1, h1, g1⟩ := op_reading (l := xl X) (D := xD X) (ad := xad X) (sc (i + 1)) (sc (i + 2)) 0 (Or.inl rfl) h
    refine V_callr (q := 867) (As := [.int (sc (i + 1)), .int (sc (i + 2)), .int 0]) (rest := []) C h1 cw_X8_reading cv_X8_reading wm_L_95 (by decide) ob_X8 ⟨by decide, by decide⟩ rfl rfl (Nat.le_of_ble_eq_true rfl) rfl dL_law_864 (fun v1 τ1 e1 => ?_)
    obtain ⟨r, rfl, p2, h2, g2⟩ := g1 v1 τ1 e1
    show V X 867 [.ref b, .ref (xad X 0), .ref (xad X 40), .int (nI i)] [.int r] τ1
    refine V_aload_n_2 (q := 868) C rfl dL_law_867 ?_
    refine V_aload_n_0 (q := 869) C rfl dL_law_868 ?_
    refine V_iload_n_3 (q := 870) C rfl dL_law_869 ?_
    refine V_iconst (q := 871) (v := 1) C rfl rfl dL_law_870 ?_
    refine V_iadd (q := 872) C rfl dL_law_871 ?_
    refine V_sld (q := 873) C S hL (i + 1) (nI_add i 1) (by omega) rfl dL_law_872 ?_
    refine V_aload_n_0 (q := 874) C rfl dL_law_873 ?_
    refine V_iload_n_3 (q := 875) C rfl dL_law_874 ?_
    refine V_iconst (q := 876) (v := 2) C rfl rfl dL_law_875 ?_
    refine V_iadd (q := 877) C rfl dL_law_876 ?_
    refine V_sld (q := 878) C S hL (i + 2) (nI_add i 2) (by omega) rfl dL_law_877 ?_
    refine V_aload_n_0 (q := 879) C rfl dL_law_878 ?_
    refine V_iload_n_3 (q := 880) C rfl dL_law_879 ?_
    refine V_iconst (q := 881) (v := 3) C rfl rfl dL_law_880 ?_
    refine V_iadd (q := 882) C rfl dL_law_881 ?_
    refine V_sld (q := 883) C S hL (i + 3) (nI_add i 3) (by omega) rfl dL_law_882 ?_
    refine V_if_eq_t (tgt := 890) C hz (by decide) dL_law_883 ?_
    refine V_iconst (q := 891) (v := 0) C rfl rfl dL_law_890 ?_
    refine V_callr (q := 894) (As := [.int (sc (i + 1)), .int (sc (i + 2)), .int 0]) (rest := [.int r]) C h2 cw_X9_reading cv_X9_reading wm_L_99 (by decide) ob_X9 ⟨by decide, by decide⟩ rfl rfl (Nat.le_of_ble_eq_true rfl) rfl dL_law_891 (fun v2 τ2 e2 => ?_)
    obtain ⟨rfl, hR⟩ := g2 v2 τ2 e2
    show V X 894 [.ref b, .ref (xad X 0), .ref (xad X 40), .int (nI i)] [.int r, .int r] τ2
    refine V_icmp_eq_t (tgt := 1289) C rfl (by decide) dL_law_894 ?_
    exact kk τ2 hR
  · refine V_aload_n_1 (q := 841) C rfl dL_law_840 ?_
    refine V_aload_n_0 (q := 842) C rfl dL_law_841 ?_
    refine V_iload_n_3 (q := 843) C rfl dL_law_842 ?_
    refine V_iconst (q := 844) (v := 1) C rfl rfl dL_law_843 ?_
    refine V_iadd (q := 845) C rfl dL_law_844 ?_
    refine V_sld (q := 846) C S hL (i + 1) (nI_add i 1) (by omega) rfl dL_law_845 ?_
    refine V_aload_n_0 (q := 847) C rfl dL_law_846 ?_
    refine V_iload_n_3 (q := 848) C rfl dL_law_847 ?_
    refine V_iconst (q := 849) (v := 2) C rfl rfl dL_law_848 ?_
    refine V_iadd (q := 850) C rfl dL_law_849 ?_
    refine V_sld (q := 851) C S hL (i + 2) (nI_add i 2) (by omega) rfl dL_law_850 ?_
    refine V_aload_n_0 (q := 852) C rfl dL_law_851 ?_
    refine V_iload_n_3 (q := 853) C rfl dL_law_852 ?_
    refine V_iconst (q := 854) (v := 3) C rfl rfl dL_law_853 ?_
    refine V_iadd (q := 855) C rfl dL_law_854 ?_
    refine V_sld (q := 856) C S hL (i + 3) (nI_add i 3) (by omega) rfl dL_law_855 ?_
    refine V_if_eq_f (q := 859) (tgt := 863) C hz rfl (by decide) dL_law_856 ?_
    refine V_iconst (q := 860) (v := 1) C rfl rfl dL_law_859 ?_
    refine V_goto (tgt := 864) C (by decide) dL_law_860 ?_
    obtain ⟨p1, h1, g1⟩ := op_reading (l := xl X) (D := xD X) (ad := xad X) (sc (i + 1)) (sc (i + 2)) 1 (Or.inr rfl) h
    refine V_callr (q := 867) (As := [.int (sc (i + 1)), .int (sc (i + 2)), .int 1]) (rest := []) C h1 cw_X8_reading cv_X8_reading wm_L_95 (by decide) ob_X8 ⟨by decide, by decide⟩ rfl rfl (Nat.le_of_ble_eq_true rfl) rfl dL_law_864 (fun v1 τ1 e1 => ?_)
    obtain ⟨r, rfl, p2, h2, g2⟩ := g1 v1 τ1 e1
    show V X 867 [.ref b, .ref (xad X 0), .ref (xad X 40), .int (nI i)] [.int r] τ1
    refine V_aload_n_2 (q := 868) C rfl dL_law_867 ?_
    refine V_aload_n_0 (q := 869) C rfl dL_law_868 ?_
    refine V_iload_n_3 (q := 870) C rfl dL_law_869 ?_
    refine V_iconst (q := 871) (v := 1) C rfl rfl dL_law_870 ?_
    refine V_iadd (q := 872) C rfl dL_law_871 ?_
    refine V_sld (q := 873) C S hL (i + 1) (nI_add i 1) (by omega) rfl dL_law_872 ?_
    refine V_aload_n_0 (q := 874) C rfl dL_law_873 ?_
    refine V_iload_n_3 (q := 875) C rfl dL_law_874 ?_
    refine V_iconst (q := 876) (v := 2) C rfl rfl dL_law_875 ?_
    refine V_iadd (q := 877) C rfl dL_law_876 ?_
    refine V_sld (q := 878) C S hL (i + 2) (nI_add i 2) (by omega) rfl dL_law_877 ?_
    refine V_aload_n_0 (q := 879) C rfl dL_law_878 ?_
    refine V_iload_n_3 (q := 880) C rfl dL_law_879 ?_
    refine V_iconst (q := 881) (v := 3) C rfl rfl dL_law_880 ?_
    refine V_iadd (q := 882) C rfl dL_law_881 ?_
    refine V_sld (q := 883) C S hL (i + 3) (nI_add i 3) (by omega) rfl dL_law_882 ?_
    refine V_if_eq_f (q := 886) (tgt := 890) C hz rfl (by decide) dL_law_883 ?_
    refine V_iconst (q := 887) (v := 1) C rfl rfl dL_law_886 ?_
    refine V_goto (tgt := 891) C (by decide) dL_law_887 ?_
    refine V_callr (q := 894) (As := [.int (sc (i + 1)), .int (sc (i + 2)), .int 1]) (rest := [.int r]) C h2 cw_X9_reading cv_X9_reading wm_L_99 (by decide) ob_X9 ⟨by decide, by decide⟩ rfl rfl (Nat.le_of_ble_eq_true rfl) rfl dL_law_891 (fun v2 τ2 e2 => ?_)
    obtain ⟨rfl, hR⟩ := g2 v2 τ2 e2
    show V X 894 [.ref b, .ref (xad X 0), .ref (xad X 40), .int (nI i)] [.int r, .int r] τ2
    refine V_icmp_eq_t (tgt := 1289) C rfl (by decide) dL_law_894 ?_
    exact kk τ2 hR
set_option maxHeartbeats 4000000 in
set_option maxRecDepth 100000 in
theorem law_20 {X : CT} {b L i : Nat} {sc : Nat → Int32} {σ : ST} (C : Cx X RL cL_law ret 9 326) (S : Sx X b L sc) (hL : L ≤ 3072) (hi : i + 6 ≤ L) (h : RelE σ) (kk : ∀ τ, RelE τ → V X 1289 [.ref b, .ref (xad X 0), .ref (xad X 40), .int (nI i)] [] τ) : V X 899 [.ref b, .ref (xad X 0), .ref (xad X 40), .int (nI i)] [] σ := by
  refine V_aload_n_1 (q := 900) C rfl dL_law_899 ?_
  refine V_aload_n_0 (q := 901) C rfl dL_law_900 ?_
  refine V_iload_n_3 (q := 902) C rfl dL_law_901 ?_
  refine V_iconst (q := 903) (v := 1) C rfl rfl dL_law_902 ?_
  refine V_iadd (q := 904) C rfl dL_law_903 ?_
  refine V_sld (q := 905) C S hL (i + 1) (nI_add i 1) (by omega) rfl dL_law_904 ?_
  obtain ⟨p1, h1, g1⟩ := op_back (l := xl X) (D := xD X) (ad := xad X) (sc (i + 1))  h
  refine V_callr (q := 908) (As := [.int (sc (i + 1))]) (rest := []) C h1 cw_X8_back cv_X8_back wm_L_100 (by decide) ob_X8 ⟨by decide, by decide⟩ rfl rfl (Nat.le_of_ble_eq_true rfl) rfl dL_law_905 (fun v1 τ1 e1 => ?_)
  obtain ⟨r, rfl, p2, h2, g2⟩ := g1 v1 τ1 e1
  show V X 908 [.ref b, .ref (xad X 0), .ref (xad X 40), .int (nI i)] [.int r] τ1
  refine V_aload_n_2 (q := 909) C rfl dL_law_908 ?_
  refine V_aload_n_0 (q := 910) C rfl dL_law_909 ?_
  refine V_iload_n_3 (q := 911) C rfl dL_law_910 ?_
  refine V_iconst (q := 912) (v := 1) C rfl rfl dL_law_911 ?_
  refine V_iadd (q := 913) C rfl dL_law_912 ?_
  refine V_sld (q := 914) C S hL (i + 1) (nI_add i 1) (by omega) rfl dL_law_913 ?_
  refine V_callr (q := 917) (As := [.int (sc (i + 1))]) (rest := [.int r]) C h2 cw_X9_back cv_X9_back wm_L_103 (by decide) ob_X9 ⟨by decide, by decide⟩ rfl rfl (Nat.le_of_ble_eq_true rfl) rfl dL_law_914 (fun v2 τ2 e2 => ?_)
  obtain ⟨rfl, hR⟩ := g2 v2 τ2 e2
  show V X 917 [.ref b, .ref (xad X 0), .ref (xad X 40), .int (nI i)] [.int r, .int r] τ2
  refine V_icmp_eq_t (tgt := 1289) C rfl (by decide) dL_law_917 ?_
  exact kk τ2 hR
set_option maxHeartbeats 4000000 in
set_option maxRecDepth 100000 in
theorem law_21 {X : CT} {b L i : Nat} {sc : Nat → Int32} {σ : ST} (C : Cx X RL cL_law ret 9 326) (S : Sx X b L sc) (hL : L ≤ 3072) (hi : i + 6 ≤ L) (h : RelE σ) (kk : ∀ τ, RelE τ → V X 1289 [.ref b, .ref (xad X 0), .ref (xad X 40), .int (nI i)] [] τ) : V X 922 [.ref b, .ref (xad X 0), .ref (xad X 40), .int (nI i)] [] σ := by
  refine V_aload_n_1 (q := 923) C rfl dL_law_922 ?_
  refine V_aload_n_0 (q := 924) C rfl dL_law_923 ?_
  refine V_iload_n_3 (q := 925) C rfl dL_law_924 ?_
  refine V_iconst (q := 926) (v := 1) C rfl rfl dL_law_925 ?_
  refine V_iadd (q := 927) C rfl dL_law_926 ?_
  refine V_sld (q := 928) C S hL (i + 1) (nI_add i 1) (by omega) rfl dL_law_927 ?_
  obtain ⟨p1, h1, g1⟩ := op_thief (l := xl X) (D := xD X) (ad := xad X) (sc (i + 1))  h
  refine V_callr (q := 931) (As := [.int (sc (i + 1))]) (rest := []) C h1 cw_X8_thief cv_X8_thief wm_L_104 (by decide) ob_X8 ⟨by decide, by decide⟩ rfl rfl (Nat.le_of_ble_eq_true rfl) rfl dL_law_928 (fun v1 τ1 e1 => ?_)
  obtain ⟨r, rfl, p2, h2, g2⟩ := g1 v1 τ1 e1
  show V X 931 [.ref b, .ref (xad X 0), .ref (xad X 40), .int (nI i)] [.int r] τ1
  refine V_aload_n_2 (q := 932) C rfl dL_law_931 ?_
  refine V_aload_n_0 (q := 933) C rfl dL_law_932 ?_
  refine V_iload_n_3 (q := 934) C rfl dL_law_933 ?_
  refine V_iconst (q := 935) (v := 1) C rfl rfl dL_law_934 ?_
  refine V_iadd (q := 936) C rfl dL_law_935 ?_
  refine V_sld (q := 937) C S hL (i + 1) (nI_add i 1) (by omega) rfl dL_law_936 ?_
  refine V_callr (q := 940) (As := [.int (sc (i + 1))]) (rest := [.int r]) C h2 cw_X9_thief cv_X9_thief wm_L_107 (by decide) ob_X9 ⟨by decide, by decide⟩ rfl rfl (Nat.le_of_ble_eq_true rfl) rfl dL_law_937 (fun v2 τ2 e2 => ?_)
  obtain ⟨rfl, hR⟩ := g2 v2 τ2 e2
  show V X 940 [.ref b, .ref (xad X 0), .ref (xad X 40), .int (nI i)] [.int r, .int r] τ2
  refine V_icmp_eq_t (tgt := 1289) C rfl (by decide) dL_law_940 ?_
  exact kk τ2 hR
set_option maxHeartbeats 4000000 in
set_option maxRecDepth 100000 in
theorem law_22 {X : CT} {b L i : Nat} {sc : Nat → Int32} {σ : ST} (C : Cx X RL cL_law ret 9 326) (S : Sx X b L sc) (hL : L ≤ 3072) (hi : i + 6 ≤ L) (h : RelE σ) (kk : ∀ τ, RelE τ → V X 1289 [.ref b, .ref (xad X 0), .ref (xad X 40), .int (nI i)] [] τ) : V X 945 [.ref b, .ref (xad X 0), .ref (xad X 40), .int (nI i)] [] σ := by
  refine V_aload_n_1 (q := 946) C rfl dL_law_945 ?_
  refine V_aload_n_0 (q := 947) C rfl dL_law_946 ?_
  refine V_iload_n_3 (q := 948) C rfl dL_law_947 ?_
  refine V_iconst (q := 949) (v := 1) C rfl rfl dL_law_948 ?_
  refine V_iadd (q := 950) C rfl dL_law_949 ?_
  refine V_sld (q := 951) C S hL (i + 1) (nI_add i 1) (by omega) rfl dL_law_950 ?_
  refine V_aload_n_0 (q := 952) C rfl dL_law_951 ?_
  refine V_iload_n_3 (q := 953) C rfl dL_law_952 ?_
  refine V_iconst (q := 954) (v := 2) C rfl rfl dL_law_953 ?_
  refine V_iadd (q := 955) C rfl dL_law_954 ?_
  refine V_sld (q := 956) C S hL (i + 2) (nI_add i 2) (by omega) rfl dL_law_955 ?_
  refine V_aload_n_0 (q := 957) C rfl dL_law_956 ?_
  refine V_iload_n_3 (q := 958) C rfl dL_law_957 ?_
  refine V_iconst (q := 959) (v := 3) C rfl rfl dL_law_958 ?_
  refine V_iadd (q := 960) C rfl dL_law_959 ?_
  refine V_sld (q := 961) C S hL (i + 3) (nI_add i 3) (by omega) rfl dL_law_960 ?_
  obtain ⟨p1, h1, g1⟩ := op_sheet (l := xl X) (D := xD X) (ad := xad X) (sc (i + 1)) (sc (i + 2)) (sc (i + 3))  h
  refine V_callr (q := 964) (As := [.int (sc (i + 1)), .int (sc (i + 2)), .int (sc (i + 3))]) (rest := []) C h1 cw_X8_sheet cv_X8_sheet wm_L_108 (by decide) ob_X8 ⟨by decide, by decide⟩ rfl rfl (Nat.le_of_ble_eq_true rfl) rfl dL_law_961 (fun v1 τ1 e1 => ?_)
  obtain ⟨r, rfl, p2, h2, g2⟩ := g1 v1 τ1 e1
  show V X 964 [.ref b, .ref (xad X 0), .ref (xad X 40), .int (nI i)] [.int r] τ1
  refine V_aload_n_2 (q := 965) C rfl dL_law_964 ?_
  refine V_aload_n_0 (q := 966) C rfl dL_law_965 ?_
  refine V_iload_n_3 (q := 967) C rfl dL_law_966 ?_
  refine V_iconst (q := 968) (v := 1) C rfl rfl dL_law_967 ?_
  refine V_iadd (q := 969) C rfl dL_law_968 ?_
  refine V_sld (q := 970) C S hL (i + 1) (nI_add i 1) (by omega) rfl dL_law_969 ?_
  refine V_aload_n_0 (q := 971) C rfl dL_law_970 ?_
  refine V_iload_n_3 (q := 972) C rfl dL_law_971 ?_
  refine V_iconst (q := 973) (v := 2) C rfl rfl dL_law_972 ?_
  refine V_iadd (q := 974) C rfl dL_law_973 ?_
  refine V_sld (q := 975) C S hL (i + 2) (nI_add i 2) (by omega) rfl dL_law_974 ?_
  refine V_aload_n_0 (q := 976) C rfl dL_law_975 ?_
  refine V_iload_n_3 (q := 977) C rfl dL_law_976 ?_
  refine V_iconst (q := 978) (v := 3) C rfl rfl dL_law_977 ?_
  refine V_iadd (q := 979) C rfl dL_law_978 ?_
  refine V_sld (q := 980) C S hL (i + 3) (nI_add i 3) (by omega) rfl dL_law_979 ?_
  refine V_callr (q := 983) (As := [.int (sc (i + 1)), .int (sc (i + 2)), .int (sc (i + 3))]) (rest := [.int r]) C h2 cw_X9_sheet cv_X9_sheet wm_L_111 (by decide) ob_X9 ⟨by decide, by decide⟩ rfl rfl (Nat.le_of_ble_eq_true rfl) rfl dL_law_980 (fun v2 τ2 e2 => ?_)
  obtain ⟨rfl, hR⟩ := g2 v2 τ2 e2
  show V X 983 [.ref b, .ref (xad X 0), .ref (xad X 40), .int (nI i)] [.int r, .int r] τ2
  refine V_icmp_eq_t (tgt := 1289) C rfl (by decide) dL_law_983 ?_
  exact kk τ2 hR
set_option maxHeartbeats 4000000 in
set_option maxRecDepth 100000 in
theorem law_23 {X : CT} {b L i : Nat} {sc : Nat → Int32} {σ : ST} (C : Cx X RL cL_law ret 9 326) (S : Sx X b L sc) (hL : L ≤ 3072) (hi : i + 6 ≤ L) (h : RelE σ) (kk : ∀ τ, RelE τ → V X 1289 [.ref b, .ref (xad X 0), .ref (xad X 40), .int (nI i)] [] τ) : V X 988 [.ref b, .ref (xad X 0), .ref (xad X 40), .int (nI i)] [] σ := by
  refine V_aload_n_1 (q := 989) C rfl dL_law_988 ?_
  refine V_aload_n_0 (q := 990) C rfl dL_law_989 ?_
  refine V_iload_n_3 (q := 991) C rfl dL_law_990 ?_
  refine V_iconst (q := 992) (v := 1) C rfl rfl dL_law_991 ?_
  refine V_iadd (q := 993) C rfl dL_law_992 ?_
  refine V_sld (q := 994) C S hL (i + 1) (nI_add i 1) (by omega) rfl dL_law_993 ?_
  obtain ⟨p1, h1, g1⟩ := op_lose (l := xl X) (D := xD X) (ad := xad X) (sc (i + 1))  h
  refine V_callr (q := 997) (As := [.int (sc (i + 1))]) (rest := []) C h1 cw_X8_lose cv_X8_lose wm_L_112 (by decide) ob_X8 ⟨by decide, by decide⟩ rfl rfl (Nat.le_of_ble_eq_true rfl) rfl dL_law_994 (fun v1 τ1 e1 => ?_)
  obtain ⟨r, rfl, p2, h2, g2⟩ := g1 v1 τ1 e1
  show V X 997 [.ref b, .ref (xad X 0), .ref (xad X 40), .int (nI i)] [.int r] τ1
  refine V_aload_n_2 (q := 998) C rfl dL_law_997 ?_
  refine V_aload_n_0 (q := 999) C rfl dL_law_998 ?_
  refine V_iload_n_3 (q := 1000) C rfl dL_law_999 ?_
  refine V_iconst (q := 1001) (v := 1) C rfl rfl dL_law_1000 ?_
  refine V_iadd (q := 1002) C rfl dL_law_1001 ?_
  refine V_sld (q := 1003) C S hL (i + 1) (nI_add i 1) (by omega) rfl dL_law_1002 ?_
  refine V_callr (q := 1006) (As := [.int (sc (i + 1))]) (rest := [.int r]) C h2 cw_X9_lose cv_X9_lose wm_L_115 (by decide) ob_X9 ⟨by decide, by decide⟩ rfl rfl (Nat.le_of_ble_eq_true rfl) rfl dL_law_1003 (fun v2 τ2 e2 => ?_)
  obtain ⟨rfl, hR⟩ := g2 v2 τ2 e2
  show V X 1006 [.ref b, .ref (xad X 0), .ref (xad X 40), .int (nI i)] [.int r, .int r] τ2
  refine V_icmp_eq_t (tgt := 1289) C rfl (by decide) dL_law_1006 ?_
  exact kk τ2 hR
set_option maxHeartbeats 4000000 in
set_option maxRecDepth 100000 in
theorem law_24 {X : CT} {b L i : Nat} {sc : Nat → Int32} {σ : ST} (C : Cx X RL cL_law ret 9 326) (S : Sx X b L sc) (hL : L ≤ 3072) (hi : i + 6 ≤ L) (h : RelE σ) (kk : ∀ τ, RelE τ → V X 1289 [.ref b, .ref (xad X 0), .ref (xad X 40), .int (nI i)] [] τ) : V X 1011 [.ref b, .ref (xad X 0), .ref (xad X 40), .int (nI i)] [] σ := by
  refine V_aload_n_1 (q := 1012) C rfl dL_law_1011 ?_
  refine V_aload_n_0 (q := 1013) C rfl dL_law_1012 ?_
  refine V_iload_n_3 (q := 1014) C rfl dL_law_1013 ?_
  refine V_iconst (q := 1015) (v := 1) C rfl rfl dL_law_1014 ?_
  refine V_iadd (q := 1016) C rfl dL_law_1015 ?_
  refine V_sld (q := 1017) C S hL (i + 1) (nI_add i 1) (by omega) rfl dL_law_1016 ?_
  refine V_aload_n_0 (q := 1018) C rfl dL_law_1017 ?_
  refine V_iload_n_3 (q := 1019) C rfl dL_law_1018 ?_
  refine V_iconst (q := 1020) (v := 2) C rfl rfl dL_law_1019 ?_
  refine V_iadd (q := 1021) C rfl dL_law_1020 ?_
  refine V_sld (q := 1022) C S hL (i + 2) (nI_add i 2) (by omega) rfl dL_law_1021 ?_
  refine V_aload_n_0 (q := 1023) C rfl dL_law_1022 ?_
  refine V_iload_n_3 (q := 1024) C rfl dL_law_1023 ?_
  refine V_iconst (q := 1025) (v := 3) C rfl rfl dL_law_1024 ?_
  refine V_iadd (q := 1026) C rfl dL_law_1025 ?_
  refine V_sld (q := 1027) C S hL (i + 3) (nI_add i 3) (by omega) rfl dL_law_1026 ?_
  obtain ⟨p1, h1, g1⟩ := op_put (l := xl X) (D := xD X) (ad := xad X) (sc (i + 1)) (sc (i + 2)) (sc (i + 3))  h
  refine V_callr (q := 1030) (As := [.int (sc (i + 1)), .int (sc (i + 2)), .int (sc (i + 3))]) (rest := []) C h1 cw_X8_put cv_X8_put wm_L_116 (by decide) ob_X8 ⟨by decide, by decide⟩ rfl rfl (Nat.le_of_ble_eq_true rfl) rfl dL_law_1027 (fun v1 τ1 e1 => ?_)
  obtain ⟨r, rfl, p2, h2, g2⟩ := g1 v1 τ1 e1
  show V X 1030 [.ref b, .ref (xad X 0), .ref (xad X 40), .int (nI i)] [.int r] τ1
  refine V_aload_n_2 (q := 1031) C rfl dL_law_1030 ?_
  refine V_aload_n_0 (q := 1032) C rfl dL_law_1031 ?_
  refine V_iload_n_3 (q := 1033) C rfl dL_law_1032 ?_
  refine V_iconst (q := 1034) (v := 1) C rfl rfl dL_law_1033 ?_
  refine V_iadd (q := 1035) C rfl dL_law_1034 ?_
  refine V_sld (q := 1036) C S hL (i + 1) (nI_add i 1) (by omega) rfl dL_law_1035 ?_
  refine V_aload_n_0 (q := 1037) C rfl dL_law_1036 ?_
  refine V_iload_n_3 (q := 1038) C rfl dL_law_1037 ?_
  refine V_iconst (q := 1039) (v := 2) C rfl rfl dL_law_1038 ?_
  refine V_iadd (q := 1040) C rfl dL_law_1039 ?_
  refine V_sld (q := 1041) C S hL (i + 2) (nI_add i 2) (by omega) rfl dL_law_1040 ?_
  refine V_aload_n_0 (q := 1042) C rfl dL_law_1041 ?_
  refine V_iload_n_3 (q := 1043) C rfl dL_law_1042 ?_
  refine V_iconst (q := 1044) (v := 3) C rfl rfl dL_law_1043 ?_
  refine V_iadd (q := 1045) C rfl dL_law_1044 ?_
  refine V_sld (q := 1046) C S hL (i + 3) (nI_add i 3) (by omega) rfl dL_law_1045 ?_
  refine V_callr (q := 1049) (As := [.int (sc (i + 1)), .int (sc (i + 2)), .int (sc (i + 3))]) (rest := [.int r]) C h2 cw_X9_put cv_X9_put wm_L_119 (by decide) ob_X9 ⟨by decide, by decide⟩ rfl rfl (Nat.le_of_ble_eq_true rfl) rfl dL_law_1046 (fun v2 τ2 e2 => ?_)
  obtain ⟨rfl, hR⟩ := g2 v2 τ2 e2
  show V X 1049 [.ref b, .ref (xad X 0), .ref (xad X 40), .int (nI i)] [.int r, .int r] τ2
  refine V_icmp_eq_t (tgt := 1289) C rfl (by decide) dL_law_1049 ?_
  exact kk τ2 hR
set_option maxHeartbeats 4000000 in
set_option maxRecDepth 100000 in
theorem law_25 {X : CT} {b L i : Nat} {sc : Nat → Int32} {σ : ST} (C : Cx X RL cL_law ret 9 326) (S : Sx X b L sc) (hL : L ≤ 3072) (hi : i + 6 ≤ L) (h : RelE σ) (kk : ∀ τ, RelE τ → V X 1289 [.ref b, .ref (xad X 0), .ref (xad X 40), .int (nI i)] [] τ) : V X 1054 [.ref b, .ref (xad X 0), .ref (xad X 40), .int (nI i)] [] σ := by
  refine V_aload_n_1 (q := 1055) C rfl dL_law_1054 ?_
  refine V_aload_n_0 (q := 1056) C rfl dL_law_1055 ?_
  refine V_iload_n_3 (q := 1057) C rfl dL_law_1056 ?_
  refine V_iconst (q := 1058) (v := 1) C rfl rfl dL_law_1057 ?_
  refine V_iadd (q := 1059) C rfl dL_law_1058 ?_
  refine V_sld (q := 1060) C S hL (i + 1) (nI_add i 1) (by omega) rfl dL_law_1059 ?_
  refine V_aload_n_0 (q := 1061) C rfl dL_law_1060 ?_
  refine V_iload_n_3 (q := 1062) C rfl dL_law_1061 ?_
  refine V_iconst (q := 1063) (v := 2) C rfl rfl dL_law_1062 ?_
  refine V_iadd (q := 1064) C rfl dL_law_1063 ?_
  refine V_sld (q := 1065) C S hL (i + 2) (nI_add i 2) (by omega) rfl dL_law_1064 ?_
  refine V_aload_n_0 (q := 1066) C rfl dL_law_1065 ?_
  refine V_iload_n_3 (q := 1067) C rfl dL_law_1066 ?_
  refine V_iconst (q := 1068) (v := 3) C rfl rfl dL_law_1067 ?_
  refine V_iadd (q := 1069) C rfl dL_law_1068 ?_
  refine V_sld (q := 1070) C S hL (i + 3) (nI_add i 3) (by omega) rfl dL_law_1069 ?_
  obtain ⟨p1, h1, g1⟩ := op_cell (l := xl X) (D := xD X) (ad := xad X) (sc (i + 1)) (sc (i + 2)) (sc (i + 3))  h
  refine V_callr (q := 1073) (As := [.int (sc (i + 1)), .int (sc (i + 2)), .int (sc (i + 3))]) (rest := []) C h1 cw_X8_cell cv_X8_cell wm_L_120 (by decide) ob_X8 ⟨by decide, by decide⟩ rfl rfl (Nat.le_of_ble_eq_true rfl) rfl dL_law_1070 (fun v1 τ1 e1 => ?_)
  obtain ⟨r, rfl, p2, h2, g2⟩ := g1 v1 τ1 e1
  show V X 1073 [.ref b, .ref (xad X 0), .ref (xad X 40), .int (nI i)] [.long r] τ1
  refine V_aload_n_2 (q := 1074) C rfl dL_law_1073 ?_
  refine V_aload_n_0 (q := 1075) C rfl dL_law_1074 ?_
  refine V_iload_n_3 (q := 1076) C rfl dL_law_1075 ?_
  refine V_iconst (q := 1077) (v := 1) C rfl rfl dL_law_1076 ?_
  refine V_iadd (q := 1078) C rfl dL_law_1077 ?_
  refine V_sld (q := 1079) C S hL (i + 1) (nI_add i 1) (by omega) rfl dL_law_1078 ?_
  refine V_aload_n_0 (q := 1080) C rfl dL_law_1079 ?_
  refine V_iload_n_3 (q := 1081) C rfl dL_law_1080 ?_
  refine V_iconst (q := 1082) (v := 2) C rfl rfl dL_law_1081 ?_
  refine V_iadd (q := 1083) C rfl dL_law_1082 ?_
  refine V_sld (q := 1084) C S hL (i + 2) (nI_add i 2) (by omega) rfl dL_law_1083 ?_
  refine V_aload_n_0 (q := 1085) C rfl dL_law_1084 ?_
  refine V_iload_n_3 (q := 1086) C rfl dL_law_1085 ?_
  refine V_iconst (q := 1087) (v := 3) C rfl rfl dL_law_1086 ?_
  refine V_iadd (q := 1088) C rfl dL_law_1087 ?_
  refine V_sld (q := 1089) C S hL (i + 3) (nI_add i 3) (by omega) rfl dL_law_1088 ?_
  refine V_callr (q := 1092) (As := [.int (sc (i + 1)), .int (sc (i + 2)), .int (sc (i + 3))]) (rest := [.long r]) C h2 cw_X9_cell cv_X9_cell wm_L_123 (by decide) ob_X9 ⟨by decide, by decide⟩ rfl rfl (Nat.le_of_ble_eq_true rfl) rfl dL_law_1089 (fun v2 τ2 e2 => ?_)
  obtain ⟨rfl, hR⟩ := g2 v2 τ2 e2
  show V X 1092 [.ref b, .ref (xad X 0), .ref (xad X 40), .int (nI i)] [.long r, .long r] τ2
  refine V_lcmp (q := 1093) C rfl dL_law_1092 ?_
  refine V_if_eq_t (tgt := 1289) C ((lg_cmp_eq _ _).mpr rfl) (by decide) dL_law_1093 ?_
  exact kk τ2 hR
set_option maxHeartbeats 4000000 in
set_option maxRecDepth 100000 in
theorem law_26 {X : CT} {b L i : Nat} {sc : Nat → Int32} {σ : ST} (C : Cx X RL cL_law ret 9 326) (S : Sx X b L sc) (hL : L ≤ 3072) (hi : i + 6 ≤ L) (h : RelE σ) (kk : ∀ τ, RelE τ → V X 1289 [.ref b, .ref (xad X 0), .ref (xad X 40), .int (nI i)] [] τ) : V X 1098 [.ref b, .ref (xad X 0), .ref (xad X 40), .int (nI i)] [] σ := by
  refine V_aload_n_1 (q := 1099) C rfl dL_law_1098 ?_
  refine V_aload_n_0 (q := 1100) C rfl dL_law_1099 ?_
  refine V_iload_n_3 (q := 1101) C rfl dL_law_1100 ?_
  refine V_iconst (q := 1102) (v := 1) C rfl rfl dL_law_1101 ?_
  refine V_iadd (q := 1103) C rfl dL_law_1102 ?_
  refine V_sld (q := 1104) C S hL (i + 1) (nI_add i 1) (by omega) rfl dL_law_1103 ?_
  refine V_aload_n_0 (q := 1105) C rfl dL_law_1104 ?_
  refine V_iload_n_3 (q := 1106) C rfl dL_law_1105 ?_
  refine V_iconst (q := 1107) (v := 2) C rfl rfl dL_law_1106 ?_
  refine V_iadd (q := 1108) C rfl dL_law_1107 ?_
  refine V_sld (q := 1109) C S hL (i + 2) (nI_add i 2) (by omega) rfl dL_law_1108 ?_
  refine V_aload_n_0 (q := 1110) C rfl dL_law_1109 ?_
  refine V_iload_n_3 (q := 1111) C rfl dL_law_1110 ?_
  refine V_iconst (q := 1112) (v := 3) C rfl rfl dL_law_1111 ?_
  refine V_iadd (q := 1113) C rfl dL_law_1112 ?_
  refine V_sld (q := 1114) C S hL (i + 3) (nI_add i 3) (by omega) rfl dL_law_1113 ?_
  refine V_aload_n_0 (q := 1115) C rfl dL_law_1114 ?_
  refine V_iload_n_3 (q := 1116) C rfl dL_law_1115 ?_
  refine V_iconst (q := 1117) (v := 4) C rfl rfl dL_law_1116 ?_
  refine V_iadd (q := 1118) C rfl dL_law_1117 ?_
  refine V_sld (q := 1119) C S hL (i + 4) (nI_add i 4) (by omega) rfl dL_law_1118 ?_
  refine V_aload_n_0 (q := 1120) C rfl dL_law_1119 ?_
  refine V_iload_n_3 (q := 1121) C rfl dL_law_1120 ?_
  refine V_iconst (q := 1122) (v := 5) C rfl rfl dL_law_1121 ?_
  refine V_iadd (q := 1123) C rfl dL_law_1122 ?_
  refine V_sld (q := 1124) C S hL (i + 5) (nI_add i 5) (by omega) rfl dL_law_1123 ?_
  obtain ⟨p1, h1, g1⟩ := op_copy (l := xl X) (D := xD X) (ad := xad X) (sc (i + 1)) (sc (i + 2)) (sc (i + 3)) (sc (i + 4)) (sc (i + 5))  h
  refine V_callr (q := 1127) (As := [.int (sc (i + 1)), .int (sc (i + 2)), .int (sc (i + 3)), .int (sc (i + 4)), .int (sc (i + 5))]) (rest := []) C h1 cw_X8_copy cv_X8_copy wm_L_124 (by decide) ob_X8 ⟨by decide, by decide⟩ rfl rfl (Nat.le_of_ble_eq_true rfl) rfl dL_law_1124 (fun v1 τ1 e1 => ?_)
  obtain ⟨r, rfl, p2, h2, g2⟩ := g1 v1 τ1 e1
  show V X 1127 [.ref b, .ref (xad X 0), .ref (xad X 40), .int (nI i)] [.int r] τ1
  refine V_aload_n_2 (q := 1128) C rfl dL_law_1127 ?_
  refine V_aload_n_0 (q := 1129) C rfl dL_law_1128 ?_
  refine V_iload_n_3 (q := 1130) C rfl dL_law_1129 ?_
  refine V_iconst (q := 1131) (v := 1) C rfl rfl dL_law_1130 ?_
  refine V_iadd (q := 1132) C rfl dL_law_1131 ?_
  refine V_sld (q := 1133) C S hL (i + 1) (nI_add i 1) (by omega) rfl dL_law_1132 ?_
  refine V_aload_n_0 (q := 1134) C rfl dL_law_1133 ?_
  refine V_iload_n_3 (q := 1135) C rfl dL_law_1134 ?_
  refine V_iconst (q := 1136) (v := 2) C rfl rfl dL_law_1135 ?_
  refine V_iadd (q := 1137) C rfl dL_law_1136 ?_
  refine V_sld (q := 1138) C S hL (i + 2) (nI_add i 2) (by omega) rfl dL_law_1137 ?_
  refine V_aload_n_0 (q := 1139) C rfl dL_law_1138 ?_
  refine V_iload_n_3 (q := 1140) C rfl dL_law_1139 ?_
  refine V_iconst (q := 1141) (v := 3) C rfl rfl dL_law_1140 ?_
  refine V_iadd (q := 1142) C rfl dL_law_1141 ?_
  refine V_sld (q := 1143) C S hL (i + 3) (nI_add i 3) (by omega) rfl dL_law_1142 ?_
  refine V_aload_n_0 (q := 1144) C rfl dL_law_1143 ?_
  refine V_iload_n_3 (q := 1145) C rfl dL_law_1144 ?_
  refine V_iconst (q := 1146) (v := 4) C rfl rfl dL_law_1145 ?_
  refine V_iadd (q := 1147) C rfl dL_law_1146 ?_
  refine V_sld (q := 1148) C S hL (i + 4) (nI_add i 4) (by omega) rfl dL_law_1147 ?_
  refine V_aload_n_0 (q := 1149) C rfl dL_law_1148 ?_
  refine V_iload_n_3 (q := 1150) C rfl dL_law_1149 ?_
  refine V_iconst (q := 1151) (v := 5) C rfl rfl dL_law_1150 ?_
  refine V_iadd (q := 1152) C rfl dL_law_1151 ?_
  refine V_sld (q := 1153) C S hL (i + 5) (nI_add i 5) (by omega) rfl dL_law_1152 ?_
  refine V_callr (q := 1156) (As := [.int (sc (i + 1)), .int (sc (i + 2)), .int (sc (i + 3)), .int (sc (i + 4)), .int (sc (i + 5))]) (rest := [.int r]) C h2 cw_X9_copy cv_X9_copy wm_L_128 (by decide) ob_X9 ⟨by decide, by decide⟩ rfl rfl (Nat.le_of_ble_eq_true rfl) rfl dL_law_1153 (fun v2 τ2 e2 => ?_)
  obtain ⟨rfl, hR⟩ := g2 v2 τ2 e2
  show V X 1156 [.ref b, .ref (xad X 0), .ref (xad X 40), .int (nI i)] [.int r, .int r] τ2
  refine V_icmp_eq_t (tgt := 1289) C rfl (by decide) dL_law_1156 ?_
  exact kk τ2 hR
set_option maxHeartbeats 4000000 in
set_option maxRecDepth 100000 in
theorem law_27 {X : CT} {b L i : Nat} {sc : Nat → Int32} {σ : ST} (C : Cx X RL cL_law ret 9 326) (S : Sx X b L sc) (hL : L ≤ 3072) (hi : i + 6 ≤ L) (h : RelE σ) (kk : ∀ τ, RelE τ → V X 1289 [.ref b, .ref (xad X 0), .ref (xad X 40), .int (nI i)] [] τ) : V X 1161 [.ref b, .ref (xad X 0), .ref (xad X 40), .int (nI i)] [] σ := by
  refine V_aload_n_1 (q := 1162) C rfl dL_law_1161 ?_
  refine V_aload_n_0 (q := 1163) C rfl dL_law_1162 ?_
  refine V_iload_n_3 (q := 1164) C rfl dL_law_1163 ?_
  refine V_iconst (q := 1165) (v := 1) C rfl rfl dL_law_1164 ?_
  refine V_iadd (q := 1166) C rfl dL_law_1165 ?_
  refine V_sld (q := 1167) C S hL (i + 1) (nI_add i 1) (by omega) rfl dL_law_1166 ?_
  obtain ⟨p1, h1, g1⟩ := op_tell (l := xl X) (D := xD X) (ad := xad X) (sc (i + 1))  h
  refine V_callr (q := 1170) (As := [.int (sc (i + 1))]) (rest := []) C h1 cw_X8_tell cv_X8_tell wm_L_129 (by decide) ob_X8 ⟨by decide, by decide⟩ rfl rfl (Nat.le_of_ble_eq_true rfl) rfl dL_law_1167 (fun v1 τ1 e1 => ?_)
  obtain ⟨r, rfl, p2, h2, g2⟩ := g1 v1 τ1 e1
  show V X 1170 [.ref b, .ref (xad X 0), .ref (xad X 40), .int (nI i)] [.int r] τ1
  refine V_aload_n_2 (q := 1171) C rfl dL_law_1170 ?_
  refine V_aload_n_0 (q := 1172) C rfl dL_law_1171 ?_
  refine V_iload_n_3 (q := 1173) C rfl dL_law_1172 ?_
  refine V_iconst (q := 1174) (v := 1) C rfl rfl dL_law_1173 ?_
  refine V_iadd (q := 1175) C rfl dL_law_1174 ?_
  refine V_sld (q := 1176) C S hL (i + 1) (nI_add i 1) (by omega) rfl dL_law_1175 ?_
  refine V_callr (q := 1179) (As := [.int (sc (i + 1))]) (rest := [.int r]) C h2 cw_X9_tell cv_X9_tell wm_L_132 (by decide) ob_X9 ⟨by decide, by decide⟩ rfl rfl (Nat.le_of_ble_eq_true rfl) rfl dL_law_1176 (fun v2 τ2 e2 => ?_)
  obtain ⟨rfl, hR⟩ := g2 v2 τ2 e2
  show V X 1179 [.ref b, .ref (xad X 0), .ref (xad X 40), .int (nI i)] [.int r, .int r] τ2
  refine V_icmp_eq_t (tgt := 1289) C rfl (by decide) dL_law_1179 ?_
  exact kk τ2 hR
set_option maxHeartbeats 4000000 in
set_option maxRecDepth 100000 in
theorem law_28 {X : CT} {b L i : Nat} {sc : Nat → Int32} {σ : ST} (C : Cx X RL cL_law ret 9 326) (S : Sx X b L sc) (hL : L ≤ 3072) (hi : i + 6 ≤ L) (h : RelE σ) (kk : ∀ τ, RelE τ → V X 1289 [.ref b, .ref (xad X 0), .ref (xad X 40), .int (nI i)] [] τ) : V X 1184 [.ref b, .ref (xad X 0), .ref (xad X 40), .int (nI i)] [] σ := by
  refine V_aload_n_1 (q := 1185) C rfl dL_law_1184 ?_
  refine V_aload_n_0 (q := 1186) C rfl dL_law_1185 ?_
  refine V_iload_n_3 (q := 1187) C rfl dL_law_1186 ?_
  refine V_iconst (q := 1188) (v := 1) C rfl rfl dL_law_1187 ?_
  refine V_iadd (q := 1189) C rfl dL_law_1188 ?_
  refine V_sld (q := 1190) C S hL (i + 1) (nI_add i 1) (by omega) rfl dL_law_1189 ?_
  obtain ⟨p1, h1, g1⟩ := op_shake (l := xl X) (D := xD X) (ad := xad X) (sc (i + 1))  h
  refine V_callr (q := 1193) (As := [.int (sc (i + 1))]) (rest := []) C h1 cw_X8_shake cv_X8_shake wm_L_133 (by decide) ob_X8 ⟨by decide, by decide⟩ rfl rfl (Nat.le_of_ble_eq_true rfl) rfl dL_law_1190 (fun v1 τ1 e1 => ?_)
  obtain ⟨r, rfl, p2, h2, g2⟩ := g1 v1 τ1 e1
  show V X 1193 [.ref b, .ref (xad X 0), .ref (xad X 40), .int (nI i)] [.int r] τ1
  refine V_aload_n_2 (q := 1194) C rfl dL_law_1193 ?_
  refine V_aload_n_0 (q := 1195) C rfl dL_law_1194 ?_
  refine V_iload_n_3 (q := 1196) C rfl dL_law_1195 ?_
  refine V_iconst (q := 1197) (v := 1) C rfl rfl dL_law_1196 ?_
  refine V_iadd (q := 1198) C rfl dL_law_1197 ?_
  refine V_sld (q := 1199) C S hL (i + 1) (nI_add i 1) (by omega) rfl dL_law_1198 ?_
  refine V_callr (q := 1202) (As := [.int (sc (i + 1))]) (rest := [.int r]) C h2 cw_X9_shake cv_X9_shake wm_L_136 (by decide) ob_X9 ⟨by decide, by decide⟩ rfl rfl (Nat.le_of_ble_eq_true rfl) rfl dL_law_1199 (fun v2 τ2 e2 => ?_)
  obtain ⟨rfl, hR⟩ := g2 v2 τ2 e2
  show V X 1202 [.ref b, .ref (xad X 0), .ref (xad X 40), .int (nI i)] [.int r, .int r] τ2
  refine V_icmp_eq_t (tgt := 1289) C rfl (by decide) dL_law_1202 ?_
  exact kk τ2 hR
set_option maxHeartbeats 4000000 in
set_option maxRecDepth 100000 in
theorem law_29 {X : CT} {b L i : Nat} {sc : Nat → Int32} {σ : ST} (C : Cx X RL cL_law ret 9 326) (S : Sx X b L sc) (hL : L ≤ 3072) (hi : i + 6 ≤ L) (h : RelE σ) (kk : ∀ τ, RelE τ → V X 1289 [.ref b, .ref (xad X 0), .ref (xad X 40), .int (nI i)] [] τ) : V X 1207 [.ref b, .ref (xad X 0), .ref (xad X 40), .int (nI i)] [] σ := by
  refine V_aload_n_1 (q := 1208) C rfl dL_law_1207 ?_
  refine V_aload_n_0 (q := 1209) C rfl dL_law_1208 ?_
  refine V_iload_n_3 (q := 1210) C rfl dL_law_1209 ?_
  refine V_iconst (q := 1211) (v := 1) C rfl rfl dL_law_1210 ?_
  refine V_iadd (q := 1212) C rfl dL_law_1211 ?_
  refine V_sld (q := 1213) C S hL (i + 1) (nI_add i 1) (by omega) rfl dL_law_1212 ?_
  refine V_aload_n_0 (q := 1214) C rfl dL_law_1213 ?_
  refine V_iload_n_3 (q := 1215) C rfl dL_law_1214 ?_
  refine V_iconst (q := 1216) (v := 2) C rfl rfl dL_law_1215 ?_
  refine V_iadd (q := 1217) C rfl dL_law_1216 ?_
  refine V_sld (q := 1218) C S hL (i + 2) (nI_add i 2) (by omega) rfl dL_law_1217 ?_
  obtain ⟨p1, h1, g1⟩ := op_as (l := xl X) (D := xD X) (ad := xad X) (sc (i + 1)) (sc (i + 2))  h
  refine V_callr (q := 1221) (As := [.int (sc (i + 1)), .int (sc (i + 2))]) (rest := []) C h1 cw_X8_as cv_X8_as wm_L_137 (by decide) ob_X8 ⟨by decide, by decide⟩ rfl rfl (Nat.le_of_ble_eq_true rfl) rfl dL_law_1218 (fun v1 τ1 e1 => ?_)
  obtain ⟨r, rfl, p2, h2, g2⟩ := g1 v1 τ1 e1
  show V X 1221 [.ref b, .ref (xad X 0), .ref (xad X 40), .int (nI i)] [.int r] τ1
  refine V_aload_n_2 (q := 1222) C rfl dL_law_1221 ?_
  refine V_aload_n_0 (q := 1223) C rfl dL_law_1222 ?_
  refine V_iload_n_3 (q := 1224) C rfl dL_law_1223 ?_
  refine V_iconst (q := 1225) (v := 1) C rfl rfl dL_law_1224 ?_
  refine V_iadd (q := 1226) C rfl dL_law_1225 ?_
  refine V_sld (q := 1227) C S hL (i + 1) (nI_add i 1) (by omega) rfl dL_law_1226 ?_
  refine V_aload_n_0 (q := 1228) C rfl dL_law_1227 ?_
  refine V_iload_n_3 (q := 1229) C rfl dL_law_1228 ?_
  refine V_iconst (q := 1230) (v := 2) C rfl rfl dL_law_1229 ?_
  refine V_iadd (q := 1231) C rfl dL_law_1230 ?_
  refine V_sld (q := 1232) C S hL (i + 2) (nI_add i 2) (by omega) rfl dL_law_1231 ?_
  refine V_callr (q := 1235) (As := [.int (sc (i + 1)), .int (sc (i + 2))]) (rest := [.int r]) C h2 cw_X9_as cv_X9_as wm_L_140 (by decide) ob_X9 ⟨by decide, by decide⟩ rfl rfl (Nat.le_of_ble_eq_true rfl) rfl dL_law_1232 (fun v2 τ2 e2 => ?_)
  obtain ⟨rfl, hR⟩ := g2 v2 τ2 e2
  show V X 1235 [.ref b, .ref (xad X 0), .ref (xad X 40), .int (nI i)] [.int r, .int r] τ2
  refine V_icmp_eq_t (tgt := 1289) C rfl (by decide) dL_law_1235 ?_
  exact kk τ2 hR
set_option maxHeartbeats 4000000 in
set_option maxRecDepth 100000 in
theorem law_30 {X : CT} {b L i : Nat} {sc : Nat → Int32} {σ : ST} (C : Cx X RL cL_law ret 9 326) (S : Sx X b L sc) (hL : L ≤ 3072) (hi : i + 6 ≤ L) (h : RelE σ) (kk : ∀ τ, RelE τ → V X 1289 [.ref b, .ref (xad X 0), .ref (xad X 40), .int (nI i)] [] τ) : V X 1240 [.ref b, .ref (xad X 0), .ref (xad X 40), .int (nI i)] [] σ := by
  refine V_aload_n_1 (q := 1241) C rfl dL_law_1240 ?_
  obtain ⟨p1, h1, g1⟩ := op_trace (l := xl X) (D := xD X) (ad := xad X)   h
  refine V_callr (q := 1244) (As := []) (rest := []) C h1 cw_X8_trace cv_X8_trace wm_L_141 (by decide) ob_X8 ⟨by decide, by decide⟩ rfl rfl (Nat.le_of_ble_eq_true rfl) rfl dL_law_1241 (fun v1 τ1 e1 => ?_)
  obtain ⟨r, rfl, p2, h2, g2⟩ := g1 v1 τ1 e1
  show V X 1244 [.ref b, .ref (xad X 0), .ref (xad X 40), .int (nI i)] [.int r] τ1
  refine V_aload_n_2 (q := 1245) C rfl dL_law_1244 ?_
  refine V_callr (q := 1248) (As := []) (rest := [.int r]) C h2 cw_X9_trace cv_X9_trace wm_L_145 (by decide) ob_X9 ⟨by decide, by decide⟩ rfl rfl (Nat.le_of_ble_eq_true rfl) rfl dL_law_1245 (fun v2 τ2 e2 => ?_)
  obtain ⟨rfl, hR⟩ := g2 v2 τ2 e2
  show V X 1248 [.ref b, .ref (xad X 0), .ref (xad X 40), .int (nI i)] [.int r, .int r] τ2
  refine V_icmp_eq_t (tgt := 1289) C rfl (by decide) dL_law_1248 ?_
  exact kk τ2 hR
set_option maxHeartbeats 4000000 in
set_option maxRecDepth 100000 in
theorem law_31 {X : CT} {b L i : Nat} {sc : Nat → Int32} {σ : ST} (C : Cx X RL cL_law ret 9 326) (S : Sx X b L sc) (hL : L ≤ 3072) (hi : i + 6 ≤ L) (h : RelE σ) (kk : ∀ τ, RelE τ → V X 1289 [.ref b, .ref (xad X 0), .ref (xad X 40), .int (nI i)] [] τ) : V X 1253 [.ref b, .ref (xad X 0), .ref (xad X 40), .int (nI i)] [] σ := by
  refine V_aload_n_1 (q := 1254) C rfl dL_law_1253 ?_
  obtain ⟨p1, h1, g1⟩ := op_fault (l := xl X) (D := xD X) (ad := xad X)   h
  refine V_callr (q := 1257) (As := []) (rest := []) C h1 cw_X8_fault cv_X8_fault wm_L_146 (by decide) ob_X8 ⟨by decide, by decide⟩ rfl rfl (Nat.le_of_ble_eq_true rfl) rfl dL_law_1254 (fun v1 τ1 e1 => ?_)
  obtain ⟨r, rfl, p2, h2, g2⟩ := g1 v1 τ1 e1
  show V X 1257 [.ref b, .ref (xad X 0), .ref (xad X 40), .int (nI i)] [.int r] τ1
  refine V_aload_n_2 (q := 1258) C rfl dL_law_1257 ?_
  refine V_callr (q := 1261) (As := []) (rest := [.int r]) C h2 cw_X9_fault cv_X9_fault wm_L_149 (by decide) ob_X9 ⟨by decide, by decide⟩ rfl rfl (Nat.le_of_ble_eq_true rfl) rfl dL_law_1258 (fun v2 τ2 e2 => ?_)
  obtain ⟨rfl, hR⟩ := g2 v2 τ2 e2
  show V X 1261 [.ref b, .ref (xad X 0), .ref (xad X 40), .int (nI i)] [.int r, .int r] τ2
  refine V_icmp_eq_t (tgt := 1289) C rfl (by decide) dL_law_1261 ?_
  exact kk τ2 hR
set_option maxHeartbeats 4000000 in
set_option maxRecDepth 100000 in
theorem law_32 {X : CT} {b L i : Nat} {sc : Nat → Int32} {σ : ST} (C : Cx X RL cL_law ret 9 326) (S : Sx X b L sc) (hL : L ≤ 3072) (hi : i + 6 ≤ L) (h : RelE σ) (kk : ∀ τ, RelE τ → V X 1289 [.ref b, .ref (xad X 0), .ref (xad X 40), .int (nI i)] [] τ) : V X 1266 [.ref b, .ref (xad X 0), .ref (xad X 40), .int (nI i)] [] σ := by
  refine V_aload_n_1 (q := 1267) C rfl dL_law_1266 ?_
  refine V_aload_n_0 (q := 1268) C rfl dL_law_1267 ?_
  refine V_iload_n_3 (q := 1269) C rfl dL_law_1268 ?_
  refine V_iconst (q := 1270) (v := 1) C rfl rfl dL_law_1269 ?_
  refine V_iadd (q := 1271) C rfl dL_law_1270 ?_
  refine V_sld (q := 1272) C S hL (i + 1) (nI_add i 1) (by omega) rfl dL_law_1271 ?_
  obtain ⟨p1, h1, g1⟩ := op_many (l := xl X) (D := xD X) (ad := xad X) (sc (i + 1))  h
  refine V_callr (q := 1275) (As := [.int (sc (i + 1))]) (rest := []) C h1 cw_X8_many cv_X8_many wm_L_150 (by decide) ob_X8 ⟨by decide, by decide⟩ rfl rfl (Nat.le_of_ble_eq_true rfl) rfl dL_law_1272 (fun v1 τ1 e1 => ?_)
  obtain ⟨r, rfl, p2, h2, g2⟩ := g1 v1 τ1 e1
  show V X 1275 [.ref b, .ref (xad X 0), .ref (xad X 40), .int (nI i)] [.int r] τ1
  refine V_aload_n_2 (q := 1276) C rfl dL_law_1275 ?_
  refine V_aload_n_0 (q := 1277) C rfl dL_law_1276 ?_
  refine V_iload_n_3 (q := 1278) C rfl dL_law_1277 ?_
  refine V_iconst (q := 1279) (v := 1) C rfl rfl dL_law_1278 ?_
  refine V_iadd (q := 1280) C rfl dL_law_1279 ?_
  refine V_sld (q := 1281) C S hL (i + 1) (nI_add i 1) (by omega) rfl dL_law_1280 ?_
  refine V_callr (q := 1284) (As := [.int (sc (i + 1))]) (rest := [.int r]) C h2 cw_X9_many cv_X9_many wm_L_153 (by decide) ob_X9 ⟨by decide, by decide⟩ rfl rfl (Nat.le_of_ble_eq_true rfl) rfl dL_law_1281 (fun v2 τ2 e2 => ?_)
  obtain ⟨rfl, hR⟩ := g2 v2 τ2 e2
  show V X 1284 [.ref b, .ref (xad X 0), .ref (xad X 40), .int (nI i)] [.int r, .int r] τ2
  refine V_icmp_eq_t (tgt := 1289) C rfl (by decide) dL_law_1284 ?_
  exact kk τ2 hR
set_option maxHeartbeats 4000000 in
set_option maxRecDepth 100000 in
theorem law_loop {X : CT} {b L : Nat} {sc : Nat → Int32} (C : Cx X RL cL_law ret 9 326) (S : Sx X b L sc) (hL : L ≤ 3072) (hn3 : 3 < xn X) (hend : ∀ (i : Nat) (τ : ST), V X 1295 [.ref b, .ref (xad X 0), .ref (xad X 40), .int (nI i)] [] τ) : ∀ (n i : Nat) (σ : ST), L + 6 ≤ i + 6 * n → i ≤ L → RelE σ → V X 18 [.ref b, .ref (xad X 0), .ref (xad X 40), .int (nI i)] [] σ := by
  intro n
  induction n with
  | zero => exact fun i σ h1 h2 _ => absurd h1 (by omega)
  | succ n ih =>
    intro i σ h1 h2 h
    refine V_iload_n_3 (q := 19) C rfl dL_law_18 ?_
    refine V_aload_n_0 (q := 20) C rfl dL_law_19 ?_
    refine V_slen (q := 21) C S rfl dL_law_20 ?_
    refine V_bipush (q := 23) (v := 6) C (by decide) rfl dL_law_21 ?_
    refine V_isub (q := 24) C rfl dL_law_23 ?_
    refine V_icmp_gt (q := 27) (tgt := 1295) C rfl (by decide) dL_law_24 (fun c => hend i σ) (fun c => ?_)
    have hi : i + 6 ≤ L := by
      apply Nat.le_of_not_lt
      intro hlt
      apply c
      by_cases h6 : 6 ≤ L
      · obtain ⟨t, rfl⟩ : ∃ t, L = t + 6 := ⟨L - 6, by omega⟩
        rw [show nI (t + 6) - 6 = nI t from by rw [← nI_add, show (6 : Int32) = nI 6 from rfl, Int32.add_sub_cancel]]
        exact nI_lt (by omega) (by omega)
      · refine Int32.lt_of_lt_of_le ?_ (nI_pos' (n := i) (by omega))
        rcases (show L = 0 ∨ L = 1 ∨ L = 2 ∨ L = 3 ∨ L = 4 ∨ L = 5 by omega) with rfl | rfl | rfl | rfl | rfl | rfl <;> decide
    refine V_aload_n_0 (q := 28) C rfl dL_law_27 ?_
    refine V_iload_n_3 (q := 29) C rfl dL_law_28 ?_
    refine V_sld (q := 30) C S hL i rfl (by omega) rfl dL_law_29 ?_
    refine V_bipush (q := 32) (v := 63) C (by decide) rfl dL_law_30 ?_
    refine V_iand (q := 33) C rfl dL_law_32 ?_
    have kk : ∀ τ, RelE τ → V X 1289 [.ref b, .ref (xad X 0), .ref (xad X 40), .int (nI i)] [] τ := by
      intro τ hτ
      refine V_iinc_3 (q := 1292) (n := 6) C (nI_add i 6) hn3 rfl rfl dL_law_1289 ?_
      refine V_goto (tgt := 18) C (by decide) dL_law_1292 ?_
      exact ih (i + 6) τ (by omega) hi hτ
    refine V_tab (n := 33) (td := 1289) C (fun j => ([180, 233, 266, 299, 332, 365, 414, 447, 470, 519, 542, 565, 588, 621, 664, 707, 740, 763, 807, 840, 899, 922, 945, 988, 1011, 1054, 1098, 1161, 1184, 1207, 1240, 1253, 1266] : List Nat).getD j 0) rfl (by decide) (fun j hj => by rcases (show j = 0 ∨ j = 1 ∨ j = 2 ∨ j = 3 ∨ j = 4 ∨ j = 5 ∨ j = 6 ∨ j = 7 ∨ j = 8 ∨ j = 9 ∨ j = 10 ∨ j = 11 ∨ j = 12 ∨ j = 13 ∨ j = 14 ∨ j = 15 ∨ j = 16 ∨ j = 17 ∨ j = 18 ∨ j = 19 ∨ j = 20 ∨ j = 21 ∨ j = 22 ∨ j = 23 ∨ j = 24 ∨ j = 25 ∨ j = 26 ∨ j = 27 ∨ j = 28 ∨ j = 29 ∨ j = 30 ∨ j = 31 ∨ j = 32 by omega) with rfl | rfl | rfl | rfl | rfl | rfl | rfl | rfl | rfl | rfl | rfl | rfl | rfl | rfl | rfl | rfl | rfl | rfl | rfl | rfl | rfl | rfl | rfl | rfl | rfl | rfl | rfl | rfl | rfl | rfl | rfl | rfl | rfl <;> exact ⟨_, rfl, by decide⟩) (by decide) dL_law_33 (fun j hj _ => ?_) (fun _ => kk σ h)
    rcases (show j = 0 ∨ j = 1 ∨ j = 2 ∨ j = 3 ∨ j = 4 ∨ j = 5 ∨ j = 6 ∨ j = 7 ∨ j = 8 ∨ j = 9 ∨ j = 10 ∨ j = 11 ∨ j = 12 ∨ j = 13 ∨ j = 14 ∨ j = 15 ∨ j = 16 ∨ j = 17 ∨ j = 18 ∨ j = 19 ∨ j = 20 ∨ j = 21 ∨ j = 22 ∨ j = 23 ∨ j = 24 ∨ j = 25 ∨ j = 26 ∨ j = 27 ∨ j = 28 ∨ j = 29 ∨ j = 30 ∨ j = 31 ∨ j = 32 by omega) with rfl | rfl | rfl | rfl | rfl | rfl | rfl | rfl | rfl | rfl | rfl | rfl | rfl | rfl | rfl | rfl | rfl | rfl | rfl | rfl | rfl | rfl | rfl | rfl | rfl | rfl | rfl | rfl | rfl | rfl | rfl | rfl | rfl
    · exact law_0 C S hL hi h kk
    · exact law_1 C S hL hi h kk
    · exact law_2 C S hL hi h kk
    · exact law_3 C S hL hi h kk
    · exact law_4 C S hL hi h kk
    · exact law_5 C S hL hi h kk
    · exact law_6 C S hL hi h kk
    · exact law_7 C S hL hi h kk
    · exact law_8 C S hL hi h kk
    · exact law_9 C S hL hi h kk
    · exact law_10 C S hL hi h kk
    · exact law_11 C S hL hi h kk
    · exact law_12 C S hL hi h kk
    · exact law_13 C S hL hi h kk
    · exact law_14 C S hL hi h kk
    · exact law_15 C S hL hi h kk
    · exact law_16 C S hL hi h kk
    · exact law_17 C S hL hi h kk
    · exact law_18 C S hL hi h kk
    · exact law_19 C S hL hi h kk
    · exact law_20 C S hL hi h kk
    · exact law_21 C S hL hi h kk
    · exact law_22 C S hL hi h kk
    · exact law_23 C S hL hi h kk
    · exact law_24 C S hL hi h kk
    · exact law_25 C S hL hi h kk
    · exact law_26 C S hL hi h kk
    · exact law_27 C S hL hi h kk
    · exact law_28 C S hL hi h kk
    · exact law_29 C S hL hi h kk
    · exact law_30 C S hL hi h kk
    · exact law_31 C S hL hi h kk
    · exact law_32 C S hL hi h kk
