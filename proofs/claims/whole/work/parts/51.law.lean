/-! THE LAW: each call, then the loop -/
set_option maxRecDepth 20000 in
set_option maxHeartbeats 4000000 in
theorem law_c0 {L : Nat} {xs : Nat → Int32} {i : Nat} {σ : Sg} {μ : Mem} {Q : Option Value → Mem → Prop} (hL : L ≤ 3072) (hi : i + 6 ≤ L) (hI : XI μ σ) (hM : Ms μ σ) (hO : Ok σ) (K : ∀ σ' μ', Ok σ' → XI μ' σ' → Ms μ' σ' → WP cL_law (RL, 4, (some .boolean), 20, some (L, xs)) 920 [(0, .ref 1002), (1, .ref 0), (2, .ref 40), (3, .int (nI i))] [] μ' Q) : WP cL_law (RL, 4, (some .boolean), 20, some (L, xs)) 156 [(0, .ref 1002), (1, .ref 0), (2, .ref 40), (3, .int (nI i))] [] μ Q := by
  refine r_aload_n (pc := 156) dL_law_156 rfl ?_
  refine r_aload_n (pc := 157) dL_law_157 rfl ?_
  refine r_iload_n (pc := 158) dL_law_158 rfl ?_
  refine r_iconst (pc := 159) (v := (nI (1))) dL_law_159 (by decide) ?_
  refine rn_iadd (pc := 160) dL_law_160 ?_
  refine r_sld (pc := 161) dL_law_161 rfl (by omega) rfl (by omega) ?_
  refine r_aload_n (pc := 162) dL_law_162 rfl ?_
  refine r_iload_n (pc := 163) dL_law_163 rfl ?_
  refine r_iconst (pc := 164) (v := (nI (2))) dL_law_164 (by decide) ?_
  refine rn_iadd (pc := 165) dL_law_165 ?_
  refine r_sld (pc := 166) dL_law_166 rfl (by omega) rfl (by omega) ?_
  refine r_aload_n (pc := 167) dL_law_167 rfl ?_
  refine r_iload_n (pc := 168) dL_law_168 rfl ?_
  refine r_iconst (pc := 169) (v := (nI (3))) dL_law_169 (by decide) ?_
  refine rn_iadd (pc := 170) dL_law_170 ?_
  refine r_sld (pc := 171) dL_law_171 rfl (by omega) rfl (by omega) ?_
  refine r_aload_n (pc := 172) dL_law_172 rfl ?_
  refine r_iload_n (pc := 173) dL_law_173 rfl ?_
  refine r_iconst (pc := 174) (v := (nI (4))) dL_law_174 (by decide) ?_
  refine rn_iadd (pc := 175) dL_law_175 ?_
  refine r_sld (pc := 176) dL_law_176 rfl (by omega) rfl (by omega) ?_
  refine r_callV (pc := 177) (d' := 1) (k := 0) (As := [.int (xs (i + 1)), .int (xs (i + 2)), .int (xs (i + 3)), .int (xs (i + 4))]) (rest := []) dL_law_177 vX6_board mL_13 rfl rfl rfl (Nat.le_of_ble_eq_true rfl) (Nat.le_of_ble_eq_true rfl) ?_
  refine x_board hI hO (fun μ1 hI1 hk1 => ?_)
  have hM1 := Ms_keep hM hk1
  refine r_aload_n (pc := 180) dL_law_180 rfl ?_
  refine r_aload_n (pc := 181) dL_law_181 rfl ?_
  refine r_iload_n (pc := 182) dL_law_182 rfl ?_
  refine r_iconst (pc := 183) (v := (nI (1))) dL_law_183 (by decide) ?_
  refine rn_iadd (pc := 184) dL_law_184 ?_
  refine r_sld (pc := 185) dL_law_185 rfl (by omega) rfl (by omega) ?_
  refine r_aload_n (pc := 186) dL_law_186 rfl ?_
  refine r_iload_n (pc := 187) dL_law_187 rfl ?_
  refine r_iconst (pc := 188) (v := (nI (2))) dL_law_188 (by decide) ?_
  refine rn_iadd (pc := 189) dL_law_189 ?_
  refine r_sld (pc := 190) dL_law_190 rfl (by omega) rfl (by omega) ?_
  refine r_aload_n (pc := 191) dL_law_191 rfl ?_
  refine r_iload_n (pc := 192) dL_law_192 rfl ?_
  refine r_iconst (pc := 193) (v := (nI (3))) dL_law_193 (by decide) ?_
  refine rn_iadd (pc := 194) dL_law_194 ?_
  refine r_sld (pc := 195) dL_law_195 rfl (by omega) rfl (by omega) ?_
  refine r_aload_n (pc := 196) dL_law_196 rfl ?_
  refine r_iload_n (pc := 197) dL_law_197 rfl ?_
  refine r_iconst (pc := 198) (v := (nI (4))) dL_law_198 (by decide) ?_
  refine rn_iadd (pc := 199) dL_law_199 ?_
  refine r_sld (pc := 200) dL_law_200 rfl (by omega) rfl (by omega) ?_
  refine r_callV (pc := 201) (d' := 2) (k := 40) (As := [.int (xs (i + 1)), .int (xs (i + 2)), .int (xs (i + 3)), .int (xs (i + 4))]) (rest := [.int ((sp_board σ (xs (i + 1)) (xs (i + 2)) (xs (i + 3)) (xs (i + 4))).1)]) dL_law_201 vX7_board mL_17 rfl rfl rfl (Nat.le_of_ble_eq_true rfl) (Nat.le_of_ble_eq_true rfl) ?_
  refine m_board hM1 hO (fun μ2 hM2 hk2 => ?_)
  refine r_icmp_eq (pc := 204) (tgt := 920) dL_law_204 (by decide) (fun c204 => ?_) (fun c204 => ?_)
  · exact K _ _ (Ok_board hO (xs (i + 1)) (xs (i + 2)) (xs (i + 3)) (xs (i + 4))) (XI_keep hI1 hk2) hM2
  · exact absurd rfl c204

set_option maxRecDepth 20000 in
set_option maxHeartbeats 4000000 in
theorem law_c1 {L : Nat} {xs : Nat → Int32} {i : Nat} {σ : Sg} {μ : Mem} {Q : Option Value → Mem → Prop} (hL : L ≤ 3072) (hi : i + 6 ≤ L) (hI : XI μ σ) (hM : Ms μ σ) (hO : Ok σ) (K : ∀ σ' μ', Ok σ' → XI μ' σ' → Ms μ' σ' → WP cL_law (RL, 4, (some .boolean), 20, some (L, xs)) 920 [(0, .ref 1002), (1, .ref 0), (2, .ref 40), (3, .int (nI i))] [] μ' Q) : WP cL_law (RL, 4, (some .boolean), 20, some (L, xs)) 209 [(0, .ref 1002), (1, .ref 0), (2, .ref 40), (3, .int (nI i))] [] μ Q := by
  refine r_aload_n (pc := 209) dL_law_209 rfl ?_
  refine r_aload_n (pc := 210) dL_law_210 rfl ?_
  refine r_iload_n (pc := 211) dL_law_211 rfl ?_
  refine r_iconst (pc := 212) (v := (nI (1))) dL_law_212 (by decide) ?_
  refine rn_iadd (pc := 213) dL_law_213 ?_
  refine r_sld (pc := 214) dL_law_214 rfl (by omega) rfl (by omega) ?_
  refine r_aload_n (pc := 215) dL_law_215 rfl ?_
  refine r_iload_n (pc := 216) dL_law_216 rfl ?_
  refine r_iconst (pc := 217) (v := (nI (2))) dL_law_217 (by decide) ?_
  refine rn_iadd (pc := 218) dL_law_218 ?_
  refine r_sld (pc := 219) dL_law_219 rfl (by omega) rfl (by omega) ?_
  refine r_callV (pc := 220) (d' := 2) (k := 0) (As := [.int (xs (i + 1)), .int (xs (i + 2))]) (rest := []) dL_law_220 vX6_of mL_18 rfl rfl rfl (Nat.le_of_ble_eq_true rfl) (Nat.le_of_ble_eq_true rfl) ?_
  refine x_of hI hO (fun μ1 hI1 hk1 => ?_)
  have hM1 := Ms_keep hM hk1
  refine r_aload_n (pc := 223) dL_law_223 rfl ?_
  refine r_aload_n (pc := 224) dL_law_224 rfl ?_
  refine r_iload_n (pc := 225) dL_law_225 rfl ?_
  refine r_iconst (pc := 226) (v := (nI (1))) dL_law_226 (by decide) ?_
  refine rn_iadd (pc := 227) dL_law_227 ?_
  refine r_sld (pc := 228) dL_law_228 rfl (by omega) rfl (by omega) ?_
  refine r_aload_n (pc := 229) dL_law_229 rfl ?_
  refine r_iload_n (pc := 230) dL_law_230 rfl ?_
  refine r_iconst (pc := 231) (v := (nI (2))) dL_law_231 (by decide) ?_
  refine rn_iadd (pc := 232) dL_law_232 ?_
  refine r_sld (pc := 233) dL_law_233 rfl (by omega) rfl (by omega) ?_
  refine r_callV (pc := 234) (d' := 2) (k := 40) (As := [.int (xs (i + 1)), .int (xs (i + 2))]) (rest := [.int (sp_of σ (xs (i + 1)) (xs (i + 2)))]) dL_law_234 vX7_of mL_22 rfl rfl rfl (Nat.le_of_ble_eq_true rfl) (Nat.le_of_ble_eq_true rfl) ?_
  refine m_of hM1 hO (fun μ2 hM2 hk2 => ?_)
  refine r_icmp_eq (pc := 237) (tgt := 920) dL_law_237 (by decide) (fun c237 => ?_) (fun c237 => ?_)
  · exact K _ _ hO (XI_keep hI1 hk2) hM2
  · exact absurd rfl c237

set_option maxRecDepth 20000 in
set_option maxHeartbeats 4000000 in
theorem law_c2 {L : Nat} {xs : Nat → Int32} {i : Nat} {σ : Sg} {μ : Mem} {Q : Option Value → Mem → Prop} (hL : L ≤ 3072) (hi : i + 6 ≤ L) (hI : XI μ σ) (hM : Ms μ σ) (hO : Ok σ) (K : ∀ σ' μ', Ok σ' → XI μ' σ' → Ms μ' σ' → WP cL_law (RL, 4, (some .boolean), 20, some (L, xs)) 920 [(0, .ref 1002), (1, .ref 0), (2, .ref 40), (3, .int (nI i))] [] μ' Q) : WP cL_law (RL, 4, (some .boolean), 20, some (L, xs)) 242 [(0, .ref 1002), (1, .ref 0), (2, .ref 40), (3, .int (nI i))] [] μ Q := by
  refine r_aload_n (pc := 242) dL_law_242 rfl ?_
  refine r_aload_n (pc := 243) dL_law_243 rfl ?_
  refine r_iload_n (pc := 244) dL_law_244 rfl ?_
  refine r_iconst (pc := 245) (v := (nI (1))) dL_law_245 (by decide) ?_
  refine rn_iadd (pc := 246) dL_law_246 ?_
  refine r_sld (pc := 247) dL_law_247 rfl (by omega) rfl (by omega) ?_
  refine r_aload_n (pc := 248) dL_law_248 rfl ?_
  refine r_iload_n (pc := 249) dL_law_249 rfl ?_
  refine r_iconst (pc := 250) (v := (nI (2))) dL_law_250 (by decide) ?_
  refine rn_iadd (pc := 251) dL_law_251 ?_
  refine r_sld (pc := 252) dL_law_252 rfl (by omega) rfl (by omega) ?_
  refine r_aload_n (pc := 253) dL_law_253 rfl ?_
  refine r_iload_n (pc := 254) dL_law_254 rfl ?_
  refine r_iconst (pc := 255) (v := (nI (3))) dL_law_255 (by decide) ?_
  refine rn_iadd (pc := 256) dL_law_256 ?_
  refine r_sld (pc := 257) dL_law_257 rfl (by omega) rfl (by omega) ?_
  refine r_callV (pc := 258) (d' := 1) (k := 0) (As := [.int (xs (i + 1)), .int (xs (i + 2)), .int (xs (i + 3))]) (rest := []) dL_law_258 vX6_change mL_23 rfl rfl rfl (Nat.le_of_ble_eq_true rfl) (Nat.le_of_ble_eq_true rfl) ?_
  refine x_change hI hO (fun μ1 hI1 hk1 => ?_)
  have hM1 := Ms_keep hM hk1
  refine r_aload_n (pc := 261) dL_law_261 rfl ?_
  refine r_aload_n (pc := 262) dL_law_262 rfl ?_
  refine r_iload_n (pc := 263) dL_law_263 rfl ?_
  refine r_iconst (pc := 264) (v := (nI (1))) dL_law_264 (by decide) ?_
  refine rn_iadd (pc := 265) dL_law_265 ?_
  refine r_sld (pc := 266) dL_law_266 rfl (by omega) rfl (by omega) ?_
  refine r_aload_n (pc := 267) dL_law_267 rfl ?_
  refine r_iload_n (pc := 268) dL_law_268 rfl ?_
  refine r_iconst (pc := 269) (v := (nI (2))) dL_law_269 (by decide) ?_
  refine rn_iadd (pc := 270) dL_law_270 ?_
  refine r_sld (pc := 271) dL_law_271 rfl (by omega) rfl (by omega) ?_
  refine r_aload_n (pc := 272) dL_law_272 rfl ?_
  refine r_iload_n (pc := 273) dL_law_273 rfl ?_
  refine r_iconst (pc := 274) (v := (nI (3))) dL_law_274 (by decide) ?_
  refine rn_iadd (pc := 275) dL_law_275 ?_
  refine r_sld (pc := 276) dL_law_276 rfl (by omega) rfl (by omega) ?_
  refine r_callV (pc := 277) (d' := 2) (k := 40) (As := [.int (xs (i + 1)), .int (xs (i + 2)), .int (xs (i + 3))]) (rest := [.int ((sp_change σ (xs (i + 1)) (xs (i + 2)) (xs (i + 3))).1)]) dL_law_277 vX7_change mL_27 rfl rfl rfl (Nat.le_of_ble_eq_true rfl) (Nat.le_of_ble_eq_true rfl) ?_
  refine m_change hM1 hO (fun μ2 hM2 hk2 => ?_)
  refine r_icmp_eq (pc := 280) (tgt := 920) dL_law_280 (by decide) (fun c280 => ?_) (fun c280 => ?_)
  · exact K _ _ (Ok_change hO (xs (i + 1)) (xs (i + 2)) (xs (i + 3))) (XI_keep hI1 hk2) hM2
  · exact absurd rfl c280

set_option maxRecDepth 20000 in
set_option maxHeartbeats 4000000 in
theorem law_c3 {L : Nat} {xs : Nat → Int32} {i : Nat} {σ : Sg} {μ : Mem} {Q : Option Value → Mem → Prop} (hL : L ≤ 3072) (hi : i + 6 ≤ L) (hI : XI μ σ) (hM : Ms μ σ) (hO : Ok σ) (K : ∀ σ' μ', Ok σ' → XI μ' σ' → Ms μ' σ' → WP cL_law (RL, 4, (some .boolean), 20, some (L, xs)) 920 [(0, .ref 1002), (1, .ref 0), (2, .ref 40), (3, .int (nI i))] [] μ' Q) : WP cL_law (RL, 4, (some .boolean), 20, some (L, xs)) 285 [(0, .ref 1002), (1, .ref 0), (2, .ref 40), (3, .int (nI i))] [] μ Q := by
  refine r_aload_n (pc := 285) dL_law_285 rfl ?_
  refine r_aload_n (pc := 286) dL_law_286 rfl ?_
  refine r_iload_n (pc := 287) dL_law_287 rfl ?_
  refine r_iconst (pc := 288) (v := (nI (1))) dL_law_288 (by decide) ?_
  refine rn_iadd (pc := 289) dL_law_289 ?_
  refine r_sld (pc := 290) dL_law_290 rfl (by omega) rfl (by omega) ?_
  refine r_aload_n (pc := 291) dL_law_291 rfl ?_
  refine r_iload_n (pc := 292) dL_law_292 rfl ?_
  refine r_iconst (pc := 293) (v := (nI (2))) dL_law_293 (by decide) ?_
  refine rn_iadd (pc := 294) dL_law_294 ?_
  refine r_sld (pc := 295) dL_law_295 rfl (by omega) rfl (by omega) ?_
  refine r_aload_n (pc := 296) dL_law_296 rfl ?_
  refine r_iload_n (pc := 297) dL_law_297 rfl ?_
  refine r_iconst (pc := 298) (v := (nI (3))) dL_law_298 (by decide) ?_
  refine rn_iadd (pc := 299) dL_law_299 ?_
  refine r_sld (pc := 300) dL_law_300 rfl (by omega) rfl (by omega) ?_
  refine r_callV (pc := 301) (d' := 1) (k := 0) (As := [.int (xs (i + 1)), .int (xs (i + 2)), .int (xs (i + 3))]) (rest := []) dL_law_301 vX6_hours mL_28 rfl rfl rfl (Nat.le_of_ble_eq_true rfl) (Nat.le_of_ble_eq_true rfl) ?_
  refine x_hours hI hO (fun μ1 hI1 hk1 => ?_)
  have hM1 := Ms_keep hM hk1
  refine r_aload_n (pc := 304) dL_law_304 rfl ?_
  refine r_aload_n (pc := 305) dL_law_305 rfl ?_
  refine r_iload_n (pc := 306) dL_law_306 rfl ?_
  refine r_iconst (pc := 307) (v := (nI (1))) dL_law_307 (by decide) ?_
  refine rn_iadd (pc := 308) dL_law_308 ?_
  refine r_sld (pc := 309) dL_law_309 rfl (by omega) rfl (by omega) ?_
  refine r_aload_n (pc := 310) dL_law_310 rfl ?_
  refine r_iload_n (pc := 311) dL_law_311 rfl ?_
  refine r_iconst (pc := 312) (v := (nI (2))) dL_law_312 (by decide) ?_
  refine rn_iadd (pc := 313) dL_law_313 ?_
  refine r_sld (pc := 314) dL_law_314 rfl (by omega) rfl (by omega) ?_
  refine r_aload_n (pc := 315) dL_law_315 rfl ?_
  refine r_iload_n (pc := 316) dL_law_316 rfl ?_
  refine r_iconst (pc := 317) (v := (nI (3))) dL_law_317 (by decide) ?_
  refine rn_iadd (pc := 318) dL_law_318 ?_
  refine r_sld (pc := 319) dL_law_319 rfl (by omega) rfl (by omega) ?_
  refine r_callV (pc := 320) (d' := 2) (k := 40) (As := [.int (xs (i + 1)), .int (xs (i + 2)), .int (xs (i + 3))]) (rest := [.int ((sp_hours σ (xs (i + 1)) (xs (i + 2)) (xs (i + 3))).1)]) dL_law_320 vX7_hours mL_31 rfl rfl rfl (Nat.le_of_ble_eq_true rfl) (Nat.le_of_ble_eq_true rfl) ?_
  refine m_hours hM1 hO (fun μ2 hM2 hk2 => ?_)
  refine r_icmp_eq (pc := 323) (tgt := 920) dL_law_323 (by decide) (fun c323 => ?_) (fun c323 => ?_)
  · exact K _ _ (Ok_hours hO (xs (i + 1)) (xs (i + 2)) (xs (i + 3))) (XI_keep hI1 hk2) hM2
  · exact absurd rfl c323

set_option maxRecDepth 20000 in
set_option maxHeartbeats 4000000 in
theorem law_c4 {L : Nat} {xs : Nat → Int32} {i : Nat} {σ : Sg} {μ : Mem} {Q : Option Value → Mem → Prop} (hL : L ≤ 3072) (hi : i + 6 ≤ L) (hI : XI μ σ) (hM : Ms μ σ) (hO : Ok σ) (K : ∀ σ' μ', Ok σ' → XI μ' σ' → Ms μ' σ' → WP cL_law (RL, 4, (some .boolean), 20, some (L, xs)) 920 [(0, .ref 1002), (1, .ref 0), (2, .ref 40), (3, .int (nI i))] [] μ' Q) : WP cL_law (RL, 4, (some .boolean), 20, some (L, xs)) 328 [(0, .ref 1002), (1, .ref 0), (2, .ref 40), (3, .int (nI i))] [] μ Q := by
  refine r_aload_n (pc := 328) dL_law_328 rfl ?_
  refine r_aload_n (pc := 329) dL_law_329 rfl ?_
  refine r_iload_n (pc := 330) dL_law_330 rfl ?_
  refine r_iconst (pc := 331) (v := (nI (1))) dL_law_331 (by decide) ?_
  refine rn_iadd (pc := 332) dL_law_332 ?_
  refine r_sld (pc := 333) dL_law_333 rfl (by omega) rfl (by omega) ?_
  refine r_aload_n (pc := 334) dL_law_334 rfl ?_
  refine r_iload_n (pc := 335) dL_law_335 rfl ?_
  refine r_iconst (pc := 336) (v := (nI (2))) dL_law_336 (by decide) ?_
  refine rn_iadd (pc := 337) dL_law_337 ?_
  refine r_sld (pc := 338) dL_law_338 rfl (by omega) rfl (by omega) ?_
  refine r_callV (pc := 339) (d' := 1) (k := 0) (As := [.int (xs (i + 1)), .int (xs (i + 2))]) (rest := []) dL_law_339 vX6_set mL_32 rfl rfl rfl (Nat.le_of_ble_eq_true rfl) (Nat.le_of_ble_eq_true rfl) ?_
  refine x_set hI hO (fun μ1 hI1 hk1 => ?_)
  have hM1 := Ms_keep hM hk1
  refine r_aload_n (pc := 342) dL_law_342 rfl ?_
  refine r_aload_n (pc := 343) dL_law_343 rfl ?_
  refine r_iload_n (pc := 344) dL_law_344 rfl ?_
  refine r_iconst (pc := 345) (v := (nI (1))) dL_law_345 (by decide) ?_
  refine rn_iadd (pc := 346) dL_law_346 ?_
  refine r_sld (pc := 347) dL_law_347 rfl (by omega) rfl (by omega) ?_
  refine r_aload_n (pc := 348) dL_law_348 rfl ?_
  refine r_iload_n (pc := 349) dL_law_349 rfl ?_
  refine r_iconst (pc := 350) (v := (nI (2))) dL_law_350 (by decide) ?_
  refine rn_iadd (pc := 351) dL_law_351 ?_
  refine r_sld (pc := 352) dL_law_352 rfl (by omega) rfl (by omega) ?_
  refine r_callV (pc := 353) (d' := 1) (k := 40) (As := [.int (xs (i + 1)), .int (xs (i + 2))]) (rest := [.int ((sp_set σ (xs (i + 1)) (xs (i + 2))).1)]) dL_law_353 vX7_set mL_35 rfl rfl rfl (Nat.le_of_ble_eq_true rfl) (Nat.le_of_ble_eq_true rfl) ?_
  refine m_set hM1 hO (fun μ2 hM2 hk2 => ?_)
  refine r_icmp_eq (pc := 356) (tgt := 920) dL_law_356 (by decide) (fun c356 => ?_) (fun c356 => ?_)
  · exact K _ _ (Ok_set hO (xs (i + 1)) (xs (i + 2))) (XI_keep hI1 hk2) hM2
  · exact absurd rfl c356

set_option maxRecDepth 20000 in
set_option maxHeartbeats 4000000 in
theorem law_c5 {L : Nat} {xs : Nat → Int32} {i : Nat} {σ : Sg} {μ : Mem} {Q : Option Value → Mem → Prop} (hL : L ≤ 3072) (hi : i + 6 ≤ L) (hI : XI μ σ) (hM : Ms μ σ) (hO : Ok σ) (K : ∀ σ' μ', Ok σ' → XI μ' σ' → Ms μ' σ' → WP cL_law (RL, 4, (some .boolean), 20, some (L, xs)) 920 [(0, .ref 1002), (1, .ref 0), (2, .ref 40), (3, .int (nI i))] [] μ' Q) : WP cL_law (RL, 4, (some .boolean), 20, some (L, xs)) 361 [(0, .ref 1002), (1, .ref 0), (2, .ref 40), (3, .int (nI i))] [] μ Q := by
  refine r_aload_n (pc := 361) dL_law_361 rfl ?_
  refine r_aload_n (pc := 362) dL_law_362 rfl ?_
  refine r_iload_n (pc := 363) dL_law_363 rfl ?_
  refine r_iconst (pc := 364) (v := (nI (1))) dL_law_364 (by decide) ?_
  refine rn_iadd (pc := 365) dL_law_365 ?_
  refine r_sld (pc := 366) dL_law_366 rfl (by omega) rfl (by omega) ?_
  refine r_callV (pc := 367) (d' := 1) (k := 0) (As := [.int (xs (i + 1))]) (rest := []) dL_law_367 vX6_say mL_36 rfl rfl rfl (Nat.le_of_ble_eq_true rfl) (Nat.le_of_ble_eq_true rfl) ?_
  refine x_say hI hO (fun μ1 hI1 hk1 => ?_)
  have hM1 := Ms_keep hM hk1
  refine r_aload_n (pc := 370) dL_law_370 rfl ?_
  refine r_aload_n (pc := 371) dL_law_371 rfl ?_
  refine r_iload_n (pc := 372) dL_law_372 rfl ?_
  refine r_iconst (pc := 373) (v := (nI (1))) dL_law_373 (by decide) ?_
  refine rn_iadd (pc := 374) dL_law_374 ?_
  refine r_sld (pc := 375) dL_law_375 rfl (by omega) rfl (by omega) ?_
  refine r_callV (pc := 376) (d' := 1) (k := 40) (As := [.int (xs (i + 1))]) (rest := [.int ((sp_say σ (xs (i + 1))).1)]) dL_law_376 vX7_say mL_40 rfl rfl rfl (Nat.le_of_ble_eq_true rfl) (Nat.le_of_ble_eq_true rfl) ?_
  refine m_say hM1 hO (fun μ2 hM2 hk2 => ?_)
  refine r_icmp_eq (pc := 379) (tgt := 920) dL_law_379 (by decide) (fun c379 => ?_) (fun c379 => ?_)
  · exact K _ _ (Ok_say hO (xs (i + 1))) (XI_keep hI1 hk2) hM2
  · exact absurd rfl c379

set_option maxRecDepth 20000 in
set_option maxHeartbeats 4000000 in
theorem law_c6 {L : Nat} {xs : Nat → Int32} {i : Nat} {σ : Sg} {μ : Mem} {Q : Option Value → Mem → Prop} (hL : L ≤ 3072) (hi : i + 6 ≤ L) (hI : XI μ σ) (hM : Ms μ σ) (hO : Ok σ) (K : ∀ σ' μ', Ok σ' → XI μ' σ' → Ms μ' σ' → WP cL_law (RL, 4, (some .boolean), 20, some (L, xs)) 920 [(0, .ref 1002), (1, .ref 0), (2, .ref 40), (3, .int (nI i))] [] μ' Q) : WP cL_law (RL, 4, (some .boolean), 20, some (L, xs)) 384 [(0, .ref 1002), (1, .ref 0), (2, .ref 40), (3, .int (nI i))] [] μ Q := by
  refine r_aload_n (pc := 384) dL_law_384 rfl ?_
  refine r_callV (pc := 385) (d' := 0) (k := 0) (As := []) (rest := []) dL_law_385 vX6_wipe mL_41 rfl rfl rfl (Nat.le_of_ble_eq_true rfl) (Nat.le_of_ble_eq_true rfl) ?_
  refine x_wipe hI hO (fun μ1 hI1 hk1 => ?_)
  have hM1 := Ms_keep hM hk1
  refine r_aload_n (pc := 388) dL_law_388 rfl ?_
  refine r_callV (pc := 389) (d' := 0) (k := 40) (As := []) (rest := [.int ((sp_wipe σ).1)]) dL_law_389 vX7_wipe mL_45 rfl rfl rfl (Nat.le_of_ble_eq_true rfl) (Nat.le_of_ble_eq_true rfl) ?_
  refine m_wipe hM1 hO (fun μ2 hM2 hk2 => ?_)
  refine r_icmp_eq (pc := 392) (tgt := 920) dL_law_392 (by decide) (fun c392 => ?_) (fun c392 => ?_)
  · exact K _ _ (Ok_w0 hO) (XI_keep hI1 hk2) hM2
  · exact absurd rfl c392

set_option maxRecDepth 20000 in
set_option maxHeartbeats 4000000 in
theorem law_c7 {L : Nat} {xs : Nat → Int32} {i : Nat} {σ : Sg} {μ : Mem} {Q : Option Value → Mem → Prop} (hL : L ≤ 3072) (hi : i + 6 ≤ L) (hI : XI μ σ) (hM : Ms μ σ) (hO : Ok σ) (K : ∀ σ' μ', Ok σ' → XI μ' σ' → Ms μ' σ' → WP cL_law (RL, 4, (some .boolean), 20, some (L, xs)) 920 [(0, .ref 1002), (1, .ref 0), (2, .ref 40), (3, .int (nI i))] [] μ' Q) : WP cL_law (RL, 4, (some .boolean), 20, some (L, xs)) 397 [(0, .ref 1002), (1, .ref 0), (2, .ref 40), (3, .int (nI i))] [] μ Q := by
  refine r_aload_n (pc := 397) dL_law_397 rfl ?_
  refine r_callV (pc := 398) (d' := 4) (k := 0) (As := []) (rest := []) dL_law_398 vX6_fault mL_46 rfl rfl rfl (Nat.le_of_ble_eq_true rfl) (Nat.le_of_ble_eq_true rfl) ?_
  refine x_fault hI hO (fun μ1 hI1 hk1 => ?_)
  have hM1 := Ms_keep hM hk1
  refine r_aload_n (pc := 401) dL_law_401 rfl ?_
  refine r_callV (pc := 402) (d' := 2) (k := 40) (As := []) (rest := [.int (sp_fault σ)]) dL_law_402 vX7_fault mL_49 rfl rfl rfl (Nat.le_of_ble_eq_true rfl) (Nat.le_of_ble_eq_true rfl) ?_
  refine m_fault hM1 hO (fun μ2 hM2 hk2 => ?_)
  refine r_icmp_eq (pc := 405) (tgt := 920) dL_law_405 (by decide) (fun c405 => ?_) (fun c405 => ?_)
  · exact K _ _ hO (XI_keep hI1 hk2) hM2
  · exact absurd rfl c405

set_option maxRecDepth 20000 in
set_option maxHeartbeats 4000000 in
theorem law_c8 {L : Nat} {xs : Nat → Int32} {i : Nat} {σ : Sg} {μ : Mem} {Q : Option Value → Mem → Prop} (hL : L ≤ 3072) (hi : i + 6 ≤ L) (hI : XI μ σ) (hM : Ms μ σ) (hO : Ok σ) (K : ∀ σ' μ', Ok σ' → XI μ' σ' → Ms μ' σ' → WP cL_law (RL, 4, (some .boolean), 20, some (L, xs)) 920 [(0, .ref 1002), (1, .ref 0), (2, .ref 40), (3, .int (nI i))] [] μ' Q) : WP cL_law (RL, 4, (some .boolean), 20, some (L, xs)) 410 [(0, .ref 1002), (1, .ref 0), (2, .ref 40), (3, .int (nI i))] [] μ Q := by
  refine r_aload_n (pc := 410) dL_law_410 rfl ?_
  refine r_callV (pc := 411) (d' := 4) (k := 0) (As := []) (rest := []) dL_law_411 vX6_read mL_50 rfl rfl rfl (Nat.le_of_ble_eq_true rfl) (Nat.le_of_ble_eq_true rfl) ?_
  refine x_read hI hO (fun μ1 hI1 hk1 => ?_)
  have hM1 := Ms_keep hM hk1
  refine r_aload_n (pc := 414) dL_law_414 rfl ?_
  refine r_callV (pc := 415) (d' := 2) (k := 40) (As := []) (rest := [.int ((sp_read σ).1)]) dL_law_415 vX7_read mL_53 rfl rfl rfl (Nat.le_of_ble_eq_true rfl) (Nat.le_of_ble_eq_true rfl) ?_
  refine m_read hM1 hO (fun μ2 hM2 hk2 => ?_)
  refine r_icmp_eq (pc := 418) (tgt := 920) dL_law_418 (by decide) (fun c418 => ?_) (fun c418 => ?_)
  · exact K _ _ (Ok_read hO) (XI_keep hI1 hk2) hM2
  · exact absurd rfl c418

set_option maxRecDepth 20000 in
set_option maxHeartbeats 4000000 in
theorem law_c9 {L : Nat} {xs : Nat → Int32} {i : Nat} {σ : Sg} {μ : Mem} {Q : Option Value → Mem → Prop} (hL : L ≤ 3072) (hi : i + 6 ≤ L) (hI : XI μ σ) (hM : Ms μ σ) (hO : Ok σ) (K : ∀ σ' μ', Ok σ' → XI μ' σ' → Ms μ' σ' → WP cL_law (RL, 4, (some .boolean), 20, some (L, xs)) 920 [(0, .ref 1002), (1, .ref 0), (2, .ref 40), (3, .int (nI i))] [] μ' Q) : WP cL_law (RL, 4, (some .boolean), 20, some (L, xs)) 423 [(0, .ref 1002), (1, .ref 0), (2, .ref 40), (3, .int (nI i))] [] μ Q := by
  refine r_aload_n (pc := 423) dL_law_423 rfl ?_
  refine r_aload_n (pc := 424) dL_law_424 rfl ?_
  refine r_iload_n (pc := 425) dL_law_425 rfl ?_
  refine r_iconst (pc := 426) (v := (nI (1))) dL_law_426 (by decide) ?_
  refine rn_iadd (pc := 427) dL_law_427 ?_
  refine r_sld (pc := 428) dL_law_428 rfl (by omega) rfl (by omega) ?_
  refine r_callV (pc := 429) (d' := 14) (k := 0) (As := [.int (xs (i + 1))]) (rest := []) dL_law_429 vX6_rounds mL_54 rfl rfl rfl (Nat.le_of_ble_eq_true rfl) (Nat.le_of_ble_eq_true rfl) ?_
  refine x_rounds hI hO (fun μ1 hI1 hk1 => ?_)
  have hM1 := Ms_keep hM hk1
  refine r_aload_n (pc := 432) dL_law_432 rfl ?_
  refine r_aload_n (pc := 433) dL_law_433 rfl ?_
  refine r_iload_n (pc := 434) dL_law_434 rfl ?_
  refine r_iconst (pc := 435) (v := (nI (1))) dL_law_435 (by decide) ?_
  refine rn_iadd (pc := 436) dL_law_436 ?_
  refine r_sld (pc := 437) dL_law_437 rfl (by omega) rfl (by omega) ?_
  refine r_callV (pc := 438) (d' := 3) (k := 40) (As := [.int (xs (i + 1))]) (rest := [.int (sp_rounds σ (xs (i + 1)))]) dL_law_438 vX7_rounds mL_57 rfl rfl rfl (Nat.le_of_ble_eq_true rfl) (Nat.le_of_ble_eq_true rfl) ?_
  refine m_rounds hM1 hO (fun μ2 hM2 hk2 => ?_)
  refine r_icmp_eq (pc := 441) (tgt := 920) dL_law_441 (by decide) (fun c441 => ?_) (fun c441 => ?_)
  · exact K _ _ hO (XI_keep hI1 hk2) hM2
  · exact absurd rfl c441

set_option maxRecDepth 20000 in
set_option maxHeartbeats 4000000 in
theorem law_c10 {L : Nat} {xs : Nat → Int32} {i : Nat} {σ : Sg} {μ : Mem} {Q : Option Value → Mem → Prop} (hL : L ≤ 3072) (hi : i + 6 ≤ L) (hI : XI μ σ) (hM : Ms μ σ) (hO : Ok σ) (K : ∀ σ' μ', Ok σ' → XI μ' σ' → Ms μ' σ' → WP cL_law (RL, 4, (some .boolean), 20, some (L, xs)) 920 [(0, .ref 1002), (1, .ref 0), (2, .ref 40), (3, .int (nI i))] [] μ' Q) : WP cL_law (RL, 4, (some .boolean), 20, some (L, xs)) 446 [(0, .ref 1002), (1, .ref 0), (2, .ref 40), (3, .int (nI i))] [] μ Q := by
  refine r_aload_n (pc := 446) dL_law_446 rfl ?_
  refine r_aload_n (pc := 447) dL_law_447 rfl ?_
  refine r_iload_n (pc := 448) dL_law_448 rfl ?_
  refine r_iconst (pc := 449) (v := (nI (1))) dL_law_449 (by decide) ?_
  refine rn_iadd (pc := 450) dL_law_450 ?_
  refine r_sld (pc := 451) dL_law_451 rfl (by omega) rfl (by omega) ?_
  refine r_aload_n (pc := 452) dL_law_452 rfl ?_
  refine r_iload_n (pc := 453) dL_law_453 rfl ?_
  refine r_iconst (pc := 454) (v := (nI (2))) dL_law_454 (by decide) ?_
  refine rn_iadd (pc := 455) dL_law_455 ?_
  refine r_sld (pc := 456) dL_law_456 rfl (by omega) rfl (by omega) ?_
  refine r_callV (pc := 457) (d' := 14) (k := 0) (As := [.int (xs (i + 1)), .int (xs (i + 2))]) (rest := []) dL_law_457 vX6_round mL_58 rfl rfl rfl (Nat.le_of_ble_eq_true rfl) (Nat.le_of_ble_eq_true rfl) ?_
  refine x_round hI hO (fun μ1 hI1 hk1 => ?_)
  have hM1 := Ms_keep hM hk1
  refine r_aload_n (pc := 460) dL_law_460 rfl ?_
  refine r_aload_n (pc := 461) dL_law_461 rfl ?_
  refine r_iload_n (pc := 462) dL_law_462 rfl ?_
  refine r_iconst (pc := 463) (v := (nI (1))) dL_law_463 (by decide) ?_
  refine rn_iadd (pc := 464) dL_law_464 ?_
  refine r_sld (pc := 465) dL_law_465 rfl (by omega) rfl (by omega) ?_
  refine r_aload_n (pc := 466) dL_law_466 rfl ?_
  refine r_iload_n (pc := 467) dL_law_467 rfl ?_
  refine r_iconst (pc := 468) (v := (nI (2))) dL_law_468 (by decide) ?_
  refine rn_iadd (pc := 469) dL_law_469 ?_
  refine r_sld (pc := 470) dL_law_470 rfl (by omega) rfl (by omega) ?_
  refine r_callV (pc := 471) (d' := 3) (k := 40) (As := [.int (xs (i + 1)), .int (xs (i + 2))]) (rest := [.int (sp_round σ (xs (i + 1)) (xs (i + 2)))]) dL_law_471 vX7_round mL_61 rfl rfl rfl (Nat.le_of_ble_eq_true rfl) (Nat.le_of_ble_eq_true rfl) ?_
  refine m_round hM1 hO (fun μ2 hM2 hk2 => ?_)
  refine r_icmp_eq (pc := 474) (tgt := 920) dL_law_474 (by decide) (fun c474 => ?_) (fun c474 => ?_)
  · exact K _ _ hO (XI_keep hI1 hk2) hM2
  · exact absurd rfl c474

set_option maxRecDepth 20000 in
set_option maxHeartbeats 4000000 in
theorem law_c11 {L : Nat} {xs : Nat → Int32} {i : Nat} {σ : Sg} {μ : Mem} {Q : Option Value → Mem → Prop} (hL : L ≤ 3072) (hi : i + 6 ≤ L) (hI : XI μ σ) (hM : Ms μ σ) (hO : Ok σ) (K : ∀ σ' μ', Ok σ' → XI μ' σ' → Ms μ' σ' → WP cL_law (RL, 4, (some .boolean), 20, some (L, xs)) 920 [(0, .ref 1002), (1, .ref 0), (2, .ref 40), (3, .int (nI i))] [] μ' Q) : WP cL_law (RL, 4, (some .boolean), 20, some (L, xs)) 479 [(0, .ref 1002), (1, .ref 0), (2, .ref 40), (3, .int (nI i))] [] μ Q := by
  refine r_aload_n (pc := 479) dL_law_479 rfl ?_
  refine r_aload_n (pc := 480) dL_law_480 rfl ?_
  refine r_iload_n (pc := 481) dL_law_481 rfl ?_
  refine r_iconst (pc := 482) (v := (nI (1))) dL_law_482 (by decide) ?_
  refine rn_iadd (pc := 483) dL_law_483 ?_
  refine r_sld (pc := 484) dL_law_484 rfl (by omega) rfl (by omega) ?_
  refine r_aload_n (pc := 485) dL_law_485 rfl ?_
  refine r_iload_n (pc := 486) dL_law_486 rfl ?_
  refine r_iconst (pc := 487) (v := (nI (2))) dL_law_487 (by decide) ?_
  refine rn_iadd (pc := 488) dL_law_488 ?_
  refine r_sld (pc := 489) dL_law_489 rfl (by omega) rfl (by omega) ?_
  refine r_callV (pc := 490) (d' := 14) (k := 0) (As := [.int (xs (i + 1)), .int (xs (i + 2))]) (rest := []) dL_law_490 vX6_product mL_62 rfl rfl rfl (Nat.le_of_ble_eq_true rfl) (Nat.le_of_ble_eq_true rfl) ?_
  refine x_product hI hO (fun μ1 hI1 hk1 => ?_)
  have hM1 := Ms_keep hM hk1
  refine r_aload_n (pc := 493) dL_law_493 rfl ?_
  refine r_aload_n (pc := 494) dL_law_494 rfl ?_
  refine r_iload_n (pc := 495) dL_law_495 rfl ?_
  refine r_iconst (pc := 496) (v := (nI (1))) dL_law_496 (by decide) ?_
  refine rn_iadd (pc := 497) dL_law_497 ?_
  refine r_sld (pc := 498) dL_law_498 rfl (by omega) rfl (by omega) ?_
  refine r_aload_n (pc := 499) dL_law_499 rfl ?_
  refine r_iload_n (pc := 500) dL_law_500 rfl ?_
  refine r_iconst (pc := 501) (v := (nI (2))) dL_law_501 (by decide) ?_
  refine rn_iadd (pc := 502) dL_law_502 ?_
  refine r_sld (pc := 503) dL_law_503 rfl (by omega) rfl (by omega) ?_
  refine r_callV (pc := 504) (d' := 3) (k := 40) (As := [.int (xs (i + 1)), .int (xs (i + 2))]) (rest := [.long (sp_product σ (xs (i + 1)) (xs (i + 2)))]) dL_law_504 vX7_product mL_66 rfl rfl rfl (Nat.le_of_ble_eq_true rfl) (Nat.le_of_ble_eq_true rfl) ?_
  refine m_product hM1 hO (fun μ2 hM2 hk2 => ?_)
  refine r_lcmp (pc := 507) dL_law_507 ?_
  refine r_if_eq (pc := 508) (tgt := 920) dL_law_508 (by decide) (fun c508 => ?_) (fun c508 => ?_)
  · exact K _ _ hO (XI_keep hI1 hk2) hM2
  · exact absurd (lg_cmp_self _) c508

set_option maxRecDepth 20000 in
set_option maxHeartbeats 4000000 in
theorem law_c12 {L : Nat} {xs : Nat → Int32} {i : Nat} {σ : Sg} {μ : Mem} {Q : Option Value → Mem → Prop} (hL : L ≤ 3072) (hi : i + 6 ≤ L) (hI : XI μ σ) (hM : Ms μ σ) (hO : Ok σ) (K : ∀ σ' μ', Ok σ' → XI μ' σ' → Ms μ' σ' → WP cL_law (RL, 4, (some .boolean), 20, some (L, xs)) 920 [(0, .ref 1002), (1, .ref 0), (2, .ref 40), (3, .int (nI i))] [] μ' Q) : WP cL_law (RL, 4, (some .boolean), 20, some (L, xs)) 513 [(0, .ref 1002), (1, .ref 0), (2, .ref 40), (3, .int (nI i))] [] μ Q := by
  refine r_aload_n (pc := 513) dL_law_513 rfl ?_
  refine r_aload_n (pc := 514) dL_law_514 rfl ?_
  refine r_iload_n (pc := 515) dL_law_515 rfl ?_
  refine r_iconst (pc := 516) (v := (nI (1))) dL_law_516 (by decide) ?_
  refine rn_iadd (pc := 517) dL_law_517 ?_
  refine r_sld (pc := 518) dL_law_518 rfl (by omega) rfl (by omega) ?_
  refine r_callV (pc := 519) (d' := 14) (k := 0) (As := [.int (xs (i + 1))]) (rest := []) dL_law_519 vX6_best mL_67 rfl rfl rfl (Nat.le_of_ble_eq_true rfl) (Nat.le_of_ble_eq_true rfl) ?_
  refine x_best hI hO (fun μ1 hI1 hk1 => ?_)
  have hM1 := Ms_keep hM hk1
  refine r_aload_n (pc := 522) dL_law_522 rfl ?_
  refine r_aload_n (pc := 523) dL_law_523 rfl ?_
  refine r_iload_n (pc := 524) dL_law_524 rfl ?_
  refine r_iconst (pc := 525) (v := (nI (1))) dL_law_525 (by decide) ?_
  refine rn_iadd (pc := 526) dL_law_526 ?_
  refine r_sld (pc := 527) dL_law_527 rfl (by omega) rfl (by omega) ?_
  refine r_callV (pc := 528) (d' := 3) (k := 40) (As := [.int (xs (i + 1))]) (rest := [.int (sp_best σ (xs (i + 1)))]) dL_law_528 vX7_best mL_70 rfl rfl rfl (Nat.le_of_ble_eq_true rfl) (Nat.le_of_ble_eq_true rfl) ?_
  refine m_best hM1 hO (fun μ2 hM2 hk2 => ?_)
  refine r_icmp_eq (pc := 531) (tgt := 920) dL_law_531 (by decide) (fun c531 => ?_) (fun c531 => ?_)
  · exact K _ _ hO (XI_keep hI1 hk2) hM2
  · exact absurd rfl c531

set_option maxRecDepth 20000 in
set_option maxHeartbeats 4000000 in
theorem law_c13 {L : Nat} {xs : Nat → Int32} {i : Nat} {σ : Sg} {μ : Mem} {Q : Option Value → Mem → Prop} (hL : L ≤ 3072) (hi : i + 6 ≤ L) (hI : XI μ σ) (hM : Ms μ σ) (hO : Ok σ) (K : ∀ σ' μ', Ok σ' → XI μ' σ' → Ms μ' σ' → WP cL_law (RL, 4, (some .boolean), 20, some (L, xs)) 920 [(0, .ref 1002), (1, .ref 0), (2, .ref 40), (3, .int (nI i))] [] μ' Q) : WP cL_law (RL, 4, (some .boolean), 20, some (L, xs)) 536 [(0, .ref 1002), (1, .ref 0), (2, .ref 40), (3, .int (nI i))] [] μ Q := by
  refine r_aload_n (pc := 536) dL_law_536 rfl ?_
  refine r_aload_n (pc := 537) dL_law_537 rfl ?_
  refine r_iload_n (pc := 538) dL_law_538 rfl ?_
  refine r_iconst (pc := 539) (v := (nI (1))) dL_law_539 (by decide) ?_
  refine rn_iadd (pc := 540) dL_law_540 ?_
  refine r_sld (pc := 541) dL_law_541 rfl (by omega) rfl (by omega) ?_
  refine r_callV (pc := 542) (d' := 14) (k := 0) (As := [.int (xs (i + 1))]) (rest := []) dL_law_542 vX6_through mL_71 rfl rfl rfl (Nat.le_of_ble_eq_true rfl) (Nat.le_of_ble_eq_true rfl) ?_
  refine x_through hI hO (fun μ1 hI1 hk1 => ?_)
  have hM1 := Ms_keep hM hk1
  refine r_aload_n (pc := 545) dL_law_545 rfl ?_
  refine r_aload_n (pc := 546) dL_law_546 rfl ?_
  refine r_iload_n (pc := 547) dL_law_547 rfl ?_
  refine r_iconst (pc := 548) (v := (nI (1))) dL_law_548 (by decide) ?_
  refine rn_iadd (pc := 549) dL_law_549 ?_
  refine r_sld (pc := 550) dL_law_550 rfl (by omega) rfl (by omega) ?_
  refine r_callV (pc := 551) (d' := 3) (k := 40) (As := [.int (xs (i + 1))]) (rest := [.int (sp_through σ (xs (i + 1)))]) dL_law_551 vX7_through mL_74 rfl rfl rfl (Nat.le_of_ble_eq_true rfl) (Nat.le_of_ble_eq_true rfl) ?_
  refine m_through hM1 hO (fun μ2 hM2 hk2 => ?_)
  refine r_icmp_eq (pc := 554) (tgt := 920) dL_law_554 (by decide) (fun c554 => ?_) (fun c554 => ?_)
  · exact K _ _ hO (XI_keep hI1 hk2) hM2
  · exact absurd rfl c554

set_option maxRecDepth 20000 in
set_option maxHeartbeats 4000000 in
theorem law_c14 {L : Nat} {xs : Nat → Int32} {i : Nat} {σ : Sg} {μ : Mem} {Q : Option Value → Mem → Prop} (hL : L ≤ 3072) (hi : i + 6 ≤ L) (hI : XI μ σ) (hM : Ms μ σ) (hO : Ok σ) (K : ∀ σ' μ', Ok σ' → XI μ' σ' → Ms μ' σ' → WP cL_law (RL, 4, (some .boolean), 20, some (L, xs)) 920 [(0, .ref 1002), (1, .ref 0), (2, .ref 40), (3, .int (nI i))] [] μ' Q) : WP cL_law (RL, 4, (some .boolean), 20, some (L, xs)) 559 [(0, .ref 1002), (1, .ref 0), (2, .ref 40), (3, .int (nI i))] [] μ Q := by
  refine r_aload_n (pc := 559) dL_law_559 rfl ?_
  refine r_callV (pc := 560) (d' := 14) (k := 0) (As := []) (rest := []) dL_law_560 vX6_blamed mL_75 rfl rfl rfl (Nat.le_of_ble_eq_true rfl) (Nat.le_of_ble_eq_true rfl) ?_
  refine x_blamed hI hO (fun μ1 hI1 hk1 => ?_)
  have hM1 := Ms_keep hM hk1
  refine r_aload_n (pc := 563) dL_law_563 rfl ?_
  refine r_callV (pc := 564) (d' := 3) (k := 40) (As := []) (rest := [.int (sp_blamed σ)]) dL_law_564 vX7_blamed mL_78 rfl rfl rfl (Nat.le_of_ble_eq_true rfl) (Nat.le_of_ble_eq_true rfl) ?_
  refine m_blamed hM1 hO (fun μ2 hM2 hk2 => ?_)
  refine r_icmp_eq (pc := 567) (tgt := 920) dL_law_567 (by decide) (fun c567 => ?_) (fun c567 => ?_)
  · exact K _ _ hO (XI_keep hI1 hk2) hM2
  · exact absurd rfl c567

set_option maxRecDepth 20000 in
set_option maxHeartbeats 4000000 in
theorem law_c15 {L : Nat} {xs : Nat → Int32} {i : Nat} {σ : Sg} {μ : Mem} {Q : Option Value → Mem → Prop} (hL : L ≤ 3072) (hi : i + 6 ≤ L) (hI : XI μ σ) (hM : Ms μ σ) (hO : Ok σ) (K : ∀ σ' μ', Ok σ' → XI μ' σ' → Ms μ' σ' → WP cL_law (RL, 4, (some .boolean), 20, some (L, xs)) 920 [(0, .ref 1002), (1, .ref 0), (2, .ref 40), (3, .int (nI i))] [] μ' Q) : WP cL_law (RL, 4, (some .boolean), 20, some (L, xs)) 572 [(0, .ref 1002), (1, .ref 0), (2, .ref 40), (3, .int (nI i))] [] μ Q := by
  refine r_aload_n (pc := 572) dL_law_572 rfl ?_
  refine r_callV (pc := 573) (d' := 14) (k := 0) (As := []) (rest := []) dL_law_573 vX6_cut mL_79 rfl rfl rfl (Nat.le_of_ble_eq_true rfl) (Nat.le_of_ble_eq_true rfl) ?_
  refine x_cut hI hO (fun μ1 hI1 hk1 => ?_)
  have hM1 := Ms_keep hM hk1
  refine r_aload_n (pc := 576) dL_law_576 rfl ?_
  refine r_callV (pc := 577) (d' := 3) (k := 40) (As := []) (rest := [.int (sp_cut σ)]) dL_law_577 vX7_cut mL_82 rfl rfl rfl (Nat.le_of_ble_eq_true rfl) (Nat.le_of_ble_eq_true rfl) ?_
  refine m_cut hM1 hO (fun μ2 hM2 hk2 => ?_)
  refine r_icmp_eq (pc := 580) (tgt := 920) dL_law_580 (by decide) (fun c580 => ?_) (fun c580 => ?_)
  · exact K _ _ hO (XI_keep hI1 hk2) hM2
  · exact absurd rfl c580

set_option maxRecDepth 20000 in
set_option maxHeartbeats 4000000 in
theorem law_c16 {L : Nat} {xs : Nat → Int32} {i : Nat} {σ : Sg} {μ : Mem} {Q : Option Value → Mem → Prop} (hL : L ≤ 3072) (hi : i + 6 ≤ L) (hI : XI μ σ) (hM : Ms μ σ) (hO : Ok σ) (K : ∀ σ' μ', Ok σ' → XI μ' σ' → Ms μ' σ' → WP cL_law (RL, 4, (some .boolean), 20, some (L, xs)) 920 [(0, .ref 1002), (1, .ref 0), (2, .ref 40), (3, .int (nI i))] [] μ' Q) : WP cL_law (RL, 4, (some .boolean), 20, some (L, xs)) 585 [(0, .ref 1002), (1, .ref 0), (2, .ref 40), (3, .int (nI i))] [] μ Q := by
  refine r_aload_n (pc := 585) dL_law_585 rfl ?_
  refine r_aload_n (pc := 586) dL_law_586 rfl ?_
  refine r_iload_n (pc := 587) dL_law_587 rfl ?_
  refine r_iconst (pc := 588) (v := (nI (1))) dL_law_588 (by decide) ?_
  refine rn_iadd (pc := 589) dL_law_589 ?_
  refine r_sld (pc := 590) dL_law_590 rfl (by omega) rfl (by omega) ?_
  refine r_callV (pc := 591) (d' := 14) (k := 0) (As := [.int (xs (i + 1))]) (rest := []) dL_law_591 vX6_move mL_83 rfl rfl rfl (Nat.le_of_ble_eq_true rfl) (Nat.le_of_ble_eq_true rfl) ?_
  refine x_move hI hO (fun μ1 hI1 hk1 => ?_)
  have hM1 := Ms_keep hM hk1
  refine r_aload_n (pc := 594) dL_law_594 rfl ?_
  refine r_aload_n (pc := 595) dL_law_595 rfl ?_
  refine r_iload_n (pc := 596) dL_law_596 rfl ?_
  refine r_iconst (pc := 597) (v := (nI (1))) dL_law_597 (by decide) ?_
  refine rn_iadd (pc := 598) dL_law_598 ?_
  refine r_sld (pc := 599) dL_law_599 rfl (by omega) rfl (by omega) ?_
  refine r_callV (pc := 600) (d' := 3) (k := 40) (As := [.int (xs (i + 1))]) (rest := [.int (sp_move σ (xs (i + 1)))]) dL_law_600 vX7_move mL_86 rfl rfl rfl (Nat.le_of_ble_eq_true rfl) (Nat.le_of_ble_eq_true rfl) ?_
  refine m_move hM1 hO (fun μ2 hM2 hk2 => ?_)
  refine r_icmp_eq (pc := 603) (tgt := 920) dL_law_603 (by decide) (fun c603 => ?_) (fun c603 => ?_)
  · exact K _ _ hO (XI_keep hI1 hk2) hM2
  · exact absurd rfl c603

set_option maxRecDepth 20000 in
set_option maxHeartbeats 4000000 in
theorem law_c17 {L : Nat} {xs : Nat → Int32} {i : Nat} {σ : Sg} {μ : Mem} {Q : Option Value → Mem → Prop} (hL : L ≤ 3072) (hi : i + 6 ≤ L) (hI : XI μ σ) (hM : Ms μ σ) (hO : Ok σ) (K : ∀ σ' μ', Ok σ' → XI μ' σ' → Ms μ' σ' → WP cL_law (RL, 4, (some .boolean), 20, some (L, xs)) 920 [(0, .ref 1002), (1, .ref 0), (2, .ref 40), (3, .int (nI i))] [] μ' Q) : WP cL_law (RL, 4, (some .boolean), 20, some (L, xs)) 608 [(0, .ref 1002), (1, .ref 0), (2, .ref 40), (3, .int (nI i))] [] μ Q := by
  refine r_aload_n (pc := 608) dL_law_608 rfl ?_
  refine r_callV (pc := 609) (d' := 14) (k := 0) (As := []) (rest := []) dL_law_609 vX6_edge mL_87 rfl rfl rfl (Nat.le_of_ble_eq_true rfl) (Nat.le_of_ble_eq_true rfl) ?_
  refine x_edge hI hO (fun μ1 hI1 hk1 => ?_)
  have hM1 := Ms_keep hM hk1
  refine r_aload_n (pc := 612) dL_law_612 rfl ?_
  refine r_callV (pc := 613) (d' := 3) (k := 40) (As := []) (rest := [.int (sp_edge σ)]) dL_law_613 vX7_edge mL_90 rfl rfl rfl (Nat.le_of_ble_eq_true rfl) (Nat.le_of_ble_eq_true rfl) ?_
  refine m_edge hM1 hO (fun μ2 hM2 hk2 => ?_)
  refine r_icmp_eq (pc := 616) (tgt := 920) dL_law_616 (by decide) (fun c616 => ?_) (fun c616 => ?_)
  · exact K _ _ hO (XI_keep hI1 hk2) hM2
  · exact absurd rfl c616

set_option maxRecDepth 20000 in
set_option maxHeartbeats 4000000 in
theorem law_c18 {L : Nat} {xs : Nat → Int32} {i : Nat} {σ : Sg} {μ : Mem} {Q : Option Value → Mem → Prop} (hL : L ≤ 3072) (hi : i + 6 ≤ L) (hI : XI μ σ) (hM : Ms μ σ) (hO : Ok σ) (K : ∀ σ' μ', Ok σ' → XI μ' σ' → Ms μ' σ' → WP cL_law (RL, 4, (some .boolean), 20, some (L, xs)) 920 [(0, .ref 1002), (1, .ref 0), (2, .ref 40), (3, .int (nI i))] [] μ' Q) : WP cL_law (RL, 4, (some .boolean), 20, some (L, xs)) 621 [(0, .ref 1002), (1, .ref 0), (2, .ref 40), (3, .int (nI i))] [] μ Q := by
  refine r_aload_n (pc := 621) dL_law_621 rfl ?_
  refine r_aload_n (pc := 622) dL_law_622 rfl ?_
  refine r_iload_n (pc := 623) dL_law_623 rfl ?_
  refine r_iconst (pc := 624) (v := (nI (1))) dL_law_624 (by decide) ?_
  refine rn_iadd (pc := 625) dL_law_625 ?_
  refine r_sld (pc := 626) dL_law_626 rfl (by omega) rfl (by omega) ?_
  refine r_aload_n (pc := 627) dL_law_627 rfl ?_
  refine r_iload_n (pc := 628) dL_law_628 rfl ?_
  refine r_iconst (pc := 629) (v := (nI (2))) dL_law_629 (by decide) ?_
  refine rn_iadd (pc := 630) dL_law_630 ?_
  refine r_sld (pc := 631) dL_law_631 rfl (by omega) rfl (by omega) ?_
  refine r_aload_n (pc := 632) dL_law_632 rfl ?_
  refine r_iload_n (pc := 633) dL_law_633 rfl ?_
  refine r_iconst (pc := 634) (v := (nI (3))) dL_law_634 (by decide) ?_
  refine rn_iadd (pc := 635) dL_law_635 ?_
  refine r_sld (pc := 636) dL_law_636 rfl (by omega) rfl (by omega) ?_
  refine r_callV (pc := 637) (d' := 15) (k := 0) (As := [.int (xs (i + 1)), .int (xs (i + 2)), .int (xs (i + 3))]) (rest := []) dL_law_637 vX6_gets mL_91 rfl rfl rfl (Nat.le_of_ble_eq_true rfl) (Nat.le_of_ble_eq_true rfl) ?_
  refine x_gets hI hO (fun μ1 hI1 hk1 => ?_)
  have hM1 := Ms_keep hM hk1
  refine r_aload_n (pc := 640) dL_law_640 rfl ?_
  refine r_aload_n (pc := 641) dL_law_641 rfl ?_
  refine r_iload_n (pc := 642) dL_law_642 rfl ?_
  refine r_iconst (pc := 643) (v := (nI (1))) dL_law_643 (by decide) ?_
  refine rn_iadd (pc := 644) dL_law_644 ?_
  refine r_sld (pc := 645) dL_law_645 rfl (by omega) rfl (by omega) ?_
  refine r_aload_n (pc := 646) dL_law_646 rfl ?_
  refine r_iload_n (pc := 647) dL_law_647 rfl ?_
  refine r_iconst (pc := 648) (v := (nI (2))) dL_law_648 (by decide) ?_
  refine rn_iadd (pc := 649) dL_law_649 ?_
  refine r_sld (pc := 650) dL_law_650 rfl (by omega) rfl (by omega) ?_
  refine r_aload_n (pc := 651) dL_law_651 rfl ?_
  refine r_iload_n (pc := 652) dL_law_652 rfl ?_
  refine r_iconst (pc := 653) (v := (nI (3))) dL_law_653 (by decide) ?_
  refine rn_iadd (pc := 654) dL_law_654 ?_
  refine r_sld (pc := 655) dL_law_655 rfl (by omega) rfl (by omega) ?_
  refine r_callV (pc := 656) (d' := 4) (k := 40) (As := [.int (xs (i + 1)), .int (xs (i + 2)), .int (xs (i + 3))]) (rest := [.long (sp_gets σ (xs (i + 1)) (xs (i + 2)) (xs (i + 3)))]) dL_law_656 vX7_gets mL_95 rfl rfl rfl (Nat.le_of_ble_eq_true rfl) (Nat.le_of_ble_eq_true rfl) ?_
  refine m_gets hM1 hO (fun μ2 hM2 hk2 => ?_)
  refine r_lcmp (pc := 659) dL_law_659 ?_
  refine r_if_eq (pc := 660) (tgt := 920) dL_law_660 (by decide) (fun c660 => ?_) (fun c660 => ?_)
  · exact K _ _ hO (XI_keep hI1 hk2) hM2
  · exact absurd (lg_cmp_self _) c660

set_option maxRecDepth 20000 in
set_option maxHeartbeats 4000000 in
theorem law_c19 {L : Nat} {xs : Nat → Int32} {i : Nat} {σ : Sg} {μ : Mem} {Q : Option Value → Mem → Prop} (hL : L ≤ 3072) (hi : i + 6 ≤ L) (hI : XI μ σ) (hM : Ms μ σ) (hO : Ok σ) (K : ∀ σ' μ', Ok σ' → XI μ' σ' → Ms μ' σ' → WP cL_law (RL, 4, (some .boolean), 20, some (L, xs)) 920 [(0, .ref 1002), (1, .ref 0), (2, .ref 40), (3, .int (nI i))] [] μ' Q) : WP cL_law (RL, 4, (some .boolean), 20, some (L, xs)) 665 [(0, .ref 1002), (1, .ref 0), (2, .ref 40), (3, .int (nI i))] [] μ Q := by
  refine r_aload_n (pc := 665) dL_law_665 rfl ?_
  refine r_aload_n (pc := 666) dL_law_666 rfl ?_
  refine r_iload_n (pc := 667) dL_law_667 rfl ?_
  refine r_iconst (pc := 668) (v := (nI (1))) dL_law_668 (by decide) ?_
  refine rn_iadd (pc := 669) dL_law_669 ?_
  refine r_sld (pc := 670) dL_law_670 rfl (by omega) rfl (by omega) ?_
  refine r_aload_n (pc := 671) dL_law_671 rfl ?_
  refine r_iload_n (pc := 672) dL_law_672 rfl ?_
  refine r_iconst (pc := 673) (v := (nI (2))) dL_law_673 (by decide) ?_
  refine rn_iadd (pc := 674) dL_law_674 ?_
  refine r_sld (pc := 675) dL_law_675 rfl (by omega) rfl (by omega) ?_
  refine r_aload_n (pc := 676) dL_law_676 rfl ?_
  refine r_iload_n (pc := 677) dL_law_677 rfl ?_
  refine r_iconst (pc := 678) (v := (nI (3))) dL_law_678 (by decide) ?_
  refine rn_iadd (pc := 679) dL_law_679 ?_
  refine r_sld (pc := 680) dL_law_680 rfl (by omega) rfl (by omega) ?_
  refine r_aload_n (pc := 681) dL_law_681 rfl ?_
  refine r_iload_n (pc := 682) dL_law_682 rfl ?_
  refine r_iconst (pc := 683) (v := (nI (4))) dL_law_683 (by decide) ?_
  refine rn_iadd (pc := 684) dL_law_684 ?_
  refine r_sld (pc := 685) dL_law_685 rfl (by omega) rfl (by omega) ?_
  refine r_callV (pc := 686) (d' := 15) (k := 0) (As := [.int (xs (i + 1)), .int (xs (i + 2)), .int (xs (i + 3)), .int (xs (i + 4))]) (rest := []) dL_law_686 vX6_span mL_96 rfl rfl rfl (Nat.le_of_ble_eq_true rfl) (Nat.le_of_ble_eq_true rfl) ?_
  refine x_span hI hO (fun μ1 hI1 hk1 => ?_)
  have hM1 := Ms_keep hM hk1
  refine r_aload_n (pc := 689) dL_law_689 rfl ?_
  refine r_aload_n (pc := 690) dL_law_690 rfl ?_
  refine r_iload_n (pc := 691) dL_law_691 rfl ?_
  refine r_iconst (pc := 692) (v := (nI (1))) dL_law_692 (by decide) ?_
  refine rn_iadd (pc := 693) dL_law_693 ?_
  refine r_sld (pc := 694) dL_law_694 rfl (by omega) rfl (by omega) ?_
  refine r_aload_n (pc := 695) dL_law_695 rfl ?_
  refine r_iload_n (pc := 696) dL_law_696 rfl ?_
  refine r_iconst (pc := 697) (v := (nI (2))) dL_law_697 (by decide) ?_
  refine rn_iadd (pc := 698) dL_law_698 ?_
  refine r_sld (pc := 699) dL_law_699 rfl (by omega) rfl (by omega) ?_
  refine r_aload_n (pc := 700) dL_law_700 rfl ?_
  refine r_iload_n (pc := 701) dL_law_701 rfl ?_
  refine r_iconst (pc := 702) (v := (nI (3))) dL_law_702 (by decide) ?_
  refine rn_iadd (pc := 703) dL_law_703 ?_
  refine r_sld (pc := 704) dL_law_704 rfl (by omega) rfl (by omega) ?_
  refine r_aload_n (pc := 705) dL_law_705 rfl ?_
  refine r_iload_n (pc := 706) dL_law_706 rfl ?_
  refine r_iconst (pc := 707) (v := (nI (4))) dL_law_707 (by decide) ?_
  refine rn_iadd (pc := 708) dL_law_708 ?_
  refine r_sld (pc := 709) dL_law_709 rfl (by omega) rfl (by omega) ?_
  refine r_callV (pc := 710) (d' := 4) (k := 40) (As := [.int (xs (i + 1)), .int (xs (i + 2)), .int (xs (i + 3)), .int (xs (i + 4))]) (rest := [.long (sp_span σ (xs (i + 1)) (xs (i + 2)) (xs (i + 3)) (xs (i + 4)))]) dL_law_710 vX7_span mL_100 rfl rfl rfl (Nat.le_of_ble_eq_true rfl) (Nat.le_of_ble_eq_true rfl) ?_
  refine m_span hM1 hO (fun μ2 hM2 hk2 => ?_)
  refine r_lcmp (pc := 713) dL_law_713 ?_
  refine r_if_eq (pc := 714) (tgt := 920) dL_law_714 (by decide) (fun c714 => ?_) (fun c714 => ?_)
  · exact K _ _ hO (XI_keep hI1 hk2) hM2
  · exact absurd (lg_cmp_self _) c714

set_option maxRecDepth 20000 in
set_option maxHeartbeats 4000000 in
theorem law_c20 {L : Nat} {xs : Nat → Int32} {i : Nat} {σ : Sg} {μ : Mem} {Q : Option Value → Mem → Prop} (hL : L ≤ 3072) (hi : i + 6 ≤ L) (hI : XI μ σ) (hM : Ms μ σ) (hO : Ok σ) (K : ∀ σ' μ', Ok σ' → XI μ' σ' → Ms μ' σ' → WP cL_law (RL, 4, (some .boolean), 20, some (L, xs)) 920 [(0, .ref 1002), (1, .ref 0), (2, .ref 40), (3, .int (nI i))] [] μ' Q) : WP cL_law (RL, 4, (some .boolean), 20, some (L, xs)) 719 [(0, .ref 1002), (1, .ref 0), (2, .ref 40), (3, .int (nI i))] [] μ Q := by
  refine r_aload_n (pc := 719) dL_law_719 rfl ?_
  refine r_aload_n (pc := 720) dL_law_720 rfl ?_
  refine r_iload_n (pc := 721) dL_law_721 rfl ?_
  refine r_iconst (pc := 722) (v := (nI (1))) dL_law_722 (by decide) ?_
  refine rn_iadd (pc := 723) dL_law_723 ?_
  refine r_sld (pc := 724) dL_law_724 rfl (by omega) rfl (by omega) ?_
  refine r_callV (pc := 725) (d' := 14) (k := 0) (As := [.int (xs (i + 1))]) (rest := []) dL_law_725 vX6_joined mL_101 rfl rfl rfl (Nat.le_of_ble_eq_true rfl) (Nat.le_of_ble_eq_true rfl) ?_
  refine x_joined hI hO (fun μ1 hI1 hk1 => ?_)
  have hM1 := Ms_keep hM hk1
  refine r_aload_n (pc := 728) dL_law_728 rfl ?_
  refine r_aload_n (pc := 729) dL_law_729 rfl ?_
  refine r_iload_n (pc := 730) dL_law_730 rfl ?_
  refine r_iconst (pc := 731) (v := (nI (1))) dL_law_731 (by decide) ?_
  refine rn_iadd (pc := 732) dL_law_732 ?_
  refine r_sld (pc := 733) dL_law_733 rfl (by omega) rfl (by omega) ?_
  refine r_callV (pc := 734) (d' := 4) (k := 40) (As := [.int (xs (i + 1))]) (rest := [.int (sp_joined σ (xs (i + 1)))]) dL_law_734 vX7_joined mL_104 rfl rfl rfl (Nat.le_of_ble_eq_true rfl) (Nat.le_of_ble_eq_true rfl) ?_
  refine m_joined hM1 hO (fun μ2 hM2 hk2 => ?_)
  refine r_icmp_eq (pc := 737) (tgt := 920) dL_law_737 (by decide) (fun c737 => ?_) (fun c737 => ?_)
  · exact K _ _ hO (XI_keep hI1 hk2) hM2
  · exact absurd rfl c737

set_option maxRecDepth 20000 in
set_option maxHeartbeats 4000000 in
theorem law_c21 {L : Nat} {xs : Nat → Int32} {i : Nat} {σ : Sg} {μ : Mem} {Q : Option Value → Mem → Prop} (hL : L ≤ 3072) (hi : i + 6 ≤ L) (hI : XI μ σ) (hM : Ms μ σ) (hO : Ok σ) (K : ∀ σ' μ', Ok σ' → XI μ' σ' → Ms μ' σ' → WP cL_law (RL, 4, (some .boolean), 20, some (L, xs)) 920 [(0, .ref 1002), (1, .ref 0), (2, .ref 40), (3, .int (nI i))] [] μ' Q) : WP cL_law (RL, 4, (some .boolean), 20, some (L, xs)) 742 [(0, .ref 1002), (1, .ref 0), (2, .ref 40), (3, .int (nI i))] [] μ Q := by
  refine r_aload_n (pc := 742) dL_law_742 rfl ?_
  refine r_callV (pc := 743) (d' := 14) (k := 0) (As := []) (rest := []) dL_law_743 vX6_parts mL_105 rfl rfl rfl (Nat.le_of_ble_eq_true rfl) (Nat.le_of_ble_eq_true rfl) ?_
  refine x_parts hI hO (fun μ1 hI1 hk1 => ?_)
  have hM1 := Ms_keep hM hk1
  refine r_aload_n (pc := 746) dL_law_746 rfl ?_
  refine r_callV (pc := 747) (d' := 4) (k := 40) (As := []) (rest := [.int (sp_parts σ)]) dL_law_747 vX7_parts mL_108 rfl rfl rfl (Nat.le_of_ble_eq_true rfl) (Nat.le_of_ble_eq_true rfl) ?_
  refine m_parts hM1 hO (fun μ2 hM2 hk2 => ?_)
  refine r_icmp_eq (pc := 750) (tgt := 920) dL_law_750 (by decide) (fun c750 => ?_) (fun c750 => ?_)
  · exact K _ _ hO (XI_keep hI1 hk2) hM2
  · exact absurd rfl c750

set_option maxRecDepth 20000 in
set_option maxHeartbeats 4000000 in
theorem law_c22 {L : Nat} {xs : Nat → Int32} {i : Nat} {σ : Sg} {μ : Mem} {Q : Option Value → Mem → Prop} (hL : L ≤ 3072) (hi : i + 6 ≤ L) (hI : XI μ σ) (hM : Ms μ σ) (hO : Ok σ) (K : ∀ σ' μ', Ok σ' → XI μ' σ' → Ms μ' σ' → WP cL_law (RL, 4, (some .boolean), 20, some (L, xs)) 920 [(0, .ref 1002), (1, .ref 0), (2, .ref 40), (3, .int (nI i))] [] μ' Q) : WP cL_law (RL, 4, (some .boolean), 20, some (L, xs)) 755 [(0, .ref 1002), (1, .ref 0), (2, .ref 40), (3, .int (nI i))] [] μ Q := by
  refine r_aload_n (pc := 755) dL_law_755 rfl ?_
  refine r_aload_n (pc := 756) dL_law_756 rfl ?_
  refine r_iload_n (pc := 757) dL_law_757 rfl ?_
  refine r_iconst (pc := 758) (v := (nI (1))) dL_law_758 (by decide) ?_
  refine rn_iadd (pc := 759) dL_law_759 ?_
  refine r_sld (pc := 760) dL_law_760 rfl (by omega) rfl (by omega) ?_
  refine r_aload_n (pc := 761) dL_law_761 rfl ?_
  refine r_iload_n (pc := 762) dL_law_762 rfl ?_
  refine r_iconst (pc := 763) (v := (nI (2))) dL_law_763 (by decide) ?_
  refine rn_iadd (pc := 764) dL_law_764 ?_
  refine r_sld (pc := 765) dL_law_765 rfl (by omega) rfl (by omega) ?_
  refine r_callV (pc := 766) (d' := 1) (k := 0) (As := [.int (xs (i + 1)), .int (xs (i + 2))]) (rest := []) dL_law_766 vX6_worth mL_109 rfl rfl rfl (Nat.le_of_ble_eq_true rfl) (Nat.le_of_ble_eq_true rfl) ?_
  refine x_worth hI hO (fun μ1 hI1 hk1 => ?_)
  have hM1 := Ms_keep hM hk1
  refine r_aload_n (pc := 769) dL_law_769 rfl ?_
  refine r_aload_n (pc := 770) dL_law_770 rfl ?_
  refine r_iload_n (pc := 771) dL_law_771 rfl ?_
  refine r_iconst (pc := 772) (v := (nI (1))) dL_law_772 (by decide) ?_
  refine rn_iadd (pc := 773) dL_law_773 ?_
  refine r_sld (pc := 774) dL_law_774 rfl (by omega) rfl (by omega) ?_
  refine r_aload_n (pc := 775) dL_law_775 rfl ?_
  refine r_iload_n (pc := 776) dL_law_776 rfl ?_
  refine r_iconst (pc := 777) (v := (nI (2))) dL_law_777 (by decide) ?_
  refine rn_iadd (pc := 778) dL_law_778 ?_
  refine r_sld (pc := 779) dL_law_779 rfl (by omega) rfl (by omega) ?_
  refine r_callV (pc := 780) (d' := 2) (k := 40) (As := [.int (xs (i + 1)), .int (xs (i + 2))]) (rest := [.int ((sp_worth σ (xs (i + 1)) (xs (i + 2))).1)]) dL_law_780 vX7_worth mL_112 rfl rfl rfl (Nat.le_of_ble_eq_true rfl) (Nat.le_of_ble_eq_true rfl) ?_
  refine m_worth hM1 hO (fun μ2 hM2 hk2 => ?_)
  refine r_icmp_eq (pc := 783) (tgt := 920) dL_law_783 (by decide) (fun c783 => ?_) (fun c783 => ?_)
  · exact K _ _ (Ok_worth hO (xs (i + 1)) (xs (i + 2))) (XI_keep hI1 hk2) hM2
  · exact absurd rfl c783

set_option maxRecDepth 20000 in
set_option maxHeartbeats 4000000 in
theorem law_c23 {L : Nat} {xs : Nat → Int32} {i : Nat} {σ : Sg} {μ : Mem} {Q : Option Value → Mem → Prop} (hL : L ≤ 3072) (hi : i + 6 ≤ L) (hI : XI μ σ) (hM : Ms μ σ) (hO : Ok σ) (K : ∀ σ' μ', Ok σ' → XI μ' σ' → Ms μ' σ' → WP cL_law (RL, 4, (some .boolean), 20, some (L, xs)) 920 [(0, .ref 1002), (1, .ref 0), (2, .ref 40), (3, .int (nI i))] [] μ' Q) : WP cL_law (RL, 4, (some .boolean), 20, some (L, xs)) 788 [(0, .ref 1002), (1, .ref 0), (2, .ref 40), (3, .int (nI i))] [] μ Q := by
  refine r_aload_n (pc := 788) dL_law_788 rfl ?_
  refine r_aload_n (pc := 789) dL_law_789 rfl ?_
  refine r_iload_n (pc := 790) dL_law_790 rfl ?_
  refine r_iconst (pc := 791) (v := (nI (1))) dL_law_791 (by decide) ?_
  refine rn_iadd (pc := 792) dL_law_792 ?_
  refine r_sld (pc := 793) dL_law_793 rfl (by omega) rfl (by omega) ?_
  refine r_callV (pc := 794) (d' := 3) (k := 0) (As := [.int (xs (i + 1))]) (rest := []) dL_law_794 vX6_off mL_113 rfl rfl rfl (Nat.le_of_ble_eq_true rfl) (Nat.le_of_ble_eq_true rfl) ?_
  refine x_off hI hO (fun μ1 hI1 hk1 => ?_)
  have hM1 := Ms_keep hM hk1
  refine r_aload_n (pc := 797) dL_law_797 rfl ?_
  refine r_aload_n (pc := 798) dL_law_798 rfl ?_
  refine r_iload_n (pc := 799) dL_law_799 rfl ?_
  refine r_iconst (pc := 800) (v := (nI (1))) dL_law_800 (by decide) ?_
  refine rn_iadd (pc := 801) dL_law_801 ?_
  refine r_sld (pc := 802) dL_law_802 rfl (by omega) rfl (by omega) ?_
  refine r_callV (pc := 803) (d' := 2) (k := 40) (As := [.int (xs (i + 1))]) (rest := [.int (sp_off σ (xs (i + 1)))]) dL_law_803 vX7_off mL_116 rfl rfl rfl (Nat.le_of_ble_eq_true rfl) (Nat.le_of_ble_eq_true rfl) ?_
  refine m_off hM1 hO (fun μ2 hM2 hk2 => ?_)
  refine r_icmp_eq (pc := 806) (tgt := 920) dL_law_806 (by decide) (fun c806 => ?_) (fun c806 => ?_)
  · exact K _ _ hO (XI_keep hI1 hk2) hM2
  · exact absurd rfl c806

set_option maxRecDepth 20000 in
set_option maxHeartbeats 4000000 in
theorem law_c24 {L : Nat} {xs : Nat → Int32} {i : Nat} {σ : Sg} {μ : Mem} {Q : Option Value → Mem → Prop} (hL : L ≤ 3072) (hi : i + 6 ≤ L) (hI : XI μ σ) (hM : Ms μ σ) (hO : Ok σ) (K : ∀ σ' μ', Ok σ' → XI μ' σ' → Ms μ' σ' → WP cL_law (RL, 4, (some .boolean), 20, some (L, xs)) 920 [(0, .ref 1002), (1, .ref 0), (2, .ref 40), (3, .int (nI i))] [] μ' Q) : WP cL_law (RL, 4, (some .boolean), 20, some (L, xs)) 811 [(0, .ref 1002), (1, .ref 0), (2, .ref 40), (3, .int (nI i))] [] μ Q := by
  refine r_aload_n (pc := 811) dL_law_811 rfl ?_
  refine r_aload_n (pc := 812) dL_law_812 rfl ?_
  refine r_iload_n (pc := 813) dL_law_813 rfl ?_
  refine r_iconst (pc := 814) (v := (nI (1))) dL_law_814 (by decide) ?_
  refine rn_iadd (pc := 815) dL_law_815 ?_
  refine r_sld (pc := 816) dL_law_816 rfl (by omega) rfl (by omega) ?_
  refine r_aload_n (pc := 817) dL_law_817 rfl ?_
  refine r_iload_n (pc := 818) dL_law_818 rfl ?_
  refine r_iconst (pc := 819) (v := (nI (2))) dL_law_819 (by decide) ?_
  refine rn_iadd (pc := 820) dL_law_820 ?_
  refine r_sld (pc := 821) dL_law_821 rfl (by omega) rfl (by omega) ?_
  refine r_aload_n (pc := 822) dL_law_822 rfl ?_
  refine r_iload_n (pc := 823) dL_law_823 rfl ?_
  refine r_iconst (pc := 824) (v := (nI (3))) dL_law_824 (by decide) ?_
  refine rn_iadd (pc := 825) dL_law_825 ?_
  refine r_sld (pc := 826) dL_law_826 rfl (by omega) rfl (by omega) ?_
  refine r_aload_n (pc := 827) dL_law_827 rfl ?_
  refine r_iload_n (pc := 828) dL_law_828 rfl ?_
  refine r_iconst (pc := 829) (v := (nI (4))) dL_law_829 (by decide) ?_
  refine rn_iadd (pc := 830) dL_law_830 ?_
  refine r_sld (pc := 831) dL_law_831 rfl (by omega) rfl (by omega) ?_
  refine r_aload_n (pc := 832) dL_law_832 rfl ?_
  refine r_iload_n (pc := 833) dL_law_833 rfl ?_
  refine r_iconst (pc := 834) (v := (nI (5))) dL_law_834 (by decide) ?_
  refine rn_iadd (pc := 835) dL_law_835 ?_
  refine r_sld (pc := 836) dL_law_836 rfl (by omega) rfl (by omega) ?_
  refine r_callV (pc := 837) (d' := 5) (k := 0) (As := [.int (xs (i + 1)), .int (xs (i + 2)), .int (xs (i + 3)), .int (xs (i + 4)), .int (xs (i + 5))]) (rest := []) dL_law_837 vX6_walk mL_117 rfl rfl rfl (Nat.le_of_ble_eq_true rfl) (Nat.le_of_ble_eq_true rfl) ?_
  refine x_walk hI hO (fun μ1 hI1 hk1 => ?_)
  have hM1 := Ms_keep hM hk1
  refine r_aload_n (pc := 840) dL_law_840 rfl ?_
  refine r_aload_n (pc := 841) dL_law_841 rfl ?_
  refine r_iload_n (pc := 842) dL_law_842 rfl ?_
  refine r_iconst (pc := 843) (v := (nI (1))) dL_law_843 (by decide) ?_
  refine rn_iadd (pc := 844) dL_law_844 ?_
  refine r_sld (pc := 845) dL_law_845 rfl (by omega) rfl (by omega) ?_
  refine r_aload_n (pc := 846) dL_law_846 rfl ?_
  refine r_iload_n (pc := 847) dL_law_847 rfl ?_
  refine r_iconst (pc := 848) (v := (nI (2))) dL_law_848 (by decide) ?_
  refine rn_iadd (pc := 849) dL_law_849 ?_
  refine r_sld (pc := 850) dL_law_850 rfl (by omega) rfl (by omega) ?_
  refine r_aload_n (pc := 851) dL_law_851 rfl ?_
  refine r_iload_n (pc := 852) dL_law_852 rfl ?_
  refine r_iconst (pc := 853) (v := (nI (3))) dL_law_853 (by decide) ?_
  refine rn_iadd (pc := 854) dL_law_854 ?_
  refine r_sld (pc := 855) dL_law_855 rfl (by omega) rfl (by omega) ?_
  refine r_aload_n (pc := 856) dL_law_856 rfl ?_
  refine r_iload_n (pc := 857) dL_law_857 rfl ?_
  refine r_iconst (pc := 858) (v := (nI (4))) dL_law_858 (by decide) ?_
  refine rn_iadd (pc := 859) dL_law_859 ?_
  refine r_sld (pc := 860) dL_law_860 rfl (by omega) rfl (by omega) ?_
  refine r_aload_n (pc := 861) dL_law_861 rfl ?_
  refine r_iload_n (pc := 862) dL_law_862 rfl ?_
  refine r_iconst (pc := 863) (v := (nI (5))) dL_law_863 (by decide) ?_
  refine rn_iadd (pc := 864) dL_law_864 ?_
  refine r_sld (pc := 865) dL_law_865 rfl (by omega) rfl (by omega) ?_
  refine r_callV (pc := 866) (d' := 3) (k := 40) (As := [.int (xs (i + 1)), .int (xs (i + 2)), .int (xs (i + 3)), .int (xs (i + 4)), .int (xs (i + 5))]) (rest := [.int (sp_walk σ (xs (i + 1)) (xs (i + 2)) (xs (i + 3)) (xs (i + 4)) (xs (i + 5)))]) dL_law_866 vX7_walk mL_121 rfl rfl rfl (Nat.le_of_ble_eq_true rfl) (Nat.le_of_ble_eq_true rfl) ?_
  refine m_walk hM1 hO (fun μ2 hM2 hk2 => ?_)
  refine r_icmp_eq (pc := 869) (tgt := 920) dL_law_869 (by decide) (fun c869 => ?_) (fun c869 => ?_)
  · exact K _ _ hO (XI_keep hI1 hk2) hM2
  · exact absurd rfl c869

set_option maxRecDepth 20000 in
set_option maxHeartbeats 4000000 in
theorem law_c25 {L : Nat} {xs : Nat → Int32} {i : Nat} {σ : Sg} {μ : Mem} {Q : Option Value → Mem → Prop} (hL : L ≤ 3072) (hi : i + 6 ≤ L) (hI : XI μ σ) (hM : Ms μ σ) (hO : Ok σ) (K : ∀ σ' μ', Ok σ' → XI μ' σ' → Ms μ' σ' → WP cL_law (RL, 4, (some .boolean), 20, some (L, xs)) 920 [(0, .ref 1002), (1, .ref 0), (2, .ref 40), (3, .int (nI i))] [] μ' Q) : WP cL_law (RL, 4, (some .boolean), 20, some (L, xs)) 874 [(0, .ref 1002), (1, .ref 0), (2, .ref 40), (3, .int (nI i))] [] μ Q := by
  refine r_aload_n (pc := 874) dL_law_874 rfl ?_
  refine r_aload_n (pc := 875) dL_law_875 rfl ?_
  refine r_iload_n (pc := 876) dL_law_876 rfl ?_
  refine r_iconst (pc := 877) (v := (nI (1))) dL_law_877 (by decide) ?_
  refine rn_iadd (pc := 878) dL_law_878 ?_
  refine r_sld (pc := 879) dL_law_879 rfl (by omega) rfl (by omega) ?_
  refine r_callV (pc := 880) (d' := 14) (k := 0) (As := [.int (xs (i + 1))]) (rest := []) dL_law_880 vX6_walkers mL_122 rfl rfl rfl (Nat.le_of_ble_eq_true rfl) (Nat.le_of_ble_eq_true rfl) ?_
  refine x_walkers hI hO (fun μ1 hI1 hk1 => ?_)
  have hM1 := Ms_keep hM hk1
  refine r_aload_n (pc := 883) dL_law_883 rfl ?_
  refine r_aload_n (pc := 884) dL_law_884 rfl ?_
  refine r_iload_n (pc := 885) dL_law_885 rfl ?_
  refine r_iconst (pc := 886) (v := (nI (1))) dL_law_886 (by decide) ?_
  refine rn_iadd (pc := 887) dL_law_887 ?_
  refine r_sld (pc := 888) dL_law_888 rfl (by omega) rfl (by omega) ?_
  refine r_callV (pc := 889) (d' := 3) (k := 40) (As := [.int (xs (i + 1))]) (rest := [.int (sp_walkers σ (xs (i + 1)))]) dL_law_889 vX7_walkers mL_125 rfl rfl rfl (Nat.le_of_ble_eq_true rfl) (Nat.le_of_ble_eq_true rfl) ?_
  refine m_walkers hM1 hO (fun μ2 hM2 hk2 => ?_)
  refine r_icmp_eq (pc := 892) (tgt := 920) dL_law_892 (by decide) (fun c892 => ?_) (fun c892 => ?_)
  · exact K _ _ hO (XI_keep hI1 hk2) hM2
  · exact absurd rfl c892

set_option maxRecDepth 20000 in
set_option maxHeartbeats 4000000 in
theorem law_c26 {L : Nat} {xs : Nat → Int32} {i : Nat} {σ : Sg} {μ : Mem} {Q : Option Value → Mem → Prop} (hL : L ≤ 3072) (hi : i + 6 ≤ L) (hI : XI μ σ) (hM : Ms μ σ) (hO : Ok σ) (K : ∀ σ' μ', Ok σ' → XI μ' σ' → Ms μ' σ' → WP cL_law (RL, 4, (some .boolean), 20, some (L, xs)) 920 [(0, .ref 1002), (1, .ref 0), (2, .ref 40), (3, .int (nI i))] [] μ' Q) : WP cL_law (RL, 4, (some .boolean), 20, some (L, xs)) 897 [(0, .ref 1002), (1, .ref 0), (2, .ref 40), (3, .int (nI i))] [] μ Q := by
  refine r_aload_n (pc := 897) dL_law_897 rfl ?_
  refine r_aload_n (pc := 898) dL_law_898 rfl ?_
  refine r_iload_n (pc := 899) dL_law_899 rfl ?_
  refine r_iconst (pc := 900) (v := (nI (1))) dL_law_900 (by decide) ?_
  refine rn_iadd (pc := 901) dL_law_901 ?_
  refine r_sld (pc := 902) dL_law_902 rfl (by omega) rfl (by omega) ?_
  refine r_callV (pc := 903) (d' := 3) (k := 0) (As := [.int (xs (i + 1))]) (rest := []) dL_law_903 vX6_told mL_126 rfl rfl rfl (Nat.le_of_ble_eq_true rfl) (Nat.le_of_ble_eq_true rfl) ?_
  refine x_told hI hO (fun μ1 hI1 hk1 => ?_)
  have hM1 := Ms_keep hM hk1
  refine r_aload_n (pc := 906) dL_law_906 rfl ?_
  refine r_aload_n (pc := 907) dL_law_907 rfl ?_
  refine r_iload_n (pc := 908) dL_law_908 rfl ?_
  refine r_iconst (pc := 909) (v := (nI (1))) dL_law_909 (by decide) ?_
  refine rn_iadd (pc := 910) dL_law_910 ?_
  refine r_sld (pc := 911) dL_law_911 rfl (by omega) rfl (by omega) ?_
  refine r_callV (pc := 912) (d' := 2) (k := 40) (As := [.int (xs (i + 1))]) (rest := [.int (sp_told σ (xs (i + 1)))]) dL_law_912 vX7_told mL_129 rfl rfl rfl (Nat.le_of_ble_eq_true rfl) (Nat.le_of_ble_eq_true rfl) ?_
  refine m_told hM1 hO (fun μ2 hM2 hk2 => ?_)
  refine r_icmp_eq (pc := 915) (tgt := 920) dL_law_915 (by decide) (fun c915 => ?_) (fun c915 => ?_)
  · exact K _ _ hO (XI_keep hI1 hk2) hM2
  · exact absurd rfl c915

set_option maxRecDepth 20000 in
set_option maxHeartbeats 4000000 in
theorem law_loop {L : Nat} {xs : Nat → Int32} {Q : Option Value → Mem → Prop} (hL : L ≤ 3072) (h : ∀ μ', Q (some (.int (nI 1))) μ') : ∀ (k : Nat) (i : Nat) (σ : Sg) (μ : Mem), i + k = L + 6 → Ok σ → XI μ σ → Ms μ σ → WP cL_law (RL, 4, (some .boolean), 20, some (L, xs)) 18 [(0, .ref 1002), (1, .ref 0), (2, .ref 40), (3, .int (nI i))] [] μ Q := by
  intro k
  induction k using Nat.strongRecOn with
  | _ k ih =>
    intro i σ μ hik hO hI hM
    refine r_iload_n (pc := 18) dL_law_18 rfl ?_
    refine r_aload_n (pc := 19) dL_law_19 rfl ?_
    refine r_slen (pc := 20) dL_law_20 rfl ?_
    refine r_bipush (pc := 21) (v := (nI (6))) dL_law_21 (by decide) ?_
    refine r_isub (pc := 23) dL_law_23 ?_
    refine r_icmp_gt (pc := 24) (tgt := 926) dL_law_24 (by decide) (fun c24 => ?_) (fun c24 => ?_)
    · refine r_iconst (pc := 926) (v := (nI (1))) dL_law_926 (by decide) ?_
      refine r_ireturn (pc := 927) dL_law_927 rfl (Or.inr rfl) rfl ?_
      exact h μ
    · have hi6 : i + 6 ≤ L := by
        rcases Nat.lt_or_ge L (i + 6) with q | q
        · exact absurd ((law_end (by omega) (by omega)).mpr q) c24
        · exact q
      refine r_aload_n (pc := 27) dL_law_27 rfl ?_
      refine r_iload_n (pc := 28) dL_law_28 rfl ?_
      refine r_sld (pc := 29) dL_law_29 rfl (by omega) rfl (by omega) ?_
      refine r_bipush (pc := 30) (v := (nI (31))) dL_law_30 (by decide) ?_
      refine r_iand (pc := 32) dL_law_32 ?_
      by_cases c33 : (xs (i) &&& (nI (31))).toInt < 0 ∨ 26 < (xs (i) &&& (nI (31))).toInt
      · refine r_tableOut (pc := 33) (tgt := 920) dL_law_33 c33 (by decide) ?_
        refine rn_iinc (pc := 920) (b := 6) (ls' := [(0, .ref 1002), (1, .ref 0), (2, .ref 40), (3, .int (nI (i + 6)))]) dL_law_920 rfl (by decide) (Nat.le_of_ble_eq_true rfl) rfl ?_
        refine r_goto (pc := 923) (tgt := 18) dL_law_923 (by decide) ?_
        exact ih (k - 6) (by omega) (i + 6) σ μ (by omega) hO hI hM
      · obtain ⟨j1, hj2, e3⟩ := sw_cases (by decide) c33
        rcases (show j1 = 0 ∨ j1 = 1 ∨ j1 = 2 ∨ j1 = 3 ∨ j1 = 4 ∨ j1 = 5 ∨ j1 = 6 ∨ j1 = 7 ∨ j1 = 8 ∨ j1 = 9 ∨ j1 = 10 ∨ j1 = 11 ∨ j1 = 12 ∨ j1 = 13 ∨ j1 = 14 ∨ j1 = 15 ∨ j1 = 16 ∨ j1 = 17 ∨ j1 = 18 ∨ j1 = 19 ∨ j1 = 20 ∨ j1 = 21 ∨ j1 = 22 ∨ j1 = 23 ∨ j1 = 24 ∨ j1 = 25 ∨ j1 = 26 by omega) with rfl | rfl | rfl | rfl | rfl | rfl | rfl | rfl | rfl | rfl | rfl | rfl | rfl | rfl | rfl | rfl | rfl | rfl | rfl | rfl | rfl | rfl | rfl | rfl | rfl | rfl | rfl
        · rw [e3]
          refine r_tableIn (pc := 33) (tgt := 156) (off := 123) dL_law_33 (by decide) (by decide) (by decide) (by decide) ?_
          refine law_c0 hL (by omega) hI hM hO (fun σ' μ' hO' hI' hM' => ?_)
          refine rn_iinc (pc := 920) (b := 6) (ls' := [(0, .ref 1002), (1, .ref 0), (2, .ref 40), (3, .int (nI (i + 6)))]) dL_law_920 rfl (by decide) (Nat.le_of_ble_eq_true rfl) rfl ?_
          refine r_goto (pc := 923) (tgt := 18) dL_law_923 (by decide) ?_
          exact ih (k - 6) (by omega) (i + 6) σ' μ' (by omega) hO' hI' hM'
        · rw [e3]
          refine r_tableIn (pc := 33) (tgt := 209) (off := 176) dL_law_33 (by decide) (by decide) (by decide) (by decide) ?_
          refine law_c1 hL (by omega) hI hM hO (fun σ' μ' hO' hI' hM' => ?_)
          refine rn_iinc (pc := 920) (b := 6) (ls' := [(0, .ref 1002), (1, .ref 0), (2, .ref 40), (3, .int (nI (i + 6)))]) dL_law_920 rfl (by decide) (Nat.le_of_ble_eq_true rfl) rfl ?_
          refine r_goto (pc := 923) (tgt := 18) dL_law_923 (by decide) ?_
          exact ih (k - 6) (by omega) (i + 6) σ' μ' (by omega) hO' hI' hM'
        · rw [e3]
          refine r_tableIn (pc := 33) (tgt := 242) (off := 209) dL_law_33 (by decide) (by decide) (by decide) (by decide) ?_
          refine law_c2 hL (by omega) hI hM hO (fun σ' μ' hO' hI' hM' => ?_)
          refine rn_iinc (pc := 920) (b := 6) (ls' := [(0, .ref 1002), (1, .ref 0), (2, .ref 40), (3, .int (nI (i + 6)))]) dL_law_920 rfl (by decide) (Nat.le_of_ble_eq_true rfl) rfl ?_
          refine r_goto (pc := 923) (tgt := 18) dL_law_923 (by decide) ?_
          exact ih (k - 6) (by omega) (i + 6) σ' μ' (by omega) hO' hI' hM'
        · rw [e3]
          refine r_tableIn (pc := 33) (tgt := 285) (off := 252) dL_law_33 (by decide) (by decide) (by decide) (by decide) ?_
          refine law_c3 hL (by omega) hI hM hO (fun σ' μ' hO' hI' hM' => ?_)
          refine rn_iinc (pc := 920) (b := 6) (ls' := [(0, .ref 1002), (1, .ref 0), (2, .ref 40), (3, .int (nI (i + 6)))]) dL_law_920 rfl (by decide) (Nat.le_of_ble_eq_true rfl) rfl ?_
          refine r_goto (pc := 923) (tgt := 18) dL_law_923 (by decide) ?_
          exact ih (k - 6) (by omega) (i + 6) σ' μ' (by omega) hO' hI' hM'
        · rw [e3]
          refine r_tableIn (pc := 33) (tgt := 328) (off := 295) dL_law_33 (by decide) (by decide) (by decide) (by decide) ?_
          refine law_c4 hL (by omega) hI hM hO (fun σ' μ' hO' hI' hM' => ?_)
          refine rn_iinc (pc := 920) (b := 6) (ls' := [(0, .ref 1002), (1, .ref 0), (2, .ref 40), (3, .int (nI (i + 6)))]) dL_law_920 rfl (by decide) (Nat.le_of_ble_eq_true rfl) rfl ?_
          refine r_goto (pc := 923) (tgt := 18) dL_law_923 (by decide) ?_
          exact ih (k - 6) (by omega) (i + 6) σ' μ' (by omega) hO' hI' hM'
        · rw [e3]
          refine r_tableIn (pc := 33) (tgt := 361) (off := 328) dL_law_33 (by decide) (by decide) (by decide) (by decide) ?_
          refine law_c5 hL (by omega) hI hM hO (fun σ' μ' hO' hI' hM' => ?_)
          refine rn_iinc (pc := 920) (b := 6) (ls' := [(0, .ref 1002), (1, .ref 0), (2, .ref 40), (3, .int (nI (i + 6)))]) dL_law_920 rfl (by decide) (Nat.le_of_ble_eq_true rfl) rfl ?_
          refine r_goto (pc := 923) (tgt := 18) dL_law_923 (by decide) ?_
          exact ih (k - 6) (by omega) (i + 6) σ' μ' (by omega) hO' hI' hM'
        · rw [e3]
          refine r_tableIn (pc := 33) (tgt := 384) (off := 351) dL_law_33 (by decide) (by decide) (by decide) (by decide) ?_
          refine law_c6 hL (by omega) hI hM hO (fun σ' μ' hO' hI' hM' => ?_)
          refine rn_iinc (pc := 920) (b := 6) (ls' := [(0, .ref 1002), (1, .ref 0), (2, .ref 40), (3, .int (nI (i + 6)))]) dL_law_920 rfl (by decide) (Nat.le_of_ble_eq_true rfl) rfl ?_
          refine r_goto (pc := 923) (tgt := 18) dL_law_923 (by decide) ?_
          exact ih (k - 6) (by omega) (i + 6) σ' μ' (by omega) hO' hI' hM'
        · rw [e3]
          refine r_tableIn (pc := 33) (tgt := 397) (off := 364) dL_law_33 (by decide) (by decide) (by decide) (by decide) ?_
          refine law_c7 hL (by omega) hI hM hO (fun σ' μ' hO' hI' hM' => ?_)
          refine rn_iinc (pc := 920) (b := 6) (ls' := [(0, .ref 1002), (1, .ref 0), (2, .ref 40), (3, .int (nI (i + 6)))]) dL_law_920 rfl (by decide) (Nat.le_of_ble_eq_true rfl) rfl ?_
          refine r_goto (pc := 923) (tgt := 18) dL_law_923 (by decide) ?_
          exact ih (k - 6) (by omega) (i + 6) σ' μ' (by omega) hO' hI' hM'
        · rw [e3]
          refine r_tableIn (pc := 33) (tgt := 410) (off := 377) dL_law_33 (by decide) (by decide) (by decide) (by decide) ?_
          refine law_c8 hL (by omega) hI hM hO (fun σ' μ' hO' hI' hM' => ?_)
          refine rn_iinc (pc := 920) (b := 6) (ls' := [(0, .ref 1002), (1, .ref 0), (2, .ref 40), (3, .int (nI (i + 6)))]) dL_law_920 rfl (by decide) (Nat.le_of_ble_eq_true rfl) rfl ?_
          refine r_goto (pc := 923) (tgt := 18) dL_law_923 (by decide) ?_
          exact ih (k - 6) (by omega) (i + 6) σ' μ' (by omega) hO' hI' hM'
        · rw [e3]
          refine r_tableIn (pc := 33) (tgt := 423) (off := 390) dL_law_33 (by decide) (by decide) (by decide) (by decide) ?_
          refine law_c9 hL (by omega) hI hM hO (fun σ' μ' hO' hI' hM' => ?_)
          refine rn_iinc (pc := 920) (b := 6) (ls' := [(0, .ref 1002), (1, .ref 0), (2, .ref 40), (3, .int (nI (i + 6)))]) dL_law_920 rfl (by decide) (Nat.le_of_ble_eq_true rfl) rfl ?_
          refine r_goto (pc := 923) (tgt := 18) dL_law_923 (by decide) ?_
          exact ih (k - 6) (by omega) (i + 6) σ' μ' (by omega) hO' hI' hM'
        · rw [e3]
          refine r_tableIn (pc := 33) (tgt := 446) (off := 413) dL_law_33 (by decide) (by decide) (by decide) (by decide) ?_
          refine law_c10 hL (by omega) hI hM hO (fun σ' μ' hO' hI' hM' => ?_)
          refine rn_iinc (pc := 920) (b := 6) (ls' := [(0, .ref 1002), (1, .ref 0), (2, .ref 40), (3, .int (nI (i + 6)))]) dL_law_920 rfl (by decide) (Nat.le_of_ble_eq_true rfl) rfl ?_
          refine r_goto (pc := 923) (tgt := 18) dL_law_923 (by decide) ?_
          exact ih (k - 6) (by omega) (i + 6) σ' μ' (by omega) hO' hI' hM'
        · rw [e3]
          refine r_tableIn (pc := 33) (tgt := 479) (off := 446) dL_law_33 (by decide) (by decide) (by decide) (by decide) ?_
          refine law_c11 hL (by omega) hI hM hO (fun σ' μ' hO' hI' hM' => ?_)
          refine rn_iinc (pc := 920) (b := 6) (ls' := [(0, .ref 1002), (1, .ref 0), (2, .ref 40), (3, .int (nI (i + 6)))]) dL_law_920 rfl (by decide) (Nat.le_of_ble_eq_true rfl) rfl ?_
          refine r_goto (pc := 923) (tgt := 18) dL_law_923 (by decide) ?_
          exact ih (k - 6) (by omega) (i + 6) σ' μ' (by omega) hO' hI' hM'
        · rw [e3]
          refine r_tableIn (pc := 33) (tgt := 513) (off := 480) dL_law_33 (by decide) (by decide) (by decide) (by decide) ?_
          refine law_c12 hL (by omega) hI hM hO (fun σ' μ' hO' hI' hM' => ?_)
          refine rn_iinc (pc := 920) (b := 6) (ls' := [(0, .ref 1002), (1, .ref 0), (2, .ref 40), (3, .int (nI (i + 6)))]) dL_law_920 rfl (by decide) (Nat.le_of_ble_eq_true rfl) rfl ?_
          refine r_goto (pc := 923) (tgt := 18) dL_law_923 (by decide) ?_
          exact ih (k - 6) (by omega) (i + 6) σ' μ' (by omega) hO' hI' hM'
        · rw [e3]
          refine r_tableIn (pc := 33) (tgt := 536) (off := 503) dL_law_33 (by decide) (by decide) (by decide) (by decide) ?_
          refine law_c13 hL (by omega) hI hM hO (fun σ' μ' hO' hI' hM' => ?_)
          refine rn_iinc (pc := 920) (b := 6) (ls' := [(0, .ref 1002), (1, .ref 0), (2, .ref 40), (3, .int (nI (i + 6)))]) dL_law_920 rfl (by decide) (Nat.le_of_ble_eq_true rfl) rfl ?_
          refine r_goto (pc := 923) (tgt := 18) dL_law_923 (by decide) ?_
          exact ih (k - 6) (by omega) (i + 6) σ' μ' (by omega) hO' hI' hM'
        · rw [e3]
          refine r_tableIn (pc := 33) (tgt := 559) (off := 526) dL_law_33 (by decide) (by decide) (by decide) (by decide) ?_
          refine law_c14 hL (by omega) hI hM hO (fun σ' μ' hO' hI' hM' => ?_)
          refine rn_iinc (pc := 920) (b := 6) (ls' := [(0, .ref 1002), (1, .ref 0), (2, .ref 40), (3, .int (nI (i + 6)))]) dL_law_920 rfl (by decide) (Nat.le_of_ble_eq_true rfl) rfl ?_
          refine r_goto (pc := 923) (tgt := 18) dL_law_923 (by decide) ?_
          exact ih (k - 6) (by omega) (i + 6) σ' μ' (by omega) hO' hI' hM'
        · rw [e3]
          refine r_tableIn (pc := 33) (tgt := 572) (off := 539) dL_law_33 (by decide) (by decide) (by decide) (by decide) ?_
          refine law_c15 hL (by omega) hI hM hO (fun σ' μ' hO' hI' hM' => ?_)
          refine rn_iinc (pc := 920) (b := 6) (ls' := [(0, .ref 1002), (1, .ref 0), (2, .ref 40), (3, .int (nI (i + 6)))]) dL_law_920 rfl (by decide) (Nat.le_of_ble_eq_true rfl) rfl ?_
          refine r_goto (pc := 923) (tgt := 18) dL_law_923 (by decide) ?_
          exact ih (k - 6) (by omega) (i + 6) σ' μ' (by omega) hO' hI' hM'
        · rw [e3]
          refine r_tableIn (pc := 33) (tgt := 585) (off := 552) dL_law_33 (by decide) (by decide) (by decide) (by decide) ?_
          refine law_c16 hL (by omega) hI hM hO (fun σ' μ' hO' hI' hM' => ?_)
          refine rn_iinc (pc := 920) (b := 6) (ls' := [(0, .ref 1002), (1, .ref 0), (2, .ref 40), (3, .int (nI (i + 6)))]) dL_law_920 rfl (by decide) (Nat.le_of_ble_eq_true rfl) rfl ?_
          refine r_goto (pc := 923) (tgt := 18) dL_law_923 (by decide) ?_
          exact ih (k - 6) (by omega) (i + 6) σ' μ' (by omega) hO' hI' hM'
        · rw [e3]
          refine r_tableIn (pc := 33) (tgt := 608) (off := 575) dL_law_33 (by decide) (by decide) (by decide) (by decide) ?_
          refine law_c17 hL (by omega) hI hM hO (fun σ' μ' hO' hI' hM' => ?_)
          refine rn_iinc (pc := 920) (b := 6) (ls' := [(0, .ref 1002), (1, .ref 0), (2, .ref 40), (3, .int (nI (i + 6)))]) dL_law_920 rfl (by decide) (Nat.le_of_ble_eq_true rfl) rfl ?_
          refine r_goto (pc := 923) (tgt := 18) dL_law_923 (by decide) ?_
          exact ih (k - 6) (by omega) (i + 6) σ' μ' (by omega) hO' hI' hM'
        · rw [e3]
          refine r_tableIn (pc := 33) (tgt := 621) (off := 588) dL_law_33 (by decide) (by decide) (by decide) (by decide) ?_
          refine law_c18 hL (by omega) hI hM hO (fun σ' μ' hO' hI' hM' => ?_)
          refine rn_iinc (pc := 920) (b := 6) (ls' := [(0, .ref 1002), (1, .ref 0), (2, .ref 40), (3, .int (nI (i + 6)))]) dL_law_920 rfl (by decide) (Nat.le_of_ble_eq_true rfl) rfl ?_
          refine r_goto (pc := 923) (tgt := 18) dL_law_923 (by decide) ?_
          exact ih (k - 6) (by omega) (i + 6) σ' μ' (by omega) hO' hI' hM'
        · rw [e3]
          refine r_tableIn (pc := 33) (tgt := 665) (off := 632) dL_law_33 (by decide) (by decide) (by decide) (by decide) ?_
          refine law_c19 hL (by omega) hI hM hO (fun σ' μ' hO' hI' hM' => ?_)
          refine rn_iinc (pc := 920) (b := 6) (ls' := [(0, .ref 1002), (1, .ref 0), (2, .ref 40), (3, .int (nI (i + 6)))]) dL_law_920 rfl (by decide) (Nat.le_of_ble_eq_true rfl) rfl ?_
          refine r_goto (pc := 923) (tgt := 18) dL_law_923 (by decide) ?_
          exact ih (k - 6) (by omega) (i + 6) σ' μ' (by omega) hO' hI' hM'
        · rw [e3]
          refine r_tableIn (pc := 33) (tgt := 719) (off := 686) dL_law_33 (by decide) (by decide) (by decide) (by decide) ?_
          refine law_c20 hL (by omega) hI hM hO (fun σ' μ' hO' hI' hM' => ?_)
          refine rn_iinc (pc := 920) (b := 6) (ls' := [(0, .ref 1002), (1, .ref 0), (2, .ref 40), (3, .int (nI (i + 6)))]) dL_law_920 rfl (by decide) (Nat.le_of_ble_eq_true rfl) rfl ?_
          refine r_goto (pc := 923) (tgt := 18) dL_law_923 (by decide) ?_
          exact ih (k - 6) (by omega) (i + 6) σ' μ' (by omega) hO' hI' hM'
        · rw [e3]
          refine r_tableIn (pc := 33) (tgt := 742) (off := 709) dL_law_33 (by decide) (by decide) (by decide) (by decide) ?_
          refine law_c21 hL (by omega) hI hM hO (fun σ' μ' hO' hI' hM' => ?_)
          refine rn_iinc (pc := 920) (b := 6) (ls' := [(0, .ref 1002), (1, .ref 0), (2, .ref 40), (3, .int (nI (i + 6)))]) dL_law_920 rfl (by decide) (Nat.le_of_ble_eq_true rfl) rfl ?_
          refine r_goto (pc := 923) (tgt := 18) dL_law_923 (by decide) ?_
          exact ih (k - 6) (by omega) (i + 6) σ' μ' (by omega) hO' hI' hM'
        · rw [e3]
          refine r_tableIn (pc := 33) (tgt := 755) (off := 722) dL_law_33 (by decide) (by decide) (by decide) (by decide) ?_
          refine law_c22 hL (by omega) hI hM hO (fun σ' μ' hO' hI' hM' => ?_)
          refine rn_iinc (pc := 920) (b := 6) (ls' := [(0, .ref 1002), (1, .ref 0), (2, .ref 40), (3, .int (nI (i + 6)))]) dL_law_920 rfl (by decide) (Nat.le_of_ble_eq_true rfl) rfl ?_
          refine r_goto (pc := 923) (tgt := 18) dL_law_923 (by decide) ?_
          exact ih (k - 6) (by omega) (i + 6) σ' μ' (by omega) hO' hI' hM'
        · rw [e3]
          refine r_tableIn (pc := 33) (tgt := 788) (off := 755) dL_law_33 (by decide) (by decide) (by decide) (by decide) ?_
          refine law_c23 hL (by omega) hI hM hO (fun σ' μ' hO' hI' hM' => ?_)
          refine rn_iinc (pc := 920) (b := 6) (ls' := [(0, .ref 1002), (1, .ref 0), (2, .ref 40), (3, .int (nI (i + 6)))]) dL_law_920 rfl (by decide) (Nat.le_of_ble_eq_true rfl) rfl ?_
          refine r_goto (pc := 923) (tgt := 18) dL_law_923 (by decide) ?_
          exact ih (k - 6) (by omega) (i + 6) σ' μ' (by omega) hO' hI' hM'
        · rw [e3]
          refine r_tableIn (pc := 33) (tgt := 811) (off := 778) dL_law_33 (by decide) (by decide) (by decide) (by decide) ?_
          refine law_c24 hL (by omega) hI hM hO (fun σ' μ' hO' hI' hM' => ?_)
          refine rn_iinc (pc := 920) (b := 6) (ls' := [(0, .ref 1002), (1, .ref 0), (2, .ref 40), (3, .int (nI (i + 6)))]) dL_law_920 rfl (by decide) (Nat.le_of_ble_eq_true rfl) rfl ?_
          refine r_goto (pc := 923) (tgt := 18) dL_law_923 (by decide) ?_
          exact ih (k - 6) (by omega) (i + 6) σ' μ' (by omega) hO' hI' hM'
        · rw [e3]
          refine r_tableIn (pc := 33) (tgt := 874) (off := 841) dL_law_33 (by decide) (by decide) (by decide) (by decide) ?_
          refine law_c25 hL (by omega) hI hM hO (fun σ' μ' hO' hI' hM' => ?_)
          refine rn_iinc (pc := 920) (b := 6) (ls' := [(0, .ref 1002), (1, .ref 0), (2, .ref 40), (3, .int (nI (i + 6)))]) dL_law_920 rfl (by decide) (Nat.le_of_ble_eq_true rfl) rfl ?_
          refine r_goto (pc := 923) (tgt := 18) dL_law_923 (by decide) ?_
          exact ih (k - 6) (by omega) (i + 6) σ' μ' (by omega) hO' hI' hM'
        · rw [e3]
          refine r_tableIn (pc := 33) (tgt := 897) (off := 864) dL_law_33 (by decide) (by decide) (by decide) (by decide) ?_
          refine law_c26 hL (by omega) hI hM hO (fun σ' μ' hO' hI' hM' => ?_)
          refine rn_iinc (pc := 920) (b := 6) (ls' := [(0, .ref 1002), (1, .ref 0), (2, .ref 40), (3, .int (nI (i + 6)))]) dL_law_920 rfl (by decide) (Nat.le_of_ble_eq_true rfl) rfl ?_
          refine r_goto (pc := 923) (tgt := 18) dL_law_923 (by decide) ?_
          exact ih (k - 6) (by omega) (i + 6) σ' μ' (by omega) hO' hI' hM'
