/-! the law, a call at a time -/
set_option maxRecDepth 100000 in
set_option maxHeartbeats 4000000 in
theorem law_c0 {K : vK} {l : Launch} {D : va_G} {C : Nat → ClassId} {x0 m0 : Nat} {ax : (Nat → Nat) × (Nat → Nat) × (Nat → Nat)} {am : Nat → Nat} {b L i : Nat} {xs : Nat → Int32} (hKl : K.1.1.2.1 = l) (hE : eV K (gL D C x0 ax m0 am) cL_law 4 RL wsL_law room_1) (hC : scrA K b L xs) (hi : i + 3 < L) (hL : L ≤ 2048) {u : XS} {w : MS} (h : Rel u w) (hk : ∀ (u : XS) (w : MS), Rel u w → vV K (gL D C x0 ax m0 am) (u, w) [(3, .int (nI i)), (2, .ref m0), (1, .ref x0), (0, .ref b)] [] 889) : vV K (gL D C x0 ax m0 am) (u, w) [(3, .int (nI i)), (2, .ref m0), (1, .ref x0), (0, .ref b)] [] 160 := by
  subst hKl
  refine v_aload_n 161 hE dL_law_160 rfl rfl ?_
  refine v_aload_n 162 hE dL_law_161 rfl rfl ?_
  refine v_iload_n 163 hE dL_law_162 rfl rfl ?_
  refine v_iconst 164 hE (v := nI 1) dL_law_163 (by decide) rfl ?_
  refine v_iaddN 165 hE dL_law_164 rfl ?_
  refine v_sld 166 hE hC (i := i + 1) (by omega) (by omega) dL_law_165 rfl ?_
  refine v_ci 169 hE (sub_x hE) (v_runV 1 hE (sub_x hE) (kX4_reset _ (yZ D C x0 ax) u _ h.1) gL_law_X4_reset rfl (by decide +kernel) rfl (q0 := 0) rfl rfl ⟨rfl, rfl, Nat.le_of_ble_eq_true rfl, Nat.le_of_ble_eq_true rfl⟩ rfl (Nat.le_of_ble_eq_true rfl) dL_law_166) (back_x hE _) rfl ?_
  refine v_aload_n 170 hE dL_law_169 rfl rfl ?_
  refine v_aload_n 171 hE dL_law_170 rfl rfl ?_
  refine v_iload_n 172 hE dL_law_171 rfl rfl ?_
  refine v_iconst 173 hE (v := nI 1) dL_law_172 (by decide) rfl ?_
  refine v_iaddN 174 hE dL_law_173 rfl ?_
  refine v_sld 175 hE hC (i := i + 1) (by omega) (by omega) dL_law_174 rfl ?_
  refine v_ci 178 hE (sub_m hE) (v_runV 1 hE (sub_m hE) (kX5_reset _ (yM D C m0 am) w _ h.2.1) gL_law_X5_reset rfl (by decide +kernel) rfl (q0 := 0) rfl rfl ⟨rfl, rfl, Nat.le_of_ble_eq_true rfl, Nat.le_of_ble_eq_true rfl⟩ rfl (Nat.le_of_ble_eq_true rfl) dL_law_175) (back_m hE _) rfl ?_
  refine v_ic_eq 181 hE 889 dL_law_178 (by decide) rfl (fun _ => ?_) (fun e => absurd (op_reset h (xs (i + 1))).1 e)
  exact hk _ _ (op_reset h (xs (i + 1))).2
set_option maxRecDepth 100000 in
set_option maxHeartbeats 4000000 in
theorem law_c1 {K : vK} {l : Launch} {D : va_G} {C : Nat → ClassId} {x0 m0 : Nat} {ax : (Nat → Nat) × (Nat → Nat) × (Nat → Nat)} {am : Nat → Nat} {b L i : Nat} {xs : Nat → Int32} (hKl : K.1.1.2.1 = l) (hE : eV K (gL D C x0 ax m0 am) cL_law 4 RL wsL_law room_1) (hC : scrA K b L xs) (hi : i + 3 < L) (hL : L ≤ 2048) {u : XS} {w : MS} (h : Rel u w) (hk : ∀ (u : XS) (w : MS), Rel u w → vV K (gL D C x0 ax m0 am) (u, w) [(3, .int (nI i)), (2, .ref m0), (1, .ref x0), (0, .ref b)] [] 889) : vV K (gL D C x0 ax m0 am) (u, w) [(3, .int (nI i)), (2, .ref m0), (1, .ref x0), (0, .ref b)] [] 183 := by
  subst hKl
  refine v_aload_n 184 hE dL_law_183 rfl rfl ?_
  refine v_aload_n 185 hE dL_law_184 rfl rfl ?_
  refine v_iload_n 186 hE dL_law_185 rfl rfl ?_
  refine v_iconst 187 hE (v := nI 1) dL_law_186 (by decide) rfl ?_
  refine v_iaddN 188 hE dL_law_187 rfl ?_
  refine v_sld 189 hE hC (i := i + 1) (by omega) (by omega) dL_law_188 rfl ?_
  refine v_aload_n 190 hE dL_law_189 rfl rfl ?_
  refine v_iload_n 191 hE dL_law_190 rfl rfl ?_
  refine v_iconst 192 hE (v := nI 2) dL_law_191 (by decide) rfl ?_
  refine v_iaddN 193 hE dL_law_192 rfl ?_
  refine v_sld 194 hE hC (i := i + 2) (by omega) (by omega) dL_law_193 rfl ?_
  refine v_aload_n 195 hE dL_law_194 rfl rfl ?_
  refine v_iload_n 196 hE dL_law_195 rfl rfl ?_
  refine v_iconst 197 hE (v := nI 3) dL_law_196 (by decide) rfl ?_
  refine v_iaddN 198 hE dL_law_197 rfl ?_
  refine v_sld 199 hE hC (i := i + 3) (by omega) (by omega) dL_law_198 rfl ?_
  refine v_ci 202 hE (sub_x hE) (v_runV 3 hE (sub_x hE) (kX4_addLink _ (yZ D C x0 ax) u _ _ _ h.1) gL_law_X4_addLink rfl (by decide +kernel) rfl (q0 := 0) rfl rfl ⟨rfl, rfl, Nat.le_of_ble_eq_true rfl, Nat.le_of_ble_eq_true rfl⟩ rfl (Nat.le_of_ble_eq_true rfl) dL_law_199) (back_x hE _) rfl ?_
  refine v_aload_n 203 hE dL_law_202 rfl rfl ?_
  refine v_aload_n 204 hE dL_law_203 rfl rfl ?_
  refine v_iload_n 205 hE dL_law_204 rfl rfl ?_
  refine v_iconst 206 hE (v := nI 1) dL_law_205 (by decide) rfl ?_
  refine v_iaddN 207 hE dL_law_206 rfl ?_
  refine v_sld 208 hE hC (i := i + 1) (by omega) (by omega) dL_law_207 rfl ?_
  refine v_aload_n 209 hE dL_law_208 rfl rfl ?_
  refine v_iload_n 210 hE dL_law_209 rfl rfl ?_
  refine v_iconst 211 hE (v := nI 2) dL_law_210 (by decide) rfl ?_
  refine v_iaddN 212 hE dL_law_211 rfl ?_
  refine v_sld 213 hE hC (i := i + 2) (by omega) (by omega) dL_law_212 rfl ?_
  refine v_aload_n 214 hE dL_law_213 rfl rfl ?_
  refine v_iload_n 215 hE dL_law_214 rfl rfl ?_
  refine v_iconst 216 hE (v := nI 3) dL_law_215 (by decide) rfl ?_
  refine v_iaddN 217 hE dL_law_216 rfl ?_
  refine v_sld 218 hE hC (i := i + 3) (by omega) (by omega) dL_law_217 rfl ?_
  refine v_ci 221 hE (sub_m hE) (v_runV 3 hE (sub_m hE) (kX5_addLink _ (yM D C m0 am) w _ _ _ h.2.1) gL_law_X5_addLink rfl (by decide +kernel) rfl (q0 := 0) rfl rfl ⟨rfl, rfl, Nat.le_of_ble_eq_true rfl, Nat.le_of_ble_eq_true rfl⟩ rfl (Nat.le_of_ble_eq_true rfl) dL_law_218) (back_m hE _) rfl ?_
  refine v_ic_eq 224 hE 889 dL_law_221 (by decide) rfl (fun _ => ?_) (fun e => absurd (op_add h (xs (i + 1)) (xs (i + 2)) (xs (i + 3))).1 e)
  exact hk _ _ (op_add h (xs (i + 1)) (xs (i + 2)) (xs (i + 3))).2
set_option maxRecDepth 100000 in
set_option maxHeartbeats 4000000 in
theorem law_c2 {K : vK} {l : Launch} {D : va_G} {C : Nat → ClassId} {x0 m0 : Nat} {ax : (Nat → Nat) × (Nat → Nat) × (Nat → Nat)} {am : Nat → Nat} {b L i : Nat} {xs : Nat → Int32} (hKl : K.1.1.2.1 = l) (hE : eV K (gL D C x0 ax m0 am) cL_law 4 RL wsL_law room_1) (hC : scrA K b L xs) (hi : i + 3 < L) (hL : L ≤ 2048) {u : XS} {w : MS} (h : Rel u w) (hk : ∀ (u : XS) (w : MS), Rel u w → vV K (gL D C x0 ax m0 am) (u, w) [(3, .int (nI i)), (2, .ref m0), (1, .ref x0), (0, .ref b)] [] 889) : vV K (gL D C x0 ax m0 am) (u, w) [(3, .int (nI i)), (2, .ref m0), (1, .ref x0), (0, .ref b)] [] 226 := by
  subst hKl
  refine v_aload_n 227 hE dL_law_226 rfl rfl ?_
  refine v_aload_n 228 hE dL_law_227 rfl rfl ?_
  refine v_iload_n 229 hE dL_law_228 rfl rfl ?_
  refine v_iconst 230 hE (v := nI 1) dL_law_229 (by decide) rfl ?_
  refine v_iaddN 231 hE dL_law_230 rfl ?_
  refine v_sld 232 hE hC (i := i + 1) (by omega) (by omega) dL_law_231 rfl ?_
  refine v_aload_n 233 hE dL_law_232 rfl rfl ?_
  refine v_iload_n 234 hE dL_law_233 rfl rfl ?_
  refine v_iconst 235 hE (v := nI 2) dL_law_234 (by decide) rfl ?_
  refine v_iaddN 236 hE dL_law_235 rfl ?_
  refine v_sld 237 hE hC (i := i + 2) (by omega) (by omega) dL_law_236 rfl ?_
  refine v_ci 240 hE (sub_x hE) (v_runV 2 hE (sub_x hE) (kX4_setMetric _ (yZ D C x0 ax) u _ _ h.1) gL_law_X4_setMetric rfl (by decide +kernel) rfl (q0 := 0) rfl rfl ⟨rfl, rfl, Nat.le_of_ble_eq_true rfl, Nat.le_of_ble_eq_true rfl⟩ rfl (Nat.le_of_ble_eq_true rfl) dL_law_237) (back_x hE _) rfl ?_
  refine v_aload_n 241 hE dL_law_240 rfl rfl ?_
  refine v_aload_n 242 hE dL_law_241 rfl rfl ?_
  refine v_iload_n 243 hE dL_law_242 rfl rfl ?_
  refine v_iconst 244 hE (v := nI 1) dL_law_243 (by decide) rfl ?_
  refine v_iaddN 245 hE dL_law_244 rfl ?_
  refine v_sld 246 hE hC (i := i + 1) (by omega) (by omega) dL_law_245 rfl ?_
  refine v_aload_n 247 hE dL_law_246 rfl rfl ?_
  refine v_iload_n 248 hE dL_law_247 rfl rfl ?_
  refine v_iconst 249 hE (v := nI 2) dL_law_248 (by decide) rfl ?_
  refine v_iaddN 250 hE dL_law_249 rfl ?_
  refine v_sld 251 hE hC (i := i + 2) (by omega) (by omega) dL_law_250 rfl ?_
  refine v_ci 254 hE (sub_m hE) (v_runV 2 hE (sub_m hE) (kX5_setMetric _ (yM D C m0 am) w _ _ h.2.1) gL_law_X5_setMetric rfl (by decide +kernel) rfl (q0 := 0) rfl rfl ⟨rfl, rfl, Nat.le_of_ble_eq_true rfl, Nat.le_of_ble_eq_true rfl⟩ rfl (Nat.le_of_ble_eq_true rfl) dL_law_251) (back_m hE _) rfl ?_
  refine v_ic_eq 257 hE 889 dL_law_254 (by decide) rfl (fun _ => ?_) (fun e => absurd (op_met h (xs (i + 1)) (xs (i + 2))).1 e)
  exact hk _ _ (op_met h (xs (i + 1)) (xs (i + 2))).2
set_option maxRecDepth 100000 in
set_option maxHeartbeats 4000000 in
theorem law_c3 {K : vK} {l : Launch} {D : va_G} {C : Nat → ClassId} {x0 m0 : Nat} {ax : (Nat → Nat) × (Nat → Nat) × (Nat → Nat)} {am : Nat → Nat} {b L i : Nat} {xs : Nat → Int32} (hKl : K.1.1.2.1 = l) (hE : eV K (gL D C x0 ax m0 am) cL_law 4 RL wsL_law room_1) (hC : scrA K b L xs) (hi : i + 3 < L) (hL : L ≤ 2048) {u : XS} {w : MS} (h : Rel u w) (hk : ∀ (u : XS) (w : MS), Rel u w → vV K (gL D C x0 ax m0 am) (u, w) [(3, .int (nI i)), (2, .ref m0), (1, .ref x0), (0, .ref b)] [] 889) : vV K (gL D C x0 ax m0 am) (u, w) [(3, .int (nI i)), (2, .ref m0), (1, .ref x0), (0, .ref b)] [] 259 := by
  subst hKl
  refine v_aload_n 260 hE dL_law_259 rfl rfl ?_
  refine v_aload_n 261 hE dL_law_260 rfl rfl ?_
  refine v_iload_n 262 hE dL_law_261 rfl rfl ?_
  refine v_iconst 263 hE (v := nI 1) dL_law_262 (by decide) rfl ?_
  refine v_iaddN 264 hE dL_law_263 rfl ?_
  refine v_sld 265 hE hC (i := i + 1) (by omega) (by omega) dL_law_264 rfl ?_
  refine v_aload_n 266 hE dL_law_265 rfl rfl ?_
  refine v_iload_n 267 hE dL_law_266 rfl rfl ?_
  refine v_iconst 268 hE (v := nI 2) dL_law_267 (by decide) rfl ?_
  refine v_iaddN 269 hE dL_law_268 rfl ?_
  refine v_sld 270 hE hC (i := i + 2) (by omega) (by omega) dL_law_269 rfl ?_
  refine v_ci 273 hE (sub_x hE) (v_runV 2 hE (sub_x hE) (kX4_routeLength _ (yZ D C x0 ax) u _ _ h.1) gL_law_X4_routeLength rfl (by decide +kernel) rfl (q0 := 0) rfl rfl ⟨rfl, rfl, Nat.le_of_ble_eq_true rfl, Nat.le_of_ble_eq_true rfl⟩ rfl (Nat.le_of_ble_eq_true rfl) dL_law_270) (back_x hE _) rfl ?_
  refine v_aload_n 274 hE dL_law_273 rfl rfl ?_
  refine v_aload_n 275 hE dL_law_274 rfl rfl ?_
  refine v_iload_n 276 hE dL_law_275 rfl rfl ?_
  refine v_iconst 277 hE (v := nI 1) dL_law_276 (by decide) rfl ?_
  refine v_iaddN 278 hE dL_law_277 rfl ?_
  refine v_sld 279 hE hC (i := i + 1) (by omega) (by omega) dL_law_278 rfl ?_
  refine v_aload_n 280 hE dL_law_279 rfl rfl ?_
  refine v_iload_n 281 hE dL_law_280 rfl rfl ?_
  refine v_iconst 282 hE (v := nI 2) dL_law_281 (by decide) rfl ?_
  refine v_iaddN 283 hE dL_law_282 rfl ?_
  refine v_sld 284 hE hC (i := i + 2) (by omega) (by omega) dL_law_283 rfl ?_
  refine v_ci 287 hE (sub_m hE) (v_runV 2 hE (sub_m hE) (kX5_routeLength _ (yM D C m0 am) w _ _ h.2.1) gL_law_X5_routeLength rfl (by decide +kernel) rfl (q0 := 0) rfl rfl ⟨rfl, rfl, Nat.le_of_ble_eq_true rfl, Nat.le_of_ble_eq_true rfl⟩ rfl (Nat.le_of_ble_eq_true rfl) dL_law_284) (back_m hE _) rfl ?_
  refine v_ic_eq 290 hE 889 dL_law_287 (by decide) rfl (fun _ => ?_) (fun e => absurd (op_rlen h (xs (i + 1)) (xs (i + 2))).1 e)
  exact hk _ _ (op_rlen h (xs (i + 1)) (xs (i + 2))).2
set_option maxRecDepth 100000 in
set_option maxHeartbeats 4000000 in
theorem law_c4 {K : vK} {l : Launch} {D : va_G} {C : Nat → ClassId} {x0 m0 : Nat} {ax : (Nat → Nat) × (Nat → Nat) × (Nat → Nat)} {am : Nat → Nat} {b L i : Nat} {xs : Nat → Int32} (hKl : K.1.1.2.1 = l) (hE : eV K (gL D C x0 ax m0 am) cL_law 4 RL wsL_law room_1) (hC : scrA K b L xs) (hi : i + 3 < L) (hL : L ≤ 2048) {u : XS} {w : MS} (h : Rel u w) (hk : ∀ (u : XS) (w : MS), Rel u w → vV K (gL D C x0 ax m0 am) (u, w) [(3, .int (nI i)), (2, .ref m0), (1, .ref x0), (0, .ref b)] [] 889) : vV K (gL D C x0 ax m0 am) (u, w) [(3, .int (nI i)), (2, .ref m0), (1, .ref x0), (0, .ref b)] [] 292 := by
  subst hKl
  refine v_aload_n 293 hE dL_law_292 rfl rfl ?_
  refine v_aload_n 294 hE dL_law_293 rfl rfl ?_
  refine v_iload_n 295 hE dL_law_294 rfl rfl ?_
  refine v_iconst 296 hE (v := nI 1) dL_law_295 (by decide) rfl ?_
  refine v_iaddN 297 hE dL_law_296 rfl ?_
  refine v_sld 298 hE hC (i := i + 1) (by omega) (by omega) dL_law_297 rfl ?_
  refine v_aload_n 299 hE dL_law_298 rfl rfl ?_
  refine v_iload_n 300 hE dL_law_299 rfl rfl ?_
  refine v_iconst 301 hE (v := nI 2) dL_law_300 (by decide) rfl ?_
  refine v_iaddN 302 hE dL_law_301 rfl ?_
  refine v_sld 303 hE hC (i := i + 2) (by omega) (by omega) dL_law_302 rfl ?_
  refine v_aload_n 304 hE dL_law_303 rfl rfl ?_
  refine v_iload_n 305 hE dL_law_304 rfl rfl ?_
  refine v_iconst 306 hE (v := nI 3) dL_law_305 (by decide) rfl ?_
  refine v_iaddN 307 hE dL_law_306 rfl ?_
  refine v_sld 308 hE hC (i := i + 3) (by omega) (by omega) dL_law_307 rfl ?_
  refine v_ci 311 hE (sub_x hE) (v_runV 3 hE (sub_x hE) (kX4_routeLink _ (yZ D C x0 ax) u _ _ _ h.1) gL_law_X4_routeLink rfl (by decide +kernel) rfl (q0 := 0) rfl rfl ⟨rfl, rfl, Nat.le_of_ble_eq_true rfl, Nat.le_of_ble_eq_true rfl⟩ rfl (Nat.le_of_ble_eq_true rfl) dL_law_308) (back_x hE _) rfl ?_
  refine v_aload_n 312 hE dL_law_311 rfl rfl ?_
  refine v_aload_n 313 hE dL_law_312 rfl rfl ?_
  refine v_iload_n 314 hE dL_law_313 rfl rfl ?_
  refine v_iconst 315 hE (v := nI 1) dL_law_314 (by decide) rfl ?_
  refine v_iaddN 316 hE dL_law_315 rfl ?_
  refine v_sld 317 hE hC (i := i + 1) (by omega) (by omega) dL_law_316 rfl ?_
  refine v_aload_n 318 hE dL_law_317 rfl rfl ?_
  refine v_iload_n 319 hE dL_law_318 rfl rfl ?_
  refine v_iconst 320 hE (v := nI 2) dL_law_319 (by decide) rfl ?_
  refine v_iaddN 321 hE dL_law_320 rfl ?_
  refine v_sld 322 hE hC (i := i + 2) (by omega) (by omega) dL_law_321 rfl ?_
  refine v_aload_n 323 hE dL_law_322 rfl rfl ?_
  refine v_iload_n 324 hE dL_law_323 rfl rfl ?_
  refine v_iconst 325 hE (v := nI 3) dL_law_324 (by decide) rfl ?_
  refine v_iaddN 326 hE dL_law_325 rfl ?_
  refine v_sld 327 hE hC (i := i + 3) (by omega) (by omega) dL_law_326 rfl ?_
  refine v_ci 330 hE (sub_m hE) (v_runV 3 hE (sub_m hE) (kX5_routeLink _ (yM D C m0 am) w _ _ _ h.2.1) gL_law_X5_routeLink rfl (by decide +kernel) rfl (q0 := 0) rfl rfl ⟨rfl, rfl, Nat.le_of_ble_eq_true rfl, Nat.le_of_ble_eq_true rfl⟩ rfl (Nat.le_of_ble_eq_true rfl) dL_law_327) (back_m hE _) rfl ?_
  refine v_ic_eq 333 hE 889 dL_law_330 (by decide) rfl (fun _ => ?_) (fun e => absurd (op_rlink h (xs (i + 1)) (xs (i + 2)) (xs (i + 3))).1 e)
  exact hk _ _ (op_rlink h (xs (i + 1)) (xs (i + 2)) (xs (i + 3))).2
set_option maxRecDepth 100000 in
set_option maxHeartbeats 4000000 in
theorem law_c5 {K : vK} {l : Launch} {D : va_G} {C : Nat → ClassId} {x0 m0 : Nat} {ax : (Nat → Nat) × (Nat → Nat) × (Nat → Nat)} {am : Nat → Nat} {b L i : Nat} {xs : Nat → Int32} (hKl : K.1.1.2.1 = l) (hE : eV K (gL D C x0 ax m0 am) cL_law 4 RL wsL_law room_1) (hC : scrA K b L xs) (hi : i + 3 < L) (hL : L ≤ 2048) {u : XS} {w : MS} (h : Rel u w) (hk : ∀ (u : XS) (w : MS), Rel u w → vV K (gL D C x0 ax m0 am) (u, w) [(3, .int (nI i)), (2, .ref m0), (1, .ref x0), (0, .ref b)] [] 889) : vV K (gL D C x0 ax m0 am) (u, w) [(3, .int (nI i)), (2, .ref m0), (1, .ref x0), (0, .ref b)] [] 335 := by
  subst hKl
  refine v_aload_n 336 hE dL_law_335 rfl rfl ?_
  refine v_aload_n 337 hE dL_law_336 rfl rfl ?_
  refine v_iload_n 338 hE dL_law_337 rfl rfl ?_
  refine v_iconst 339 hE (v := nI 1) dL_law_338 (by decide) rfl ?_
  refine v_iaddN 340 hE dL_law_339 rfl ?_
  refine v_sld 341 hE hC (i := i + 1) (by omega) (by omega) dL_law_340 rfl ?_
  refine v_aload_n 342 hE dL_law_341 rfl rfl ?_
  refine v_iload_n 343 hE dL_law_342 rfl rfl ?_
  refine v_iconst 344 hE (v := nI 2) dL_law_343 (by decide) rfl ?_
  refine v_iaddN 345 hE dL_law_344 rfl ?_
  refine v_sld 346 hE hC (i := i + 2) (by omega) (by omega) dL_law_345 rfl ?_
  refine v_aload_n 347 hE dL_law_346 rfl rfl ?_
  refine v_iload_n 348 hE dL_law_347 rfl rfl ?_
  refine v_iconst 349 hE (v := nI 3) dL_law_348 (by decide) rfl ?_
  refine v_iaddN 350 hE dL_law_349 rfl ?_
  refine v_sld 351 hE hC (i := i + 3) (by omega) (by omega) dL_law_350 rfl ?_
  refine v_ci 354 hE (sub_x hE) (v_runV 3 hE (sub_x hE) (kX4_setDemand _ (yZ D C x0 ax) u _ _ _ h.1) gL_law_X4_setDemand rfl (by decide +kernel) rfl (q0 := 0) rfl rfl ⟨rfl, rfl, Nat.le_of_ble_eq_true rfl, Nat.le_of_ble_eq_true rfl⟩ rfl (Nat.le_of_ble_eq_true rfl) dL_law_351) (back_x hE _) rfl ?_
  refine v_aload_n 355 hE dL_law_354 rfl rfl ?_
  refine v_aload_n 356 hE dL_law_355 rfl rfl ?_
  refine v_iload_n 357 hE dL_law_356 rfl rfl ?_
  refine v_iconst 358 hE (v := nI 1) dL_law_357 (by decide) rfl ?_
  refine v_iaddN 359 hE dL_law_358 rfl ?_
  refine v_sld 360 hE hC (i := i + 1) (by omega) (by omega) dL_law_359 rfl ?_
  refine v_aload_n 361 hE dL_law_360 rfl rfl ?_
  refine v_iload_n 362 hE dL_law_361 rfl rfl ?_
  refine v_iconst 363 hE (v := nI 2) dL_law_362 (by decide) rfl ?_
  refine v_iaddN 364 hE dL_law_363 rfl ?_
  refine v_sld 365 hE hC (i := i + 2) (by omega) (by omega) dL_law_364 rfl ?_
  refine v_aload_n 366 hE dL_law_365 rfl rfl ?_
  refine v_iload_n 367 hE dL_law_366 rfl rfl ?_
  refine v_iconst 368 hE (v := nI 3) dL_law_367 (by decide) rfl ?_
  refine v_iaddN 369 hE dL_law_368 rfl ?_
  refine v_sld 370 hE hC (i := i + 3) (by omega) (by omega) dL_law_369 rfl ?_
  refine v_ci 373 hE (sub_m hE) (v_runV 3 hE (sub_m hE) (kX5_setDemand _ (yM D C m0 am) w _ _ _ h.2.1) gL_law_X5_setDemand rfl (by decide +kernel) rfl (q0 := 0) rfl rfl ⟨rfl, rfl, Nat.le_of_ble_eq_true rfl, Nat.le_of_ble_eq_true rfl⟩ rfl (Nat.le_of_ble_eq_true rfl) dL_law_370) (back_m hE _) rfl ?_
  refine v_ic_eq 376 hE 889 dL_law_373 (by decide) rfl (fun _ => ?_) (fun e => absurd (op_dem h (xs (i + 1)) (xs (i + 2)) (xs (i + 3))).1 e)
  exact hk _ _ (op_dem h (xs (i + 1)) (xs (i + 2)) (xs (i + 3))).2
set_option maxRecDepth 100000 in
set_option maxHeartbeats 4000000 in
theorem law_c6 {K : vK} {l : Launch} {D : va_G} {C : Nat → ClassId} {x0 m0 : Nat} {ax : (Nat → Nat) × (Nat → Nat) × (Nat → Nat)} {am : Nat → Nat} {b L i : Nat} {xs : Nat → Int32} (hKl : K.1.1.2.1 = l) (hE : eV K (gL D C x0 ax m0 am) cL_law 4 RL wsL_law room_1) (hC : scrA K b L xs) (hi : i + 3 < L) (hL : L ≤ 2048) {u : XS} {w : MS} (h : Rel u w) (hk : ∀ (u : XS) (w : MS), Rel u w → vV K (gL D C x0 ax m0 am) (u, w) [(3, .int (nI i)), (2, .ref m0), (1, .ref x0), (0, .ref b)] [] 889) : vV K (gL D C x0 ax m0 am) (u, w) [(3, .int (nI i)), (2, .ref m0), (1, .ref x0), (0, .ref b)] [] 378 := by
  subst hKl
  refine v_aload_n 379 hE dL_law_378 rfl rfl ?_
  refine v_aload_n 380 hE dL_law_379 rfl rfl ?_
  refine v_iload_n 381 hE dL_law_380 rfl rfl ?_
  refine v_iconst 382 hE (v := nI 1) dL_law_381 (by decide) rfl ?_
  refine v_iaddN 383 hE dL_law_382 rfl ?_
  refine v_sld 384 hE hC (i := i + 1) (by omega) (by omega) dL_law_383 rfl ?_
  refine v_ci 387 hE (sub_x hE) (v_runV 1 hE (sub_x hE) (kX4_carriedLoad _ (yZ D C x0 ax) u _ h.1) gL_law_X4_carriedLoad rfl (by decide +kernel) rfl (q0 := 0) rfl rfl ⟨rfl, rfl, Nat.le_of_ble_eq_true rfl, Nat.le_of_ble_eq_true rfl⟩ rfl (Nat.le_of_ble_eq_true rfl) dL_law_384) (back_x hE _) rfl ?_
  refine v_aload_n 388 hE dL_law_387 rfl rfl ?_
  refine v_aload_n 389 hE dL_law_388 rfl rfl ?_
  refine v_iload_n 390 hE dL_law_389 rfl rfl ?_
  refine v_iconst 391 hE (v := nI 1) dL_law_390 (by decide) rfl ?_
  refine v_iaddN 392 hE dL_law_391 rfl ?_
  refine v_sld 393 hE hC (i := i + 1) (by omega) (by omega) dL_law_392 rfl ?_
  refine v_ci 396 hE (sub_m hE) (v_runV 1 hE (sub_m hE) (kX5_carriedLoad _ (yM D C m0 am) w _ h.2.1) gL_law_X5_carriedLoad rfl (by decide +kernel) rfl (q0 := 0) rfl rfl ⟨rfl, rfl, Nat.le_of_ble_eq_true rfl, Nat.le_of_ble_eq_true rfl⟩ rfl (Nat.le_of_ble_eq_true rfl) dL_law_393) (back_m hE _) rfl ?_
  refine v_ic_eq 399 hE 889 dL_law_396 (by decide) rfl (fun _ => ?_) (fun e => absurd (op_carr h (xs (i + 1))).1 e)
  exact hk _ _ (op_carr h (xs (i + 1))).2
