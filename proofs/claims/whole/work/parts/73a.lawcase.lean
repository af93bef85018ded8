/-! the law's cases -/
theorem v_topl {X : zX} {G : va_G} {nL cells slots pc : Nat} {ws : va_W} {lv : List (Nat × Value)} {rest : List Value} {x y : Int64} (e : y = x) (k : V X G nL cells slots ws pc lv (.long y :: rest)) : V X G nL cells slots ws pc lv (.long x :: rest) := e ▸ k
set_option maxRecDepth 100000 in
set_option maxHeartbeats 4000000 in
theorem lc_walls {X : zX} {l : Launch} {G : va_G} {ca : Nat → ClassId} {ad ae : Nat → Nat} {b L : Nat} {xs : Nat → Int32} {i : Int32} {xv : XV} {mv : MV} (h : zOk X l G ca cL_law RL wsL_law 4 room_1) (hX : zScr X b L xs) (h1 : vp_in (i + 1) L) (h2 : vp_in (i + 2) L) (h3 : vp_in (i + 3) L) (h4 : vp_in (i + 4) L) (h5 : vp_in (i + 5) L) (h6 : vp_in (i + 6) L) (hR : Rel xv mv) (k : ∀ xv' mv', Rel xv' mv' → V X G 4 137 3130 (wX ca ad xv' ++ wM ca ae mv') 1198 [(0, .ref b), (1, .ref (ad 0)), (2, .ref (ae 0)), (3, .int i)] []) : V X G 4 137 3130 (wX ca ad xv ++ wM ca ae mv) 184 [(0, .ref b), (1, .ref (ad 0)), (2, .ref (ae 0)), (3, .int i)] [] := by
  obtain ⟨a, xv', mv', hR', t6, t7⟩ := e_walls hR (xs (i + 1).toNatClampNeg)
  refine v_aload_n h dL_law_184 1 rfl 185 rfl ?_
  refine v_aload_n h dL_law_185 0 rfl 186 rfl ?_
  refine v_iload_n h dL_law_186 3 rfl 187 rfl ?_
  refine v_iconst h dL_law_187 1 rfl 188 rfl ?_
  refine v_iadd h dL_law_188 189 rfl ?_
  refine v_sld h hX h1 dL_law_189 190 rfl ?_
  refine v_swap ?_
  refine v_rcall (n := 1) (As := [.int (xs (i + 1).toNatClampNeg)]) (rest := []) (ci := 6) h dL_law_190 (t6 l G ca ad) gL_law_X6_walls rfl rfl ⟨rfl, rfl⟩ nX6_walls ⟨(Nat.le_of_ble_eq_true rfl), (Nat.le_of_ble_eq_true rfl)⟩ rfl rfl rfl rfl (Nat.le_of_ble_eq_true rfl) ⟨(Nat.le_of_ble_eq_true rfl), (Nat.le_of_ble_eq_true rfl)⟩ (wX_adr ca ad xv xv') 193 rfl ?_
  refine v_aload_n h dL_law_193 2 rfl 194 rfl ?_
  refine v_aload_n h dL_law_194 0 rfl 195 rfl ?_
  refine v_iload_n h dL_law_195 3 rfl 196 rfl ?_
  refine v_iconst h dL_law_196 1 rfl 197 rfl ?_
  refine v_iadd h dL_law_197 198 rfl ?_
  refine v_sld h hX h1 dL_law_198 199 rfl ?_
  refine v_swap ?_
  refine v_rcall (n := 1) (As := [.int (xs (i + 1).toNatClampNeg)]) (rest := [.int a]) (ci := 7) h dL_law_199 (t7 l G ca ae) gL_law_X7_walls rfl rfl ⟨rfl, rfl⟩ nX7_walls ⟨(Nat.le_of_ble_eq_true rfl), (Nat.le_of_ble_eq_true rfl)⟩ rfl rfl rfl rfl (Nat.le_of_ble_eq_true rfl) ⟨(Nat.le_of_ble_eq_true rfl), (Nat.le_of_ble_eq_true rfl)⟩ (wM_adr ca ae mv mv') 202 rfl ?_
  exact v_icmp_eq h dL_law_202 1198 (by decide) 205 rfl (fun _ => k xv' mv' hR') (fun c => absurd rfl c)
set_option maxRecDepth 100000 in
set_option maxHeartbeats 4000000 in
theorem lc_rain {X : zX} {l : Launch} {G : va_G} {ca : Nat → ClassId} {ad ae : Nat → Nat} {b L : Nat} {xs : Nat → Int32} {i : Int32} {xv : XV} {mv : MV} (h : zOk X l G ca cL_law RL wsL_law 4 room_1) (hX : zScr X b L xs) (h1 : vp_in (i + 1) L) (h2 : vp_in (i + 2) L) (h3 : vp_in (i + 3) L) (h4 : vp_in (i + 4) L) (h5 : vp_in (i + 5) L) (h6 : vp_in (i + 6) L) (hR : Rel xv mv) (k : ∀ xv' mv', Rel xv' mv' → V X G 4 137 3130 (wX ca ad xv' ++ wM ca ae mv') 1198 [(0, .ref b), (1, .ref (ad 0)), (2, .ref (ae 0)), (3, .int i)] []) : V X G 4 137 3130 (wX ca ad xv ++ wM ca ae mv) 207 [(0, .ref b), (1, .ref (ad 0)), (2, .ref (ae 0)), (3, .int i)] [] := by
  obtain ⟨a, xv', mv', hR', t6, t7⟩ := e_rain hR (xs (i + 1).toNatClampNeg)
  refine v_aload_n h dL_law_207 1 rfl 208 rfl ?_
  refine v_aload_n h dL_law_208 0 rfl 209 rfl ?_
  refine v_iload_n h dL_law_209 3 rfl 210 rfl ?_
  refine v_iconst h dL_law_210 1 rfl 211 rfl ?_
  refine v_iadd h dL_law_211 212 rfl ?_
  refine v_sld h hX h1 dL_law_212 213 rfl ?_
  refine v_swap ?_
  refine v_rcall (n := 1) (As := [.int (xs (i + 1).toNatClampNeg)]) (rest := []) (ci := 6) h dL_law_213 (t6 l G ca ad) gL_law_X6_rain rfl rfl ⟨rfl, rfl⟩ nX6_rain ⟨(Nat.le_of_ble_eq_true rfl), (Nat.le_of_ble_eq_true rfl)⟩ rfl rfl rfl rfl (Nat.le_of_ble_eq_true rfl) ⟨(Nat.le_of_ble_eq_true rfl), (Nat.le_of_ble_eq_true rfl)⟩ (wX_adr ca ad xv xv') 216 rfl ?_
  refine v_aload_n h dL_law_216 2 rfl 217 rfl ?_
  refine v_aload_n h dL_law_217 0 rfl 218 rfl ?_
  refine v_iload_n h dL_law_218 3 rfl 219 rfl ?_
  refine v_iconst h dL_law_219 1 rfl 220 rfl ?_
  refine v_iadd h dL_law_220 221 rfl ?_
  refine v_sld h hX h1 dL_law_221 222 rfl ?_
  refine v_swap ?_
  refine v_rcall (n := 1) (As := [.int (xs (i + 1).toNatClampNeg)]) (rest := [.int a]) (ci := 7) h dL_law_222 (t7 l G ca ae) gL_law_X7_rain rfl rfl ⟨rfl, rfl⟩ nX7_rain ⟨(Nat.le_of_ble_eq_true rfl), (Nat.le_of_ble_eq_true rfl)⟩ rfl rfl rfl rfl (Nat.le_of_ble_eq_true rfl) ⟨(Nat.le_of_ble_eq_true rfl), (Nat.le_of_ble_eq_true rfl)⟩ (wM_adr ca ae mv mv') 225 rfl ?_
  exact v_icmp_eq h dL_law_225 1198 (by decide) 228 rfl (fun _ => k xv' mv' hR') (fun c => absurd rfl c)
set_option maxRecDepth 100000 in
set_option maxHeartbeats 4000000 in
theorem lc_dry {X : zX} {l : Launch} {G : va_G} {ca : Nat → ClassId} {ad ae : Nat → Nat} {b L : Nat} {xs : Nat → Int32} {i : Int32} {xv : XV} {mv : MV} (h : zOk X l G ca cL_law RL wsL_law 4 room_1) (hX : zScr X b L xs) (h1 : vp_in (i + 1) L) (h2 : vp_in (i + 2) L) (h3 : vp_in (i + 3) L) (h4 : vp_in (i + 4) L) (h5 : vp_in (i + 5) L) (h6 : vp_in (i + 6) L) (hR : Rel xv mv) (k : ∀ xv' mv', Rel xv' mv' → V X G 4 137 3130 (wX ca ad xv' ++ wM ca ae mv') 1198 [(0, .ref b), (1, .ref (ad 0)), (2, .ref (ae 0)), (3, .int i)] []) : V X G 4 137 3130 (wX ca ad xv ++ wM ca ae mv) 230 [(0, .ref b), (1, .ref (ad 0)), (2, .ref (ae 0)), (3, .int i)] [] := by
  obtain ⟨a, xv', mv', hR', t6, t7⟩ := e_dry hR
  refine v_aload_n h dL_law_230 1 rfl 231 rfl ?_
  refine v_swap ?_
  refine v_rcall (n := 0) (As := []) (rest := []) (ci := 6) h dL_law_231 (t6 l G ca ad) gL_law_X6_dry rfl rfl ⟨rfl, rfl⟩ nX6_dry ⟨(Nat.le_of_ble_eq_true rfl), (Nat.le_of_ble_eq_true rfl)⟩ rfl rfl rfl rfl (Nat.le_of_ble_eq_true rfl) ⟨(Nat.le_of_ble_eq_true rfl), (Nat.le_of_ble_eq_true rfl)⟩ (wX_adr ca ad xv xv') 234 rfl ?_
  refine v_aload_n h dL_law_234 2 rfl 235 rfl ?_
  refine v_swap ?_
  refine v_rcall (n := 0) (As := []) (rest := [.int a]) (ci := 7) h dL_law_235 (t7 l G ca ae) gL_law_X7_dry rfl rfl ⟨rfl, rfl⟩ nX7_dry ⟨(Nat.le_of_ble_eq_true rfl), (Nat.le_of_ble_eq_true rfl)⟩ rfl rfl rfl rfl (Nat.le_of_ble_eq_true rfl) ⟨(Nat.le_of_ble_eq_true rfl), (Nat.le_of_ble_eq_true rfl)⟩ (wM_adr ca ae mv mv') 238 rfl ?_
  exact v_icmp_eq h dL_law_238 1198 (by decide) 241 rfl (fun _ => k xv' mv' hR') (fun c => absurd rfl c)
set_option maxRecDepth 100000 in
set_option maxHeartbeats 4000000 in
theorem lc_of {X : zX} {l : Launch} {G : va_G} {ca : Nat → ClassId} {ad ae : Nat → Nat} {b L : Nat} {xs : Nat → Int32} {i : Int32} {xv : XV} {mv : MV} (h : zOk X l G ca cL_law RL wsL_law 4 room_1) (hX : zScr X b L xs) (h1 : vp_in (i + 1) L) (h2 : vp_in (i + 2) L) (h3 : vp_in (i + 3) L) (h4 : vp_in (i + 4) L) (h5 : vp_in (i + 5) L) (h6 : vp_in (i + 6) L) (hR : Rel xv mv) (k : ∀ xv' mv', Rel xv' mv' → V X G 4 137 3130 (wX ca ad xv' ++ wM ca ae mv') 1198 [(0, .ref b), (1, .ref (ad 0)), (2, .ref (ae 0)), (3, .int i)] []) : V X G 4 137 3130 (wX ca ad xv ++ wM ca ae mv) 243 [(0, .ref b), (1, .ref (ad 0)), (2, .ref (ae 0)), (3, .int i)] [] := by
  obtain ⟨a, xv', mv', hR', t6, t7⟩ := e_of hR (xs (i + 1).toNatClampNeg) (xs (i + 2).toNatClampNeg)
  refine v_aload_n h dL_law_243 1 rfl 244 rfl ?_
  refine v_aload_n h dL_law_244 0 rfl 245 rfl ?_
  refine v_iload_n h dL_law_245 3 rfl 246 rfl ?_
  refine v_iconst h dL_law_246 1 rfl 247 rfl ?_
  refine v_iadd h dL_law_247 248 rfl ?_
  refine v_sld h hX h1 dL_law_248 249 rfl ?_
  refine v_aload_n h dL_law_249 0 rfl 250 rfl ?_
  refine v_iload_n h dL_law_250 3 rfl 251 rfl ?_
  refine v_iconst h dL_law_251 2 rfl 252 rfl ?_
  refine v_iadd h dL_law_252 253 rfl ?_
  refine v_sld h hX h2 dL_law_253 254 rfl ?_
  refine v_swap ?_
  refine v_rcall (n := 2) (As := [.int (xs (i + 1).toNatClampNeg), .int (xs (i + 2).toNatClampNeg)]) (rest := []) (ci := 6) h dL_law_254 (t6 l G ca ad) gL_law_X6_of rfl rfl ⟨rfl, rfl⟩ nX6_of ⟨(Nat.le_of_ble_eq_true rfl), (Nat.le_of_ble_eq_true rfl)⟩ rfl rfl rfl rfl (Nat.le_of_ble_eq_true rfl) ⟨(Nat.le_of_ble_eq_true rfl), (Nat.le_of_ble_eq_true rfl)⟩ (wX_adr ca ad xv xv') 257 rfl ?_
  refine v_aload_n h dL_law_257 2 rfl 258 rfl ?_
  refine v_aload_n h dL_law_258 0 rfl 259 rfl ?_
  refine v_iload_n h dL_law_259 3 rfl 260 rfl ?_
  refine v_iconst h dL_law_260 1 rfl 261 rfl ?_
  refine v_iadd h dL_law_261 262 rfl ?_
  refine v_sld h hX h1 dL_law_262 263 rfl ?_
  refine v_aload_n h dL_law_263 0 rfl 264 rfl ?_
  refine v_iload_n h dL_law_264 3 rfl 265 rfl ?_
  refine v_iconst h dL_law_265 2 rfl 266 rfl ?_
  refine v_iadd h dL_law_266 267 rfl ?_
  refine v_sld h hX h2 dL_law_267 268 rfl ?_
  refine v_swap ?_
  refine v_rcall (n := 2) (As := [.int (xs (i + 1).toNatClampNeg), .int (xs (i + 2).toNatClampNeg)]) (rest := [.int a]) (ci := 7) h dL_law_268 (t7 l G ca ae) gL_law_X7_of rfl rfl ⟨rfl, rfl⟩ nX7_of ⟨(Nat.le_of_ble_eq_true rfl), (Nat.le_of_ble_eq_true rfl)⟩ rfl rfl rfl rfl (Nat.le_of_ble_eq_true rfl) ⟨(Nat.le_of_ble_eq_true rfl), (Nat.le_of_ble_eq_true rfl)⟩ (wM_adr ca ae mv mv') 271 rfl ?_
  exact v_icmp_eq h dL_law_271 1198 (by decide) 274 rfl (fun _ => k xv' mv' hR') (fun c => absurd rfl c)
set_option maxRecDepth 100000 in
set_option maxHeartbeats 4000000 in
theorem lc_rains {X : zX} {l : Launch} {G : va_G} {ca : Nat → ClassId} {ad ae : Nat → Nat} {b L : Nat} {xs : Nat → Int32} {i : Int32} {xv : XV} {mv : MV} (h : zOk X l G ca cL_law RL wsL_law 4 room_1) (hX : zScr X b L xs) (h1 : vp_in (i + 1) L) (h2 : vp_in (i + 2) L) (h3 : vp_in (i + 3) L) (h4 : vp_in (i + 4) L) (h5 : vp_in (i + 5) L) (h6 : vp_in (i + 6) L) (hR : Rel xv mv) (k : ∀ xv' mv', Rel xv' mv' → V X G 4 137 3130 (wX ca ad xv' ++ wM ca ae mv') 1198 [(0, .ref b), (1, .ref (ad 0)), (2, .ref (ae 0)), (3, .int i)] []) : V X G 4 137 3130 (wX ca ad xv ++ wM ca ae mv) 276 [(0, .ref b), (1, .ref (ad 0)), (2, .ref (ae 0)), (3, .int i)] [] := by
  obtain ⟨a, xv', mv', hR', t6, t7⟩ := e_rains hR (xs (i + 1).toNatClampNeg)
  refine v_aload_n h dL_law_276 1 rfl 277 rfl ?_
  refine v_aload_n h dL_law_277 0 rfl 278 rfl ?_
  refine v_iload_n h dL_law_278 3 rfl 279 rfl ?_
  refine v_iconst h dL_law_279 1 rfl 280 rfl ?_
  refine v_iadd h dL_law_280 281 rfl ?_
  refine v_sld h hX h1 dL_law_281 282 rfl ?_
  refine v_swap ?_
  refine v_rcall (n := 1) (As := [.int (xs (i + 1).toNatClampNeg)]) (rest := []) (ci := 6) h dL_law_282 (t6 l G ca ad) gL_law_X6_rains rfl rfl ⟨rfl, rfl⟩ nX6_rains ⟨(Nat.le_of_ble_eq_true rfl), (Nat.le_of_ble_eq_true rfl)⟩ rfl rfl rfl rfl (Nat.le_of_ble_eq_true rfl) ⟨(Nat.le_of_ble_eq_true rfl), (Nat.le_of_ble_eq_true rfl)⟩ (wX_adr ca ad xv xv') 285 rfl ?_
  refine v_aload_n h dL_law_285 2 rfl 286 rfl ?_
  refine v_aload_n h dL_law_286 0 rfl 287 rfl ?_
  refine v_iload_n h dL_law_287 3 rfl 288 rfl ?_
  refine v_iconst h dL_law_288 1 rfl 289 rfl ?_
  refine v_iadd h dL_law_289 290 rfl ?_
  refine v_sld h hX h1 dL_law_290 291 rfl ?_
  refine v_swap ?_
  refine v_rcall (n := 1) (As := [.int (xs (i + 1).toNatClampNeg)]) (rest := [.int a]) (ci := 7) h dL_law_291 (t7 l G ca ae) gL_law_X7_rains rfl rfl ⟨rfl, rfl⟩ nX7_rains ⟨(Nat.le_of_ble_eq_true rfl), (Nat.le_of_ble_eq_true rfl)⟩ rfl rfl rfl rfl (Nat.le_of_ble_eq_true rfl) ⟨(Nat.le_of_ble_eq_true rfl), (Nat.le_of_ble_eq_true rfl)⟩ (wM_adr ca ae mv mv') 294 rfl ?_
  exact v_icmp_eq h dL_law_294 1198 (by decide) 297 rfl (fun _ => k xv' mv' hR') (fun c => absurd rfl c)
set_option maxRecDepth 100000 in
set_option maxHeartbeats 4000000 in
theorem lc_type {X : zX} {l : Launch} {G : va_G} {ca : Nat → ClassId} {ad ae : Nat → Nat} {b L : Nat} {xs : Nat → Int32} {i : Int32} {xv : XV} {mv : MV} (h : zOk X l G ca cL_law RL wsL_law 4 room_1) (hX : zScr X b L xs) (h1 : vp_in (i + 1) L) (h2 : vp_in (i + 2) L) (h3 : vp_in (i + 3) L) (h4 : vp_in (i + 4) L) (h5 : vp_in (i + 5) L) (h6 : vp_in (i + 6) L) (hR : Rel xv mv) (k : ∀ xv' mv', Rel xv' mv' → V X G 4 137 3130 (wX ca ad xv' ++ wM ca ae mv') 1198 [(0, .ref b), (1, .ref (ad 0)), (2, .ref (ae 0)), (3, .int i)] []) : V X G 4 137 3130 (wX ca ad xv ++ wM ca ae mv) 299 [(0, .ref b), (1, .ref (ad 0)), (2, .ref (ae 0)), (3, .int i)] [] := by
  obtain ⟨a, xv', mv', hR', t6, t7⟩ := e_type hR (xs (i + 1).toNatClampNeg)
  refine v_aload_n h dL_law_299 1 rfl 300 rfl ?_
  refine v_aload_n h dL_law_300 0 rfl 301 rfl ?_
  refine v_iload_n h dL_law_301 3 rfl 302 rfl ?_
  refine v_iconst h dL_law_302 1 rfl 303 rfl ?_
  refine v_iadd h dL_law_303 304 rfl ?_
  refine v_sld h hX h1 dL_law_304 305 rfl ?_
  refine v_swap ?_
  refine v_rcall (n := 1) (As := [.int (xs (i + 1).toNatClampNeg)]) (rest := []) (ci := 6) h dL_law_305 (t6 l G ca ad) gL_law_X6_type rfl rfl ⟨rfl, rfl⟩ nX6_type ⟨(Nat.le_of_ble_eq_true rfl), (Nat.le_of_ble_eq_true rfl)⟩ rfl rfl rfl rfl (Nat.le_of_ble_eq_true rfl) ⟨(Nat.le_of_ble_eq_true rfl), (Nat.le_of_ble_eq_true rfl)⟩ (wX_adr ca ad xv xv') 308 rfl ?_
  refine v_aload_n h dL_law_308 2 rfl 309 rfl ?_
  refine v_aload_n h dL_law_309 0 rfl 310 rfl ?_
  refine v_iload_n h dL_law_310 3 rfl 311 rfl ?_
  refine v_iconst h dL_law_311 1 rfl 312 rfl ?_
  refine v_iadd h dL_law_312 313 rfl ?_
  refine v_sld h hX h1 dL_law_313 314 rfl ?_
  refine v_swap ?_
  refine v_rcall (n := 1) (As := [.int (xs (i + 1).toNatClampNeg)]) (rest := [.int a]) (ci := 7) h dL_law_314 (t7 l G ca ae) gL_law_X7_type rfl rfl ⟨rfl, rfl⟩ nX7_type ⟨(Nat.le_of_ble_eq_true rfl), (Nat.le_of_ble_eq_true rfl)⟩ rfl rfl rfl rfl (Nat.le_of_ble_eq_true rfl) ⟨(Nat.le_of_ble_eq_true rfl), (Nat.le_of_ble_eq_true rfl)⟩ (wM_adr ca ae mv mv') 317 rfl ?_
  exact v_icmp_eq h dL_law_317 1198 (by decide) 320 rfl (fun _ => k xv' mv' hR') (fun c => absurd rfl c)
set_option maxRecDepth 100000 in
set_option maxHeartbeats 4000000 in
theorem lc_roof {X : zX} {l : Launch} {G : va_G} {ca : Nat → ClassId} {ad ae : Nat → Nat} {b L : Nat} {xs : Nat → Int32} {i : Int32} {xv : XV} {mv : MV} (h : zOk X l G ca cL_law RL wsL_law 4 room_1) (hX : zScr X b L xs) (h1 : vp_in (i + 1) L) (h2 : vp_in (i + 2) L) (h3 : vp_in (i + 3) L) (h4 : vp_in (i + 4) L) (h5 : vp_in (i + 5) L) (h6 : vp_in (i + 6) L) (hR : Rel xv mv) (k : ∀ xv' mv', Rel xv' mv' → V X G 4 137 3130 (wX ca ad xv' ++ wM ca ae mv') 1198 [(0, .ref b), (1, .ref (ad 0)), (2, .ref (ae 0)), (3, .int i)] []) : V X G 4 137 3130 (wX ca ad xv ++ wM ca ae mv) 322 [(0, .ref b), (1, .ref (ad 0)), (2, .ref (ae 0)), (3, .int i)] [] := by
  obtain ⟨a, xv', mv', hR', t6, t7⟩ := e_roof hR
  refine v_aload_n h dL_law_322 1 rfl 323 rfl ?_
  refine v_swap ?_
  refine v_rcall (n := 0) (As := []) (rest := []) (ci := 6) h dL_law_323 (t6 l G ca ad) gL_law_X6_roof rfl rfl ⟨rfl, rfl⟩ nX6_roof ⟨(Nat.le_of_ble_eq_true rfl), (Nat.le_of_ble_eq_true rfl)⟩ rfl rfl rfl rfl (Nat.le_of_ble_eq_true rfl) ⟨(Nat.le_of_ble_eq_true rfl), (Nat.le_of_ble_eq_true rfl)⟩ (wX_adr ca ad xv xv') 326 rfl ?_
  refine v_aload_n h dL_law_326 2 rfl 327 rfl ?_
  refine v_swap ?_
  refine v_rcall (n := 0) (As := []) (rest := [.int a]) (ci := 7) h dL_law_327 (t7 l G ca ae) gL_law_X7_roof rfl rfl ⟨rfl, rfl⟩ nX7_roof ⟨(Nat.le_of_ble_eq_true rfl), (Nat.le_of_ble_eq_true rfl)⟩ rfl rfl rfl rfl (Nat.le_of_ble_eq_true rfl) ⟨(Nat.le_of_ble_eq_true rfl), (Nat.le_of_ble_eq_true rfl)⟩ (wM_adr ca ae mv mv') 330 rfl ?_
  exact v_icmp_eq h dL_law_330 1198 (by decide) 333 rfl (fun _ => k xv' mv' hR') (fun c => absurd rfl c)
set_option maxRecDepth 100000 in
set_option maxHeartbeats 4000000 in
theorem lc_count {X : zX} {l : Launch} {G : va_G} {ca : Nat → ClassId} {ad ae : Nat → Nat} {b L : Nat} {xs : Nat → Int32} {i : Int32} {xv : XV} {mv : MV} (h : zOk X l G ca cL_law RL wsL_law 4 room_1) (hX : zScr X b L xs) (h1 : vp_in (i + 1) L) (h2 : vp_in (i + 2) L) (h3 : vp_in (i + 3) L) (h4 : vp_in (i + 4) L) (h5 : vp_in (i + 5) L) (h6 : vp_in (i + 6) L) (hR : Rel xv mv) (k : ∀ xv' mv', Rel xv' mv' → V X G 4 137 3130 (wX ca ad xv' ++ wM ca ae mv') 1198 [(0, .ref b), (1, .ref (ad 0)), (2, .ref (ae 0)), (3, .int i)] []) : V X G 4 137 3130 (wX ca ad xv ++ wM ca ae mv) 335 [(0, .ref b), (1, .ref (ad 0)), (2, .ref (ae 0)), (3, .int i)] [] := by
  obtain ⟨a, xv', mv', hR', t6, t7⟩ := e_count hR (xs (i + 1).toNatClampNeg)
  refine v_aload_n h dL_law_335 1 rfl 336 rfl ?_
  refine v_aload_n h dL_law_336 0 rfl 337 rfl ?_
  refine v_iload_n h dL_law_337 3 rfl 338 rfl ?_
  refine v_iconst h dL_law_338 1 rfl 339 rfl ?_
  refine v_iadd h dL_law_339 340 rfl ?_
  refine v_sld h hX h1 dL_law_340 341 rfl ?_
  refine v_swap ?_
  refine v_rcall (n := 1) (As := [.int (xs (i + 1).toNatClampNeg)]) (rest := []) (ci := 6) h dL_law_341 (t6 l G ca ad) gL_law_X6_count rfl rfl ⟨rfl, rfl⟩ nX6_count ⟨(Nat.le_of_ble_eq_true rfl), (Nat.le_of_ble_eq_true rfl)⟩ rfl rfl rfl rfl (Nat.le_of_ble_eq_true rfl) ⟨(Nat.le_of_ble_eq_true rfl), (Nat.le_of_ble_eq_true rfl)⟩ (wX_adr ca ad xv xv') 344 rfl ?_
  refine v_aload_n h dL_law_344 2 rfl 345 rfl ?_
  refine v_aload_n h dL_law_345 0 rfl 346 rfl ?_
  refine v_iload_n h dL_law_346 3 rfl 347 rfl ?_
  refine v_iconst h dL_law_347 1 rfl 348 rfl ?_
  refine v_iadd h dL_law_348 349 rfl ?_
  refine v_sld h hX h1 dL_law_349 350 rfl ?_
  refine v_swap ?_
  refine v_rcall (n := 1) (As := [.int (xs (i + 1).toNatClampNeg)]) (rest := [.int a]) (ci := 7) h dL_law_350 (t7 l G ca ae) gL_law_X7_count rfl rfl ⟨rfl, rfl⟩ nX7_count ⟨(Nat.le_of_ble_eq_true rfl), (Nat.le_of_ble_eq_true rfl)⟩ rfl rfl rfl rfl (Nat.le_of_ble_eq_true rfl) ⟨(Nat.le_of_ble_eq_true rfl), (Nat.le_of_ble_eq_true rfl)⟩ (wM_adr ca ae mv mv') 353 rfl ?_
  exact v_icmp_eq h dL_law_353 1198 (by decide) 356 rfl (fun _ => k xv' mv' hR') (fun c => absurd rfl c)
set_option maxRecDepth 100000 in
set_option maxHeartbeats 4000000 in
theorem lc_years {X : zX} {l : Launch} {G : va_G} {ca : Nat → ClassId} {ad ae : Nat → Nat} {b L : Nat} {xs : Nat → Int32} {i : Int32} {xv : XV} {mv : MV} (h : zOk X l G ca cL_law RL wsL_law 4 room_1) (hX : zScr X b L xs) (h1 : vp_in (i + 1) L) (h2 : vp_in (i + 2) L) (h3 : vp_in (i + 3) L) (h4 : vp_in (i + 4) L) (h5 : vp_in (i + 5) L) (h6 : vp_in (i + 6) L) (hR : Rel xv mv) (k : ∀ xv' mv', Rel xv' mv' → V X G 4 137 3130 (wX ca ad xv' ++ wM ca ae mv') 1198 [(0, .ref b), (1, .ref (ad 0)), (2, .ref (ae 0)), (3, .int i)] []) : V X G 4 137 3130 (wX ca ad xv ++ wM ca ae mv) 358 [(0, .ref b), (1, .ref (ad 0)), (2, .ref (ae 0)), (3, .int i)] [] := by
  obtain ⟨a, xv', mv', hR', t6, t7⟩ := e_years hR (xs (i + 1).toNatClampNeg)
  refine v_aload_n h dL_law_358 1 rfl 359 rfl ?_
  refine v_aload_n h dL_law_359 0 rfl 360 rfl ?_
  refine v_iload_n h dL_law_360 3 rfl 361 rfl ?_
  refine v_iconst h dL_law_361 1 rfl 362 rfl ?_
  refine v_iadd h dL_law_362 363 rfl ?_
  refine v_sld h hX h1 dL_law_363 364 rfl ?_
  refine v_swap ?_
  refine v_rcall (n := 1) (As := [.int (xs (i + 1).toNatClampNeg)]) (rest := []) (ci := 6) h dL_law_364 (t6 l G ca ad) gL_law_X6_years rfl rfl ⟨rfl, rfl⟩ nX6_years ⟨(Nat.le_of_ble_eq_true rfl), (Nat.le_of_ble_eq_true rfl)⟩ rfl rfl rfl rfl (Nat.le_of_ble_eq_true rfl) ⟨(Nat.le_of_ble_eq_true rfl), (Nat.le_of_ble_eq_true rfl)⟩ (wX_adr ca ad xv xv') 367 rfl ?_
  refine v_aload_n h dL_law_367 2 rfl 368 rfl ?_
  refine v_aload_n h dL_law_368 0 rfl 369 rfl ?_
  refine v_iload_n h dL_law_369 3 rfl 370 rfl ?_
  refine v_iconst h dL_law_370 1 rfl 371 rfl ?_
  refine v_iadd h dL_law_371 372 rfl ?_
  refine v_sld h hX h1 dL_law_372 373 rfl ?_
  refine v_swap ?_
  refine v_rcall (n := 1) (As := [.int (xs (i + 1).toNatClampNeg)]) (rest := [.int a]) (ci := 7) h dL_law_373 (t7 l G ca ae) gL_law_X7_years rfl rfl ⟨rfl, rfl⟩ nX7_years ⟨(Nat.le_of_ble_eq_true rfl), (Nat.le_of_ble_eq_true rfl)⟩ rfl rfl rfl rfl (Nat.le_of_ble_eq_true rfl) ⟨(Nat.le_of_ble_eq_true rfl), (Nat.le_of_ble_eq_true rfl)⟩ (wM_adr ca ae mv mv') 376 rfl ?_
  exact v_icmp_eq h dL_law_376 1198 (by decide) 379 rfl (fun _ => k xv' mv' hR') (fun c => absurd rfl c)
