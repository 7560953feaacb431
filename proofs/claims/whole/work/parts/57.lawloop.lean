theorem Inv.c0 {G : GG} {hh : HH} (h : Inv G hh) : hAt G hh 0 (cwO G) := by
  obtain ⟨_, _, _, _, _, _, _, _, _, _, _, _, _, _, _, _, _, _, _, _, hC, _⟩ := h
  exact hC
set_option maxRecDepth 4000 in
theorem C_write {G : GG} {b L : Nat} {xs : Nat → Int32} {ck sk : Nat} (hd : HARDP) (hck : ck ≤ 600000 ∧ sk ≤ 7302250) (hL : L ≤ 2560) {i : Nat} (hi : i + 5 ≤ L) {hh : HH} (hI : Inv G hh) (K : ∀ hh1, Inv G hh1 → LR G b L xs ck sk 998 [(0, .ref b), (1, .ref (ad G 0)), (2, .ref (ad G 144)), (3, .int (nI i))] [] hh1) : LR G b L xs ck sk 168 [(0, .ref b), (1, .ref (ad G 0)), (2, .ref (ad G 144)), (3, .int (nI i))] [] hh := by
  refine J_aload_n dL_law_168 rfl ?_
  refine J_aload_n dL_law_169 rfl ?_
  refine J_iload_n dL_law_170 rfl ?_
  refine J_iconst (v := 1) dL_law_171 (by decide) ?_
  refine J_iadd dL_law_172 ?_
  refine LR.top (y := nI (i + 1)) (nI_add i 1) ?_
  refine J_sld (j := i + 1) (by omega) (by omega) dL_law_173 ?_
  refine J_callVi dL_law_174 cv_L_13 ⟨by decide, by decide⟩ hck (L_write hd hI (xs (i + 1))) hI.c0 rfl rfl rfl (Nat.le_of_ble_eq_true rfl) (fun y hh1 hp => ?_)
  obtain ⟨⟨fs, hm⟩, hE⟩ := hp
  refine J_aload_n dL_law_177 rfl ?_
  refine J_aload_n dL_law_178 rfl ?_
  refine J_iload_n dL_law_179 rfl ?_
  refine J_iconst (v := 1) dL_law_180 (by decide) ?_
  refine J_iadd dL_law_181 ?_
  refine LR.top (y := nI (i + 1)) (nI_add i 1) ?_
  refine J_sld (j := i + 1) (by omega) (by omega) dL_law_182 ?_
  refine J_callVi dL_law_183 cv_L_17 ⟨by decide, by decide⟩ hck hE hm rfl rfl rfl (Nat.le_of_ble_eq_true rfl) (fun y2 hh2 hq => ?_)
  obtain ⟨rfl, hI2⟩ := hq
  exact J_icmp_eq (tgt := 998) dL_law_186 (by decide) (fun _ => K hh2 hI2) (fun c9 => absurd rfl c9)
set_option maxRecDepth 4000 in
theorem C_erase {G : GG} {b L : Nat} {xs : Nat → Int32} {ck sk : Nat} (hd : HARDP) (hck : ck ≤ 600000 ∧ sk ≤ 7302250) (hL : L ≤ 2560) {i : Nat} (hi : i + 5 ≤ L) {hh : HH} (hI : Inv G hh) (K : ∀ hh1, Inv G hh1 → LR G b L xs ck sk 998 [(0, .ref b), (1, .ref (ad G 0)), (2, .ref (ad G 144)), (3, .int (nI i))] [] hh1) : LR G b L xs ck sk 191 [(0, .ref b), (1, .ref (ad G 0)), (2, .ref (ad G 144)), (3, .int (nI i))] [] hh := by
  refine J_aload_n dL_law_191 rfl ?_
  refine J_callVi dL_law_192 cv_L_18 ⟨by decide, by decide⟩ hck (L_erase hd hI ) hI.c0 rfl rfl rfl (Nat.le_of_ble_eq_true rfl) (fun y hh1 hp => ?_)
  obtain ⟨⟨fs, hm⟩, hE⟩ := hp
  refine J_aload_n dL_law_195 rfl ?_
  refine J_callVi dL_law_196 cv_L_22 ⟨by decide, by decide⟩ hck hE hm rfl rfl rfl (Nat.le_of_ble_eq_true rfl) (fun y2 hh2 hq => ?_)
  obtain ⟨rfl, hI2⟩ := hq
  exact J_icmp_eq (tgt := 998) dL_law_199 (by decide) (fun _ => K hh2 hI2) (fun c9 => absurd rfl c9)
set_option maxRecDepth 4000 in
theorem C_fault {G : GG} {b L : Nat} {xs : Nat → Int32} {ck sk : Nat} (hd : HARDP) (hck : ck ≤ 600000 ∧ sk ≤ 7302250) (hL : L ≤ 2560) {i : Nat} (hi : i + 5 ≤ L) {hh : HH} (hI : Inv G hh) (K : ∀ hh1, Inv G hh1 → LR G b L xs ck sk 998 [(0, .ref b), (1, .ref (ad G 0)), (2, .ref (ad G 144)), (3, .int (nI i))] [] hh1) : LR G b L xs ck sk 204 [(0, .ref b), (1, .ref (ad G 0)), (2, .ref (ad G 144)), (3, .int (nI i))] [] hh := by
  refine J_aload_n dL_law_204 rfl ?_
  refine J_callVi dL_law_205 cv_L_23 ⟨by decide, by decide⟩ hck (L_fault hd hI ) hI.c0 rfl rfl rfl (Nat.le_of_ble_eq_true rfl) (fun y hh1 hp => ?_)
  obtain ⟨⟨fs, hm⟩, hE⟩ := hp
  refine J_aload_n dL_law_208 rfl ?_
  refine J_callVi dL_law_209 cv_L_26 ⟨by decide, by decide⟩ hck hE hm rfl rfl rfl (Nat.le_of_ble_eq_true rfl) (fun y2 hh2 hq => ?_)
  obtain ⟨rfl, hI2⟩ := hq
  exact J_icmp_eq (tgt := 998) dL_law_212 (by decide) (fun _ => K hh2 hI2) (fun c9 => absurd rfl c9)
set_option maxRecDepth 4000 in
theorem C_wheel {G : GG} {b L : Nat} {xs : Nat → Int32} {ck sk : Nat} (hd : HARDP) (hck : ck ≤ 600000 ∧ sk ≤ 7302250) (hL : L ≤ 2560) {i : Nat} (hi : i + 5 ≤ L) {hh : HH} (hI : Inv G hh) (K : ∀ hh1, Inv G hh1 → LR G b L xs ck sk 998 [(0, .ref b), (1, .ref (ad G 0)), (2, .ref (ad G 144)), (3, .int (nI i))] [] hh1) : LR G b L xs ck sk 217 [(0, .ref b), (1, .ref (ad G 0)), (2, .ref (ad G 144)), (3, .int (nI i))] [] hh := by
  refine J_aload_n dL_law_217 rfl ?_
  refine J_callVi dL_law_218 cv_L_27 ⟨by decide, by decide⟩ hck (L_wheel hd hI ) hI.c0 rfl rfl rfl (Nat.le_of_ble_eq_true rfl) (fun y hh1 hp => ?_)
  obtain ⟨⟨fs, hm⟩, hE⟩ := hp
  refine J_aload_n dL_law_221 rfl ?_
  refine J_callVi dL_law_222 cv_L_30 ⟨by decide, by decide⟩ hck hE hm rfl rfl rfl (Nat.le_of_ble_eq_true rfl) (fun y2 hh2 hq => ?_)
  obtain ⟨rfl, hI2⟩ := hq
  exact J_icmp_eq (tgt := 998) dL_law_225 (by decide) (fun _ => K hh2 hI2) (fun c9 => absurd rfl c9)
set_option maxRecDepth 4000 in
theorem C_judge {G : GG} {b L : Nat} {xs : Nat → Int32} {ck sk : Nat} (hd : HARDP) (hck : ck ≤ 600000 ∧ sk ≤ 7302250) (hL : L ≤ 2560) {i : Nat} (hi : i + 5 ≤ L) {hh : HH} (hI : Inv G hh) (K : ∀ hh1, Inv G hh1 → LR G b L xs ck sk 998 [(0, .ref b), (1, .ref (ad G 0)), (2, .ref (ad G 144)), (3, .int (nI i))] [] hh1) : LR G b L xs ck sk 230 [(0, .ref b), (1, .ref (ad G 0)), (2, .ref (ad G 144)), (3, .int (nI i))] [] hh := by
  refine J_aload_n dL_law_230 rfl ?_
  refine J_aload_n dL_law_231 rfl ?_
  refine J_iload_n dL_law_232 rfl ?_
  refine J_iconst (v := 1) dL_law_233 (by decide) ?_
  refine J_iadd dL_law_234 ?_
  refine LR.top (y := nI (i + 1)) (nI_add i 1) ?_
  refine J_sld (j := i + 1) (by omega) (by omega) dL_law_235 ?_
  refine J_aload_n dL_law_236 rfl ?_
  refine J_iload_n dL_law_237 rfl ?_
  refine J_iconst (v := 2) dL_law_238 (by decide) ?_
  refine J_iadd dL_law_239 ?_
  refine LR.top (y := nI (i + 2)) (nI_add i 2) ?_
  refine J_sld (j := i + 2) (by omega) (by omega) dL_law_240 ?_
  refine J_callVi dL_law_241 cv_L_31 ⟨by decide, by decide⟩ hck (L_judge hd hI (xs (i + 1)) (xs (i + 2))) hI.c0 rfl rfl rfl (Nat.le_of_ble_eq_true rfl) (fun y hh1 hp => ?_)
  obtain ⟨⟨fs, hm⟩, hE⟩ := hp
  refine J_aload_n dL_law_244 rfl ?_
  refine J_aload_n dL_law_245 rfl ?_
  refine J_iload_n dL_law_246 rfl ?_
  refine J_iconst (v := 1) dL_law_247 (by decide) ?_
  refine J_iadd dL_law_248 ?_
  refine LR.top (y := nI (i + 1)) (nI_add i 1) ?_
  refine J_sld (j := i + 1) (by omega) (by omega) dL_law_249 ?_
  refine J_aload_n dL_law_250 rfl ?_
  refine J_iload_n dL_law_251 rfl ?_
  refine J_iconst (v := 2) dL_law_252 (by decide) ?_
  refine J_iadd dL_law_253 ?_
  refine LR.top (y := nI (i + 2)) (nI_add i 2) ?_
  refine J_sld (j := i + 2) (by omega) (by omega) dL_law_254 ?_
  refine J_callVi dL_law_255 cv_L_35 ⟨by decide, by decide⟩ hck hE hm rfl rfl rfl (Nat.le_of_ble_eq_true rfl) (fun y2 hh2 hq => ?_)
  obtain ⟨rfl, hI2⟩ := hq
  exact J_icmp_eq (tgt := 998) dL_law_258 (by decide) (fun _ => K hh2 hI2) (fun c9 => absurd rfl c9)
set_option maxRecDepth 4000 in
theorem C_caseOf {G : GG} {b L : Nat} {xs : Nat → Int32} {ck sk : Nat} (hd : HARDP) (hck : ck ≤ 600000 ∧ sk ≤ 7302250) (hL : L ≤ 2560) {i : Nat} (hi : i + 5 ≤ L) {hh : HH} (hI : Inv G hh) (K : ∀ hh1, Inv G hh1 → LR G b L xs ck sk 998 [(0, .ref b), (1, .ref (ad G 0)), (2, .ref (ad G 144)), (3, .int (nI i))] [] hh1) : LR G b L xs ck sk 263 [(0, .ref b), (1, .ref (ad G 0)), (2, .ref (ad G 144)), (3, .int (nI i))] [] hh := by
  refine J_aload_n dL_law_263 rfl ?_
  refine J_aload_n dL_law_264 rfl ?_
  refine J_iload_n dL_law_265 rfl ?_
  refine J_iconst (v := 1) dL_law_266 (by decide) ?_
  refine J_iadd dL_law_267 ?_
  refine LR.top (y := nI (i + 1)) (nI_add i 1) ?_
  refine J_sld (j := i + 1) (by omega) (by omega) dL_law_268 ?_
  refine J_aload_n dL_law_269 rfl ?_
  refine J_iload_n dL_law_270 rfl ?_
  refine J_iconst (v := 2) dL_law_271 (by decide) ?_
  refine J_iadd dL_law_272 ?_
  refine LR.top (y := nI (i + 2)) (nI_add i 2) ?_
  refine J_sld (j := i + 2) (by omega) (by omega) dL_law_273 ?_
  refine J_callVi dL_law_274 cv_L_36 ⟨by decide, by decide⟩ hck (L_caseOf hd hI (xs (i + 1)) (xs (i + 2))) hI.c0 rfl rfl rfl (Nat.le_of_ble_eq_true rfl) (fun y hh1 hp => ?_)
  obtain ⟨⟨fs, hm⟩, hE⟩ := hp
  refine J_aload_n dL_law_277 rfl ?_
  refine J_aload_n dL_law_278 rfl ?_
  refine J_iload_n dL_law_279 rfl ?_
  refine J_iconst (v := 1) dL_law_280 (by decide) ?_
  refine J_iadd dL_law_281 ?_
  refine LR.top (y := nI (i + 1)) (nI_add i 1) ?_
  refine J_sld (j := i + 1) (by omega) (by omega) dL_law_282 ?_
  refine J_aload_n dL_law_283 rfl ?_
  refine J_iload_n dL_law_284 rfl ?_
  refine J_iconst (v := 2) dL_law_285 (by decide) ?_
  refine J_iadd dL_law_286 ?_
  refine LR.top (y := nI (i + 2)) (nI_add i 2) ?_
  refine J_sld (j := i + 2) (by omega) (by omega) dL_law_287 ?_
  refine J_callVi dL_law_288 cv_L_39 ⟨by decide, by decide⟩ hck hE hm rfl rfl rfl (Nat.le_of_ble_eq_true rfl) (fun y2 hh2 hq => ?_)
  obtain ⟨rfl, hI2⟩ := hq
  exact J_icmp_eq (tgt := 998) dL_law_291 (by decide) (fun _ => K hh2 hI2) (fun c9 => absurd rfl c9)
set_option maxRecDepth 4000 in
theorem C_seal {G : GG} {b L : Nat} {xs : Nat → Int32} {ck sk : Nat} (hd : HARDP) (hck : ck ≤ 600000 ∧ sk ≤ 7302250) (hL : L ≤ 2560) {i : Nat} (hi : i + 5 ≤ L) {hh : HH} (hI : Inv G hh) (K : ∀ hh1, Inv G hh1 → LR G b L xs ck sk 998 [(0, .ref b), (1, .ref (ad G 0)), (2, .ref (ad G 144)), (3, .int (nI i))] [] hh1) : LR G b L xs ck sk 296 [(0, .ref b), (1, .ref (ad G 0)), (2, .ref (ad G 144)), (3, .int (nI i))] [] hh := by
  refine J_aload_n dL_law_296 rfl ?_
  refine J_aload_n dL_law_297 rfl ?_
  refine J_iload_n dL_law_298 rfl ?_
  refine J_iconst (v := 1) dL_law_299 (by decide) ?_
  refine J_iadd dL_law_300 ?_
  refine LR.top (y := nI (i + 1)) (nI_add i 1) ?_
  refine J_sld (j := i + 1) (by omega) (by omega) dL_law_301 ?_
  refine J_callVi dL_law_302 cv_L_40 ⟨by decide, by decide⟩ hck (L_seal hd hI (xs (i + 1))) hI.c0 rfl rfl rfl (Nat.le_of_ble_eq_true rfl) (fun y hh1 hp => ?_)
  obtain ⟨⟨fs, hm⟩, hE⟩ := hp
  refine J_aload_n dL_law_305 rfl ?_
  refine J_aload_n dL_law_306 rfl ?_
  refine J_iload_n dL_law_307 rfl ?_
  refine J_iconst (v := 1) dL_law_308 (by decide) ?_
  refine J_iadd dL_law_309 ?_
  refine LR.top (y := nI (i + 1)) (nI_add i 1) ?_
  refine J_sld (j := i + 1) (by omega) (by omega) dL_law_310 ?_
  refine J_callVi dL_law_311 cv_L_43 ⟨by decide, by decide⟩ hck hE hm rfl rfl rfl (Nat.le_of_ble_eq_true rfl) (fun y2 hh2 hq => ?_)
  obtain ⟨rfl, hI2⟩ := hq
  exact J_icmp_eq (tgt := 998) dL_law_314 (by decide) (fun _ => K hh2 hI2) (fun c9 => absurd rfl c9)
set_option maxRecDepth 4000 in
theorem C_assign {G : GG} {b L : Nat} {xs : Nat → Int32} {ck sk : Nat} (hd : HARDP) (hck : ck ≤ 600000 ∧ sk ≤ 7302250) (hL : L ≤ 2560) {i : Nat} (hi : i + 5 ≤ L) {hh : HH} (hI : Inv G hh) (K : ∀ hh1, Inv G hh1 → LR G b L xs ck sk 998 [(0, .ref b), (1, .ref (ad G 0)), (2, .ref (ad G 144)), (3, .int (nI i))] [] hh1) : LR G b L xs ck sk 319 [(0, .ref b), (1, .ref (ad G 0)), (2, .ref (ad G 144)), (3, .int (nI i))] [] hh := by
  refine J_aload_n dL_law_319 rfl ?_
  refine J_aload_n dL_law_320 rfl ?_
  refine J_iload_n dL_law_321 rfl ?_
  refine J_iconst (v := 1) dL_law_322 (by decide) ?_
  refine J_iadd dL_law_323 ?_
  refine LR.top (y := nI (i + 1)) (nI_add i 1) ?_
  refine J_sld (j := i + 1) (by omega) (by omega) dL_law_324 ?_
  refine J_aload_n dL_law_325 rfl ?_
  refine J_iload_n dL_law_326 rfl ?_
  refine J_iconst (v := 2) dL_law_327 (by decide) ?_
  refine J_iadd dL_law_328 ?_
  refine LR.top (y := nI (i + 2)) (nI_add i 2) ?_
  refine J_sld (j := i + 2) (by omega) (by omega) dL_law_329 ?_
  refine J_callVi dL_law_330 cv_L_44 ⟨by decide, by decide⟩ hck (L_assign hd hI (xs (i + 1)) (xs (i + 2))) hI.c0 rfl rfl rfl (Nat.le_of_ble_eq_true rfl) (fun y hh1 hp => ?_)
  obtain ⟨⟨fs, hm⟩, hE⟩ := hp
  refine J_aload_n dL_law_333 rfl ?_
  refine J_aload_n dL_law_334 rfl ?_
  refine J_iload_n dL_law_335 rfl ?_
  refine J_iconst (v := 1) dL_law_336 (by decide) ?_
  refine J_iadd dL_law_337 ?_
  refine LR.top (y := nI (i + 1)) (nI_add i 1) ?_
  refine J_sld (j := i + 1) (by omega) (by omega) dL_law_338 ?_
  refine J_aload_n dL_law_339 rfl ?_
  refine J_iload_n dL_law_340 rfl ?_
  refine J_iconst (v := 2) dL_law_341 (by decide) ?_
  refine J_iadd dL_law_342 ?_
  refine LR.top (y := nI (i + 2)) (nI_add i 2) ?_
  refine J_sld (j := i + 2) (by omega) (by omega) dL_law_343 ?_
  refine J_callVi dL_law_344 cv_L_47 ⟨by decide, by decide⟩ hck hE hm rfl rfl rfl (Nat.le_of_ble_eq_true rfl) (fun y2 hh2 hq => ?_)
  obtain ⟨rfl, hI2⟩ := hq
  exact J_icmp_eq (tgt := 998) dL_law_347 (by decide) (fun _ => K hh2 hI2) (fun c9 => absurd rfl c9)
set_option maxRecDepth 4000 in
theorem C_refuse {G : GG} {b L : Nat} {xs : Nat → Int32} {ck sk : Nat} (hd : HARDP) (hck : ck ≤ 600000 ∧ sk ≤ 7302250) (hL : L ≤ 2560) {i : Nat} (hi : i + 5 ≤ L) {hh : HH} (hI : Inv G hh) (K : ∀ hh1, Inv G hh1 → LR G b L xs ck sk 998 [(0, .ref b), (1, .ref (ad G 0)), (2, .ref (ad G 144)), (3, .int (nI i))] [] hh1) : LR G b L xs ck sk 352 [(0, .ref b), (1, .ref (ad G 0)), (2, .ref (ad G 144)), (3, .int (nI i))] [] hh := by
  refine J_aload_n dL_law_352 rfl ?_
  refine J_aload_n dL_law_353 rfl ?_
  refine J_iload_n dL_law_354 rfl ?_
  refine J_iconst (v := 1) dL_law_355 (by decide) ?_
  refine J_iadd dL_law_356 ?_
  refine LR.top (y := nI (i + 1)) (nI_add i 1) ?_
  refine J_sld (j := i + 1) (by omega) (by omega) dL_law_357 ?_
  refine J_callVi dL_law_358 cv_L_48 ⟨by decide, by decide⟩ hck (L_refuse hd hI (xs (i + 1))) hI.c0 rfl rfl rfl (Nat.le_of_ble_eq_true rfl) (fun y hh1 hp => ?_)
  obtain ⟨⟨fs, hm⟩, hE⟩ := hp
  refine J_aload_n dL_law_361 rfl ?_
  refine J_aload_n dL_law_362 rfl ?_
  refine J_iload_n dL_law_363 rfl ?_
  refine J_iconst (v := 1) dL_law_364 (by decide) ?_
  refine J_iadd dL_law_365 ?_
  refine LR.top (y := nI (i + 1)) (nI_add i 1) ?_
  refine J_sld (j := i + 1) (by omega) (by omega) dL_law_366 ?_
  refine J_callVi dL_law_367 cv_L_51 ⟨by decide, by decide⟩ hck hE hm rfl rfl rfl (Nat.le_of_ble_eq_true rfl) (fun y2 hh2 hq => ?_)
  obtain ⟨rfl, hI2⟩ := hq
  exact J_icmp_eq (tgt := 998) dL_law_370 (by decide) (fun _ => K hh2 hI2) (fun c9 => absurd rfl c9)
set_option maxRecDepth 4000 in
theorem C_away {G : GG} {b L : Nat} {xs : Nat → Int32} {ck sk : Nat} (hd : HARDP) (hck : ck ≤ 600000 ∧ sk ≤ 7302250) (hL : L ≤ 2560) {i : Nat} (hi : i + 5 ≤ L) {hh : HH} (hI : Inv G hh) (K : ∀ hh1, Inv G hh1 → LR G b L xs ck sk 998 [(0, .ref b), (1, .ref (ad G 0)), (2, .ref (ad G 144)), (3, .int (nI i))] [] hh1) : LR G b L xs ck sk 375 [(0, .ref b), (1, .ref (ad G 0)), (2, .ref (ad G 144)), (3, .int (nI i))] [] hh := by
  refine J_aload_n dL_law_375 rfl ?_
  refine J_aload_n dL_law_376 rfl ?_
  refine J_iload_n dL_law_377 rfl ?_
  refine J_iconst (v := 1) dL_law_378 (by decide) ?_
  refine J_iadd dL_law_379 ?_
  refine LR.top (y := nI (i + 1)) (nI_add i 1) ?_
  refine J_sld (j := i + 1) (by omega) (by omega) dL_law_380 ?_
  refine J_aload_n dL_law_381 rfl ?_
  refine J_iload_n dL_law_382 rfl ?_
  refine J_iconst (v := 2) dL_law_383 (by decide) ?_
  refine J_iadd dL_law_384 ?_
  refine LR.top (y := nI (i + 2)) (nI_add i 2) ?_
  refine J_sld (j := i + 2) (by omega) (by omega) dL_law_385 ?_
  refine J_callVi dL_law_386 cv_L_52 ⟨by decide, by decide⟩ hck (L_away hd hI (xs (i + 1)) (xs (i + 2))) hI.c0 rfl rfl rfl (Nat.le_of_ble_eq_true rfl) (fun y hh1 hp => ?_)
  obtain ⟨⟨fs, hm⟩, hE⟩ := hp
  refine J_aload_n dL_law_389 rfl ?_
  refine J_aload_n dL_law_390 rfl ?_
  refine J_iload_n dL_law_391 rfl ?_
  refine J_iconst (v := 1) dL_law_392 (by decide) ?_
  refine J_iadd dL_law_393 ?_
  refine LR.top (y := nI (i + 1)) (nI_add i 1) ?_
  refine J_sld (j := i + 1) (by omega) (by omega) dL_law_394 ?_
  refine J_aload_n dL_law_395 rfl ?_
  refine J_iload_n dL_law_396 rfl ?_
  refine J_iconst (v := 2) dL_law_397 (by decide) ?_
  refine J_iadd dL_law_398 ?_
  refine LR.top (y := nI (i + 2)) (nI_add i 2) ?_
  refine J_sld (j := i + 2) (by omega) (by omega) dL_law_399 ?_
  refine J_callVi dL_law_400 cv_L_55 ⟨by decide, by decide⟩ hck hE hm rfl rfl rfl (Nat.le_of_ble_eq_true rfl) (fun y2 hh2 hq => ?_)
  obtain ⟨rfl, hI2⟩ := hq
  exact J_icmp_eq (tgt := 998) dL_law_403 (by decide) (fun _ => K hh2 hI2) (fun c9 => absurd rfl c9)
set_option maxRecDepth 4000 in
theorem C_undo {G : GG} {b L : Nat} {xs : Nat → Int32} {ck sk : Nat} (hd : HARDP) (hck : ck ≤ 600000 ∧ sk ≤ 7302250) (hL : L ≤ 2560) {i : Nat} (hi : i + 5 ≤ L) {hh : HH} (hI : Inv G hh) (K : ∀ hh1, Inv G hh1 → LR G b L xs ck sk 998 [(0, .ref b), (1, .ref (ad G 0)), (2, .ref (ad G 144)), (3, .int (nI i))] [] hh1) : LR G b L xs ck sk 408 [(0, .ref b), (1, .ref (ad G 0)), (2, .ref (ad G 144)), (3, .int (nI i))] [] hh := by
  refine J_aload_n dL_law_408 rfl ?_
  refine J_callVi dL_law_409 cv_L_56 ⟨by decide, by decide⟩ hck (L_undo hd hI ) hI.c0 rfl rfl rfl (Nat.le_of_ble_eq_true rfl) (fun y hh1 hp => ?_)
  obtain ⟨⟨fs, hm⟩, hE⟩ := hp
  refine J_aload_n dL_law_412 rfl ?_
  refine J_callVi dL_law_413 cv_L_59 ⟨by decide, by decide⟩ hck hE hm rfl rfl rfl (Nat.le_of_ble_eq_true rfl) (fun y2 hh2 hq => ?_)
  obtain ⟨rfl, hI2⟩ := hq
  exact J_icmp_eq (tgt := 998) dL_law_416 (by decide) (fun _ => K hh2 hI2) (fun c9 => absurd rfl c9)
set_option maxRecDepth 4000 in
theorem C_keep {G : GG} {b L : Nat} {xs : Nat → Int32} {ck sk : Nat} (hd : HARDP) (hck : ck ≤ 600000 ∧ sk ≤ 7302250) (hL : L ≤ 2560) {i : Nat} (hi : i + 5 ≤ L) {hh : HH} (hI : Inv G hh) (K : ∀ hh1, Inv G hh1 → LR G b L xs ck sk 998 [(0, .ref b), (1, .ref (ad G 0)), (2, .ref (ad G 144)), (3, .int (nI i))] [] hh1) : LR G b L xs ck sk 421 [(0, .ref b), (1, .ref (ad G 0)), (2, .ref (ad G 144)), (3, .int (nI i))] [] hh := by
  refine J_aload_n dL_law_421 rfl ?_
  refine J_aload_n dL_law_422 rfl ?_
  refine J_iload_n dL_law_423 rfl ?_
  refine J_iconst (v := 1) dL_law_424 (by decide) ?_
  refine J_iadd dL_law_425 ?_
  refine LR.top (y := nI (i + 1)) (nI_add i 1) ?_
  refine J_sld (j := i + 1) (by omega) (by omega) dL_law_426 ?_
  refine J_callVi dL_law_427 cv_L_60 ⟨by decide, by decide⟩ hck (L_keep hd hI (xs (i + 1))) hI.c0 rfl rfl rfl (Nat.le_of_ble_eq_true rfl) (fun y hh1 hp => ?_)
  obtain ⟨⟨fs, hm⟩, hE⟩ := hp
  refine J_aload_n dL_law_430 rfl ?_
  refine J_aload_n dL_law_431 rfl ?_
  refine J_iload_n dL_law_432 rfl ?_
  refine J_iconst (v := 1) dL_law_433 (by decide) ?_
  refine J_iadd dL_law_434 ?_
  refine LR.top (y := nI (i + 1)) (nI_add i 1) ?_
  refine J_sld (j := i + 1) (by omega) (by omega) dL_law_435 ?_
  refine J_callVi dL_law_436 cv_L_63 ⟨by decide, by decide⟩ hck hE hm rfl rfl rfl (Nat.le_of_ble_eq_true rfl) (fun y2 hh2 hq => ?_)
  obtain ⟨rfl, hI2⟩ := hq
  exact J_icmp_eq (tgt := 998) dL_law_439 (by decide) (fun _ => K hh2 hI2) (fun c9 => absurd rfl c9)
set_option maxRecDepth 4000 in
theorem C_back {G : GG} {b L : Nat} {xs : Nat → Int32} {ck sk : Nat} (hd : HARDP) (hck : ck ≤ 600000 ∧ sk ≤ 7302250) (hL : L ≤ 2560) {i : Nat} (hi : i + 5 ≤ L) {hh : HH} (hI : Inv G hh) (K : ∀ hh1, Inv G hh1 → LR G b L xs ck sk 998 [(0, .ref b), (1, .ref (ad G 0)), (2, .ref (ad G 144)), (3, .int (nI i))] [] hh1) : LR G b L xs ck sk 444 [(0, .ref b), (1, .ref (ad G 0)), (2, .ref (ad G 144)), (3, .int (nI i))] [] hh := by
  refine J_aload_n dL_law_444 rfl ?_
  refine J_aload_n dL_law_445 rfl ?_
  refine J_iload_n dL_law_446 rfl ?_
  refine J_iconst (v := 1) dL_law_447 (by decide) ?_
  refine J_iadd dL_law_448 ?_
  refine LR.top (y := nI (i + 1)) (nI_add i 1) ?_
  refine J_sld (j := i + 1) (by omega) (by omega) dL_law_449 ?_
  refine J_callVi dL_law_450 cv_L_64 ⟨by decide, by decide⟩ hck (L_back hd hI (xs (i + 1))) hI.c0 rfl rfl rfl (Nat.le_of_ble_eq_true rfl) (fun y hh1 hp => ?_)
  obtain ⟨⟨fs, hm⟩, hE⟩ := hp
  refine J_aload_n dL_law_453 rfl ?_
  refine J_aload_n dL_law_454 rfl ?_
  refine J_iload_n dL_law_455 rfl ?_
  refine J_iconst (v := 1) dL_law_456 (by decide) ?_
  refine J_iadd dL_law_457 ?_
  refine LR.top (y := nI (i + 1)) (nI_add i 1) ?_
  refine J_sld (j := i + 1) (by omega) (by omega) dL_law_458 ?_
  refine J_callVi dL_law_459 cv_L_67 ⟨by decide, by decide⟩ hck hE hm rfl rfl rfl (Nat.le_of_ble_eq_true rfl) (fun y2 hh2 hq => ?_)
  obtain ⟨rfl, hI2⟩ := hq
  exact J_icmp_eq (tgt := 998) dL_law_462 (by decide) (fun _ => K hh2 hI2) (fun c9 => absurd rfl c9)
set_option maxRecDepth 4000 in
theorem C_writing {G : GG} {b L : Nat} {xs : Nat → Int32} {ck sk : Nat} (hd : HARDP) (hck : ck ≤ 600000 ∧ sk ≤ 7302250) (hL : L ≤ 2560) {i : Nat} (hi : i + 5 ≤ L) {hh : HH} (hI : Inv G hh) (K : ∀ hh1, Inv G hh1 → LR G b L xs ck sk 998 [(0, .ref b), (1, .ref (ad G 0)), (2, .ref (ad G 144)), (3, .int (nI i))] [] hh1) : LR G b L xs ck sk 467 [(0, .ref b), (1, .ref (ad G 0)), (2, .ref (ad G 144)), (3, .int (nI i))] [] hh := by
  refine J_aload_n dL_law_467 rfl ?_
  refine J_aload_n dL_law_468 rfl ?_
  refine J_iload_n dL_law_469 rfl ?_
  refine J_iconst (v := 1) dL_law_470 (by decide) ?_
  refine J_iadd dL_law_471 ?_
  refine LR.top (y := nI (i + 1)) (nI_add i 1) ?_
  refine J_sld (j := i + 1) (by omega) (by omega) dL_law_472 ?_
  refine J_callVi dL_law_473 cv_L_68 ⟨by decide, by decide⟩ hck (L_writing hd hI (xs (i + 1))) hI.c0 rfl rfl rfl (Nat.le_of_ble_eq_true rfl) (fun y hh1 hp => ?_)
  obtain ⟨⟨fs, hm⟩, hE⟩ := hp
  refine J_aload_n dL_law_476 rfl ?_
  refine J_aload_n dL_law_477 rfl ?_
  refine J_iload_n dL_law_478 rfl ?_
  refine J_iconst (v := 1) dL_law_479 (by decide) ?_
  refine J_iadd dL_law_480 ?_
  refine LR.top (y := nI (i + 1)) (nI_add i 1) ?_
  refine J_sld (j := i + 1) (by omega) (by omega) dL_law_481 ?_
  refine J_callVi dL_law_482 cv_L_71 ⟨by decide, by decide⟩ hck hE hm rfl rfl rfl (Nat.le_of_ble_eq_true rfl) (fun y2 hh2 hq => ?_)
  obtain ⟨rfl, hI2⟩ := hq
  exact J_icmp_eq (tgt := 998) dL_law_485 (by decide) (fun _ => K hh2 hI2) (fun c9 => absurd rfl c9)
set_option maxRecDepth 4000 in
theorem C_sealOf {G : GG} {b L : Nat} {xs : Nat → Int32} {ck sk : Nat} (hd : HARDP) (hck : ck ≤ 600000 ∧ sk ≤ 7302250) (hL : L ≤ 2560) {i : Nat} (hi : i + 5 ≤ L) {hh : HH} (hI : Inv G hh) (K : ∀ hh1, Inv G hh1 → LR G b L xs ck sk 998 [(0, .ref b), (1, .ref (ad G 0)), (2, .ref (ad G 144)), (3, .int (nI i))] [] hh1) : LR G b L xs ck sk 490 [(0, .ref b), (1, .ref (ad G 0)), (2, .ref (ad G 144)), (3, .int (nI i))] [] hh := by
  refine J_aload_n dL_law_490 rfl ?_
  refine J_aload_n dL_law_491 rfl ?_
  refine J_iload_n dL_law_492 rfl ?_
  refine J_iconst (v := 1) dL_law_493 (by decide) ?_
  refine J_iadd dL_law_494 ?_
  refine LR.top (y := nI (i + 1)) (nI_add i 1) ?_
  refine J_sld (j := i + 1) (by omega) (by omega) dL_law_495 ?_
  refine J_aload_n dL_law_496 rfl ?_
  refine J_iload_n dL_law_497 rfl ?_
  refine J_iconst (v := 2) dL_law_498 (by decide) ?_
  refine J_iadd dL_law_499 ?_
  refine LR.top (y := nI (i + 2)) (nI_add i 2) ?_
  refine J_sld (j := i + 2) (by omega) (by omega) dL_law_500 ?_
  refine J_callVi dL_law_501 cv_L_72 ⟨by decide, by decide⟩ hck (L_sealOf hd hI (xs (i + 1)) (xs (i + 2))) hI.c0 rfl rfl rfl (Nat.le_of_ble_eq_true rfl) (fun y hh1 hp => ?_)
  obtain ⟨⟨fs, hm⟩, hE⟩ := hp
  refine J_aload_n dL_law_504 rfl ?_
  refine J_aload_n dL_law_505 rfl ?_
  refine J_iload_n dL_law_506 rfl ?_
  refine J_iconst (v := 1) dL_law_507 (by decide) ?_
  refine J_iadd dL_law_508 ?_
  refine LR.top (y := nI (i + 1)) (nI_add i 1) ?_
  refine J_sld (j := i + 1) (by omega) (by omega) dL_law_509 ?_
  refine J_aload_n dL_law_510 rfl ?_
  refine J_iload_n dL_law_511 rfl ?_
  refine J_iconst (v := 2) dL_law_512 (by decide) ?_
  refine J_iadd dL_law_513 ?_
  refine LR.top (y := nI (i + 2)) (nI_add i 2) ?_
  refine J_sld (j := i + 2) (by omega) (by omega) dL_law_514 ?_
  refine J_callVi dL_law_515 cv_L_75 ⟨by decide, by decide⟩ hck hE hm rfl rfl rfl (Nat.le_of_ble_eq_true rfl) (fun y2 hh2 hq => ?_)
  obtain ⟨rfl, hI2⟩ := hq
  exact J_icmp_eq (tgt := 998) dL_law_518 (by decide) (fun _ => K hh2 hI2) (fun c9 => absurd rfl c9)
set_option maxRecDepth 4000 in
theorem C_weight {G : GG} {b L : Nat} {xs : Nat → Int32} {ck sk : Nat} (hd : HARDP) (hck : ck ≤ 600000 ∧ sk ≤ 7302250) (hL : L ≤ 2560) {i : Nat} (hi : i + 5 ≤ L) {hh : HH} (hI : Inv G hh) (K : ∀ hh1, Inv G hh1 → LR G b L xs ck sk 998 [(0, .ref b), (1, .ref (ad G 0)), (2, .ref (ad G 144)), (3, .int (nI i))] [] hh1) : LR G b L xs ck sk 523 [(0, .ref b), (1, .ref (ad G 0)), (2, .ref (ad G 144)), (3, .int (nI i))] [] hh := by
  refine J_aload_n dL_law_523 rfl ?_
  refine J_aload_n dL_law_524 rfl ?_
  refine J_iload_n dL_law_525 rfl ?_
  refine J_iconst (v := 1) dL_law_526 (by decide) ?_
  refine J_iadd dL_law_527 ?_
  refine LR.top (y := nI (i + 1)) (nI_add i 1) ?_
  refine J_sld (j := i + 1) (by omega) (by omega) dL_law_528 ?_
  refine J_aload_n dL_law_529 rfl ?_
  refine J_iload_n dL_law_530 rfl ?_
  refine J_iconst (v := 2) dL_law_531 (by decide) ?_
  refine J_iadd dL_law_532 ?_
  refine LR.top (y := nI (i + 2)) (nI_add i 2) ?_
  refine J_sld (j := i + 2) (by omega) (by omega) dL_law_533 ?_
  refine J_callVi dL_law_534 cv_L_76 ⟨by decide, by decide⟩ hck (L_weight hd hI (xs (i + 1)) (xs (i + 2))) hI.c0 rfl rfl rfl (Nat.le_of_ble_eq_true rfl) (fun y hh1 hp => ?_)
  obtain ⟨⟨fs, hm⟩, hE⟩ := hp
  refine J_aload_n dL_law_537 rfl ?_
  refine J_aload_n dL_law_538 rfl ?_
  refine J_iload_n dL_law_539 rfl ?_
  refine J_iconst (v := 1) dL_law_540 (by decide) ?_
  refine J_iadd dL_law_541 ?_
  refine LR.top (y := nI (i + 1)) (nI_add i 1) ?_
  refine J_sld (j := i + 1) (by omega) (by omega) dL_law_542 ?_
  refine J_aload_n dL_law_543 rfl ?_
  refine J_iload_n dL_law_544 rfl ?_
  refine J_iconst (v := 2) dL_law_545 (by decide) ?_
  refine J_iadd dL_law_546 ?_
  refine LR.top (y := nI (i + 2)) (nI_add i 2) ?_
  refine J_sld (j := i + 2) (by omega) (by omega) dL_law_547 ?_
  refine J_callVi dL_law_548 cv_L_79 ⟨by decide, by decide⟩ hck hE hm rfl rfl rfl (Nat.le_of_ble_eq_true rfl) (fun y2 hh2 hq => ?_)
  obtain ⟨rfl, hI2⟩ := hq
  exact J_icmp_eq (tgt := 998) dL_law_551 (by decide) (fun _ => K hh2 hI2) (fun c9 => absurd rfl c9)
set_option maxRecDepth 4000 in
theorem C_odds {G : GG} {b L : Nat} {xs : Nat → Int32} {ck sk : Nat} (hd : HARDP) (hck : ck ≤ 600000 ∧ sk ≤ 7302250) (hL : L ≤ 2560) {i : Nat} (hi : i + 5 ≤ L) {hh : HH} (hI : Inv G hh) (K : ∀ hh1, Inv G hh1 → LR G b L xs ck sk 998 [(0, .ref b), (1, .ref (ad G 0)), (2, .ref (ad G 144)), (3, .int (nI i))] [] hh1) : LR G b L xs ck sk 556 [(0, .ref b), (1, .ref (ad G 0)), (2, .ref (ad G 144)), (3, .int (nI i))] [] hh := by
  refine J_aload_n dL_law_556 rfl ?_
  refine J_aload_n dL_law_557 rfl ?_
  refine J_iload_n dL_law_558 rfl ?_
  refine J_iconst (v := 1) dL_law_559 (by decide) ?_
  refine J_iadd dL_law_560 ?_
  refine LR.top (y := nI (i + 1)) (nI_add i 1) ?_
  refine J_sld (j := i + 1) (by omega) (by omega) dL_law_561 ?_
  refine J_aload_n dL_law_562 rfl ?_
  refine J_iload_n dL_law_563 rfl ?_
  refine J_iconst (v := 2) dL_law_564 (by decide) ?_
  refine J_iadd dL_law_565 ?_
  refine LR.top (y := nI (i + 2)) (nI_add i 2) ?_
  refine J_sld (j := i + 2) (by omega) (by omega) dL_law_566 ?_
  refine J_aload_n dL_law_567 rfl ?_
  refine J_iload_n dL_law_568 rfl ?_
  refine J_iconst (v := 3) dL_law_569 (by decide) ?_
  refine J_iadd dL_law_570 ?_
  refine LR.top (y := nI (i + 3)) (nI_add i 3) ?_
  refine J_sld (j := i + 3) (by omega) (by omega) dL_law_571 ?_
  refine J_aload_n dL_law_572 rfl ?_
  refine J_iload_n dL_law_573 rfl ?_
  refine J_iconst (v := 4) dL_law_574 (by decide) ?_
  refine J_iadd dL_law_575 ?_
  refine LR.top (y := nI (i + 4)) (nI_add i 4) ?_
  refine J_sld (j := i + 4) (by omega) (by omega) dL_law_576 ?_
  refine J_callVi dL_law_577 cv_L_80 ⟨by decide, by decide⟩ hck (L_odds hd hI (xs (i + 1)) (xs (i + 2)) (xs (i + 3)) (xs (i + 4))) hI.c0 rfl rfl rfl (Nat.le_of_ble_eq_true rfl) (fun y hh1 hp => ?_)
  obtain ⟨⟨fs, hm⟩, hE⟩ := hp
  refine J_aload_n dL_law_580 rfl ?_
  refine J_aload_n dL_law_581 rfl ?_
  refine J_iload_n dL_law_582 rfl ?_
  refine J_iconst (v := 1) dL_law_583 (by decide) ?_
  refine J_iadd dL_law_584 ?_
  refine LR.top (y := nI (i + 1)) (nI_add i 1) ?_
  refine J_sld (j := i + 1) (by omega) (by omega) dL_law_585 ?_
  refine J_aload_n dL_law_586 rfl ?_
  refine J_iload_n dL_law_587 rfl ?_
  refine J_iconst (v := 2) dL_law_588 (by decide) ?_
  refine J_iadd dL_law_589 ?_
  refine LR.top (y := nI (i + 2)) (nI_add i 2) ?_
  refine J_sld (j := i + 2) (by omega) (by omega) dL_law_590 ?_
  refine J_aload_n dL_law_591 rfl ?_
  refine J_iload_n dL_law_592 rfl ?_
  refine J_iconst (v := 3) dL_law_593 (by decide) ?_
  refine J_iadd dL_law_594 ?_
  refine LR.top (y := nI (i + 3)) (nI_add i 3) ?_
  refine J_sld (j := i + 3) (by omega) (by omega) dL_law_595 ?_
  refine J_aload_n dL_law_596 rfl ?_
  refine J_iload_n dL_law_597 rfl ?_
  refine J_iconst (v := 4) dL_law_598 (by decide) ?_
  refine J_iadd dL_law_599 ?_
  refine LR.top (y := nI (i + 4)) (nI_add i 4) ?_
  refine J_sld (j := i + 4) (by omega) (by omega) dL_law_600 ?_
  refine J_callVi dL_law_601 cv_L_84 ⟨by decide, by decide⟩ hck hE hm rfl rfl rfl (Nat.le_of_ble_eq_true rfl) (fun y2 hh2 hq => ?_)
  obtain ⟨rfl, hI2⟩ := hq
  exact J_icmp_eq (tgt := 998) dL_law_604 (by decide) (fun _ => K hh2 hI2) (fun c9 => absurd rfl c9)
set_option maxRecDepth 4000 in
theorem C_next {G : GG} {b L : Nat} {xs : Nat → Int32} {ck sk : Nat} (hd : HARDP) (hck : ck ≤ 600000 ∧ sk ≤ 7302250) (hL : L ≤ 2560) {i : Nat} (hi : i + 5 ≤ L) {hh : HH} (hI : Inv G hh) (K : ∀ hh1, Inv G hh1 → LR G b L xs ck sk 998 [(0, .ref b), (1, .ref (ad G 0)), (2, .ref (ad G 144)), (3, .int (nI i))] [] hh1) : LR G b L xs ck sk 609 [(0, .ref b), (1, .ref (ad G 0)), (2, .ref (ad G 144)), (3, .int (nI i))] [] hh := by
  refine J_aload_n dL_law_609 rfl ?_
  refine J_aload_n dL_law_610 rfl ?_
  refine J_iload_n dL_law_611 rfl ?_
  refine J_iconst (v := 1) dL_law_612 (by decide) ?_
  refine J_iadd dL_law_613 ?_
  refine LR.top (y := nI (i + 1)) (nI_add i 1) ?_
  refine J_sld (j := i + 1) (by omega) (by omega) dL_law_614 ?_
  refine J_aload_n dL_law_615 rfl ?_
  refine J_iload_n dL_law_616 rfl ?_
  refine J_iconst (v := 2) dL_law_617 (by decide) ?_
  refine J_iadd dL_law_618 ?_
  refine LR.top (y := nI (i + 2)) (nI_add i 2) ?_
  refine J_sld (j := i + 2) (by omega) (by omega) dL_law_619 ?_
  refine J_callVi dL_law_620 cv_L_85 ⟨by decide, by decide⟩ hck (L_next hd hI (xs (i + 1)) (xs (i + 2))) hI.c0 rfl rfl rfl (Nat.le_of_ble_eq_true rfl) (fun y hh1 hp => ?_)
  obtain ⟨⟨fs, hm⟩, hE⟩ := hp
  refine J_aload_n dL_law_623 rfl ?_
  refine J_aload_n dL_law_624 rfl ?_
  refine J_iload_n dL_law_625 rfl ?_
  refine J_iconst (v := 1) dL_law_626 (by decide) ?_
  refine J_iadd dL_law_627 ?_
  refine LR.top (y := nI (i + 1)) (nI_add i 1) ?_
  refine J_sld (j := i + 1) (by omega) (by omega) dL_law_628 ?_
  refine J_aload_n dL_law_629 rfl ?_
  refine J_iload_n dL_law_630 rfl ?_
  refine J_iconst (v := 2) dL_law_631 (by decide) ?_
  refine J_iadd dL_law_632 ?_
  refine LR.top (y := nI (i + 2)) (nI_add i 2) ?_
  refine J_sld (j := i + 2) (by omega) (by omega) dL_law_633 ?_
  refine J_callVi dL_law_634 cv_L_88 ⟨by decide, by decide⟩ hck hE hm rfl rfl rfl (Nat.le_of_ble_eq_true rfl) (fun y2 hh2 hq => ?_)
  obtain ⟨rfl, hI2⟩ := hq
  exact J_icmp_eq (tgt := 998) dL_law_637 (by decide) (fun _ => K hh2 hI2) (fun c9 => absurd rfl c9)
set_option maxRecDepth 4000 in
theorem C_count {G : GG} {b L : Nat} {xs : Nat → Int32} {ck sk : Nat} (hd : HARDP) (hck : ck ≤ 600000 ∧ sk ≤ 7302250) (hL : L ≤ 2560) {i : Nat} (hi : i + 5 ≤ L) {hh : HH} (hI : Inv G hh) (K : ∀ hh1, Inv G hh1 → LR G b L xs ck sk 998 [(0, .ref b), (1, .ref (ad G 0)), (2, .ref (ad G 144)), (3, .int (nI i))] [] hh1) : LR G b L xs ck sk 642 [(0, .ref b), (1, .ref (ad G 0)), (2, .ref (ad G 144)), (3, .int (nI i))] [] hh := by
  refine J_aload_n dL_law_642 rfl ?_
  refine J_aload_n dL_law_643 rfl ?_
  refine J_iload_n dL_law_644 rfl ?_
  refine J_iconst (v := 1) dL_law_645 (by decide) ?_
  refine J_iadd dL_law_646 ?_
  refine LR.top (y := nI (i + 1)) (nI_add i 1) ?_
  refine J_sld (j := i + 1) (by omega) (by omega) dL_law_647 ?_
  refine J_aload_n dL_law_648 rfl ?_
  refine J_iload_n dL_law_649 rfl ?_
  refine J_iconst (v := 2) dL_law_650 (by decide) ?_
  refine J_iadd dL_law_651 ?_
  refine LR.top (y := nI (i + 2)) (nI_add i 2) ?_
  refine J_sld (j := i + 2) (by omega) (by omega) dL_law_652 ?_
  refine J_callVi dL_law_653 cv_L_89 ⟨by decide, by decide⟩ hck (L_count hd hI (xs (i + 1)) (xs (i + 2))) hI.c0 rfl rfl rfl (Nat.le_of_ble_eq_true rfl) (fun y hh1 hp => ?_)
  obtain ⟨⟨fs, hm⟩, hE⟩ := hp
  refine J_aload_n dL_law_656 rfl ?_
  refine J_aload_n dL_law_657 rfl ?_
  refine J_iload_n dL_law_658 rfl ?_
  refine J_iconst (v := 1) dL_law_659 (by decide) ?_
  refine J_iadd dL_law_660 ?_
  refine LR.top (y := nI (i + 1)) (nI_add i 1) ?_
  refine J_sld (j := i + 1) (by omega) (by omega) dL_law_661 ?_
  refine J_aload_n dL_law_662 rfl ?_
  refine J_iload_n dL_law_663 rfl ?_
  refine J_iconst (v := 2) dL_law_664 (by decide) ?_
  refine J_iadd dL_law_665 ?_
  refine LR.top (y := nI (i + 2)) (nI_add i 2) ?_
  refine J_sld (j := i + 2) (by omega) (by omega) dL_law_666 ?_
  refine J_callVi dL_law_667 cv_L_92 ⟨by decide, by decide⟩ hck hE hm rfl rfl rfl (Nat.le_of_ble_eq_true rfl) (fun y2 hh2 hq => ?_)
  obtain ⟨rfl, hI2⟩ := hq
  exact J_icmp_eq (tgt := 998) dL_law_670 (by decide) (fun _ => K hh2 hI2) (fun c9 => absurd rfl c9)
set_option maxRecDepth 4000 in
theorem C_like {G : GG} {b L : Nat} {xs : Nat → Int32} {ck sk : Nat} (hd : HARDP) (hck : ck ≤ 600000 ∧ sk ≤ 7302250) (hL : L ≤ 2560) {i : Nat} (hi : i + 5 ≤ L) {hh : HH} (hI : Inv G hh) (K : ∀ hh1, Inv G hh1 → LR G b L xs ck sk 998 [(0, .ref b), (1, .ref (ad G 0)), (2, .ref (ad G 144)), (3, .int (nI i))] [] hh1) : LR G b L xs ck sk 675 [(0, .ref b), (1, .ref (ad G 0)), (2, .ref (ad G 144)), (3, .int (nI i))] [] hh := by
  refine J_aload_n dL_law_675 rfl ?_
  refine J_aload_n dL_law_676 rfl ?_
  refine J_iload_n dL_law_677 rfl ?_
  refine J_iconst (v := 1) dL_law_678 (by decide) ?_
  refine J_iadd dL_law_679 ?_
  refine LR.top (y := nI (i + 1)) (nI_add i 1) ?_
  refine J_sld (j := i + 1) (by omega) (by omega) dL_law_680 ?_
  refine J_callVi dL_law_681 cv_L_93 ⟨by decide, by decide⟩ hck (L_like hd hI (xs (i + 1))) hI.c0 rfl rfl rfl (Nat.le_of_ble_eq_true rfl) (fun y hh1 hp => ?_)
  obtain ⟨⟨fs, hm⟩, hE⟩ := hp
  refine J_aload_n dL_law_684 rfl ?_
  refine J_aload_n dL_law_685 rfl ?_
  refine J_iload_n dL_law_686 rfl ?_
  refine J_iconst (v := 1) dL_law_687 (by decide) ?_
  refine J_iadd dL_law_688 ?_
  refine LR.top (y := nI (i + 1)) (nI_add i 1) ?_
  refine J_sld (j := i + 1) (by omega) (by omega) dL_law_689 ?_
  refine J_callVi dL_law_690 cv_L_96 ⟨by decide, by decide⟩ hck hE hm rfl rfl rfl (Nat.le_of_ble_eq_true rfl) (fun y2 hh2 hq => ?_)
  obtain ⟨rfl, hI2⟩ := hq
  exact J_icmp_eq (tgt := 998) dL_law_693 (by decide) (fun _ => K hh2 hI2) (fun c9 => absurd rfl c9)
set_option maxRecDepth 4000 in
theorem C_slip {G : GG} {b L : Nat} {xs : Nat → Int32} {ck sk : Nat} (hd : HARDP) (hck : ck ≤ 600000 ∧ sk ≤ 7302250) (hL : L ≤ 2560) {i : Nat} (hi : i + 5 ≤ L) {hh : HH} (hI : Inv G hh) (K : ∀ hh1, Inv G hh1 → LR G b L xs ck sk 998 [(0, .ref b), (1, .ref (ad G 0)), (2, .ref (ad G 144)), (3, .int (nI i))] [] hh1) : LR G b L xs ck sk 698 [(0, .ref b), (1, .ref (ad G 0)), (2, .ref (ad G 144)), (3, .int (nI i))] [] hh := by
  refine J_aload_n dL_law_698 rfl ?_
  refine J_aload_n dL_law_699 rfl ?_
  refine J_iload_n dL_law_700 rfl ?_
  refine J_iconst (v := 1) dL_law_701 (by decide) ?_
  refine J_iadd dL_law_702 ?_
  refine LR.top (y := nI (i + 1)) (nI_add i 1) ?_
  refine J_sld (j := i + 1) (by omega) (by omega) dL_law_703 ?_
  refine J_callVi dL_law_704 cv_L_97 ⟨by decide, by decide⟩ hck (L_slip hd hI (xs (i + 1))) hI.c0 rfl rfl rfl (Nat.le_of_ble_eq_true rfl) (fun y hh1 hp => ?_)
  obtain ⟨⟨fs, hm⟩, hE⟩ := hp
  refine J_aload_n dL_law_707 rfl ?_
  refine J_aload_n dL_law_708 rfl ?_
  refine J_iload_n dL_law_709 rfl ?_
  refine J_iconst (v := 1) dL_law_710 (by decide) ?_
  refine J_iadd dL_law_711 ?_
  refine LR.top (y := nI (i + 1)) (nI_add i 1) ?_
  refine J_sld (j := i + 1) (by omega) (by omega) dL_law_712 ?_
  refine J_callVi dL_law_713 cv_L_100 ⟨by decide, by decide⟩ hck hE hm rfl rfl rfl (Nat.le_of_ble_eq_true rfl) (fun y2 hh2 hq => ?_)
  obtain ⟨rfl, hI2⟩ := hq
  exact J_icmp_eq (tgt := 998) dL_law_716 (by decide) (fun _ => K hh2 hI2) (fun c9 => absurd rfl c9)
set_option maxRecDepth 4000 in
theorem C_insert {G : GG} {b L : Nat} {xs : Nat → Int32} {ck sk : Nat} (hd : HARDP) (hck : ck ≤ 600000 ∧ sk ≤ 7302250) (hL : L ≤ 2560) {i : Nat} (hi : i + 5 ≤ L) {hh : HH} (hI : Inv G hh) (K : ∀ hh1, Inv G hh1 → LR G b L xs ck sk 998 [(0, .ref b), (1, .ref (ad G 0)), (2, .ref (ad G 144)), (3, .int (nI i))] [] hh1) : LR G b L xs ck sk 721 [(0, .ref b), (1, .ref (ad G 0)), (2, .ref (ad G 144)), (3, .int (nI i))] [] hh := by
  refine J_aload_n dL_law_721 rfl ?_
  refine J_aload_n dL_law_722 rfl ?_
  refine J_iload_n dL_law_723 rfl ?_
  refine J_iconst (v := 1) dL_law_724 (by decide) ?_
  refine J_iadd dL_law_725 ?_
  refine LR.top (y := nI (i + 1)) (nI_add i 1) ?_
  refine J_sld (j := i + 1) (by omega) (by omega) dL_law_726 ?_
  refine J_aload_n dL_law_727 rfl ?_
  refine J_iload_n dL_law_728 rfl ?_
  refine J_iconst (v := 2) dL_law_729 (by decide) ?_
  refine J_iadd dL_law_730 ?_
  refine LR.top (y := nI (i + 2)) (nI_add i 2) ?_
  refine J_sld (j := i + 2) (by omega) (by omega) dL_law_731 ?_
  refine J_aload_n dL_law_732 rfl ?_
  refine J_iload_n dL_law_733 rfl ?_
  refine J_iconst (v := 3) dL_law_734 (by decide) ?_
  refine J_iadd dL_law_735 ?_
  refine LR.top (y := nI (i + 3)) (nI_add i 3) ?_
  refine J_sld (j := i + 3) (by omega) (by omega) dL_law_736 ?_
  refine J_callVi dL_law_737 cv_L_101 ⟨by decide, by decide⟩ hck (L_insert hd hI (xs (i + 1)) (xs (i + 2)) (xs (i + 3))) hI.c0 rfl rfl rfl (Nat.le_of_ble_eq_true rfl) (fun y hh1 hp => ?_)
  obtain ⟨⟨fs, hm⟩, hE⟩ := hp
  refine J_aload_n dL_law_740 rfl ?_
  refine J_aload_n dL_law_741 rfl ?_
  refine J_iload_n dL_law_742 rfl ?_
  refine J_iconst (v := 1) dL_law_743 (by decide) ?_
  refine J_iadd dL_law_744 ?_
  refine LR.top (y := nI (i + 1)) (nI_add i 1) ?_
  refine J_sld (j := i + 1) (by omega) (by omega) dL_law_745 ?_
  refine J_aload_n dL_law_746 rfl ?_
  refine J_iload_n dL_law_747 rfl ?_
  refine J_iconst (v := 2) dL_law_748 (by decide) ?_
  refine J_iadd dL_law_749 ?_
  refine LR.top (y := nI (i + 2)) (nI_add i 2) ?_
  refine J_sld (j := i + 2) (by omega) (by omega) dL_law_750 ?_
  refine J_aload_n dL_law_751 rfl ?_
  refine J_iload_n dL_law_752 rfl ?_
  refine J_iconst (v := 3) dL_law_753 (by decide) ?_
  refine J_iadd dL_law_754 ?_
  refine LR.top (y := nI (i + 3)) (nI_add i 3) ?_
  refine J_sld (j := i + 3) (by omega) (by omega) dL_law_755 ?_
  refine J_callVi dL_law_756 cv_L_105 ⟨by decide, by decide⟩ hck hE hm rfl rfl rfl (Nat.le_of_ble_eq_true rfl) (fun y2 hh2 hq => ?_)
  obtain ⟨rfl, hI2⟩ := hq
  exact J_icmp_eq (tgt := 998) dL_law_759 (by decide) (fun _ => K hh2 hI2) (fun c9 => absurd rfl c9)
set_option maxRecDepth 4000 in
theorem C_cut {G : GG} {b L : Nat} {xs : Nat → Int32} {ck sk : Nat} (hd : HARDP) (hck : ck ≤ 600000 ∧ sk ≤ 7302250) (hL : L ≤ 2560) {i : Nat} (hi : i + 5 ≤ L) {hh : HH} (hI : Inv G hh) (K : ∀ hh1, Inv G hh1 → LR G b L xs ck sk 998 [(0, .ref b), (1, .ref (ad G 0)), (2, .ref (ad G 144)), (3, .int (nI i))] [] hh1) : LR G b L xs ck sk 764 [(0, .ref b), (1, .ref (ad G 0)), (2, .ref (ad G 144)), (3, .int (nI i))] [] hh := by
  refine J_aload_n dL_law_764 rfl ?_
  refine J_aload_n dL_law_765 rfl ?_
  refine J_iload_n dL_law_766 rfl ?_
  refine J_iconst (v := 1) dL_law_767 (by decide) ?_
  refine J_iadd dL_law_768 ?_
  refine LR.top (y := nI (i + 1)) (nI_add i 1) ?_
  refine J_sld (j := i + 1) (by omega) (by omega) dL_law_769 ?_
  refine J_aload_n dL_law_770 rfl ?_
  refine J_iload_n dL_law_771 rfl ?_
  refine J_iconst (v := 2) dL_law_772 (by decide) ?_
  refine J_iadd dL_law_773 ?_
  refine LR.top (y := nI (i + 2)) (nI_add i 2) ?_
  refine J_sld (j := i + 2) (by omega) (by omega) dL_law_774 ?_
  refine J_aload_n dL_law_775 rfl ?_
  refine J_iload_n dL_law_776 rfl ?_
  refine J_iconst (v := 3) dL_law_777 (by decide) ?_
  refine J_iadd dL_law_778 ?_
  refine LR.top (y := nI (i + 3)) (nI_add i 3) ?_
  refine J_sld (j := i + 3) (by omega) (by omega) dL_law_779 ?_
  refine J_callVi dL_law_780 cv_L_106 ⟨by decide, by decide⟩ hck (L_cut hd hI (xs (i + 1)) (xs (i + 2)) (xs (i + 3))) hI.c0 rfl rfl rfl (Nat.le_of_ble_eq_true rfl) (fun y hh1 hp => ?_)
  obtain ⟨⟨fs, hm⟩, hE⟩ := hp
  refine J_aload_n dL_law_783 rfl ?_
  refine J_aload_n dL_law_784 rfl ?_
  refine J_iload_n dL_law_785 rfl ?_
  refine J_iconst (v := 1) dL_law_786 (by decide) ?_
  refine J_iadd dL_law_787 ?_
  refine LR.top (y := nI (i + 1)) (nI_add i 1) ?_
  refine J_sld (j := i + 1) (by omega) (by omega) dL_law_788 ?_
  refine J_aload_n dL_law_789 rfl ?_
  refine J_iload_n dL_law_790 rfl ?_
  refine J_iconst (v := 2) dL_law_791 (by decide) ?_
  refine J_iadd dL_law_792 ?_
  refine LR.top (y := nI (i + 2)) (nI_add i 2) ?_
  refine J_sld (j := i + 2) (by omega) (by omega) dL_law_793 ?_
  refine J_aload_n dL_law_794 rfl ?_
  refine J_iload_n dL_law_795 rfl ?_
  refine J_iconst (v := 3) dL_law_796 (by decide) ?_
  refine J_iadd dL_law_797 ?_
  refine LR.top (y := nI (i + 3)) (nI_add i 3) ?_
  refine J_sld (j := i + 3) (by omega) (by omega) dL_law_798 ?_
  refine J_callVi dL_law_799 cv_L_109 ⟨by decide, by decide⟩ hck hE hm rfl rfl rfl (Nat.le_of_ble_eq_true rfl) (fun y2 hh2 hq => ?_)
  obtain ⟨rfl, hI2⟩ := hq
  exact J_icmp_eq (tgt := 998) dL_law_802 (by decide) (fun _ => K hh2 hI2) (fun c9 => absurd rfl c9)
set_option maxRecDepth 4000 in
theorem C_join {G : GG} {b L : Nat} {xs : Nat → Int32} {ck sk : Nat} (hd : HARDP) (hck : ck ≤ 600000 ∧ sk ≤ 7302250) (hL : L ≤ 2560) {i : Nat} (hi : i + 5 ≤ L) {hh : HH} (hI : Inv G hh) (K : ∀ hh1, Inv G hh1 → LR G b L xs ck sk 998 [(0, .ref b), (1, .ref (ad G 0)), (2, .ref (ad G 144)), (3, .int (nI i))] [] hh1) : LR G b L xs ck sk 807 [(0, .ref b), (1, .ref (ad G 0)), (2, .ref (ad G 144)), (3, .int (nI i))] [] hh := by
  refine J_aload_n dL_law_807 rfl ?_
  refine J_aload_n dL_law_808 rfl ?_
  refine J_iload_n dL_law_809 rfl ?_
  refine J_iconst (v := 1) dL_law_810 (by decide) ?_
  refine J_iadd dL_law_811 ?_
  refine LR.top (y := nI (i + 1)) (nI_add i 1) ?_
  refine J_sld (j := i + 1) (by omega) (by omega) dL_law_812 ?_
  refine J_aload_n dL_law_813 rfl ?_
  refine J_iload_n dL_law_814 rfl ?_
  refine J_iconst (v := 2) dL_law_815 (by decide) ?_
  refine J_iadd dL_law_816 ?_
  refine LR.top (y := nI (i + 2)) (nI_add i 2) ?_
  refine J_sld (j := i + 2) (by omega) (by omega) dL_law_817 ?_
  refine J_callVi dL_law_818 cv_L_110 ⟨by decide, by decide⟩ hck (L_join hd hI (xs (i + 1)) (xs (i + 2))) hI.c0 rfl rfl rfl (Nat.le_of_ble_eq_true rfl) (fun y hh1 hp => ?_)
  obtain ⟨⟨fs, hm⟩, hE⟩ := hp
  refine J_aload_n dL_law_821 rfl ?_
  refine J_aload_n dL_law_822 rfl ?_
  refine J_iload_n dL_law_823 rfl ?_
  refine J_iconst (v := 1) dL_law_824 (by decide) ?_
  refine J_iadd dL_law_825 ?_
  refine LR.top (y := nI (i + 1)) (nI_add i 1) ?_
  refine J_sld (j := i + 1) (by omega) (by omega) dL_law_826 ?_
  refine J_aload_n dL_law_827 rfl ?_
  refine J_iload_n dL_law_828 rfl ?_
  refine J_iconst (v := 2) dL_law_829 (by decide) ?_
  refine J_iadd dL_law_830 ?_
  refine LR.top (y := nI (i + 2)) (nI_add i 2) ?_
  refine J_sld (j := i + 2) (by omega) (by omega) dL_law_831 ?_
  refine J_callVi dL_law_832 cv_L_113 ⟨by decide, by decide⟩ hck hE hm rfl rfl rfl (Nat.le_of_ble_eq_true rfl) (fun y2 hh2 hq => ?_)
  obtain ⟨rfl, hI2⟩ := hq
  exact J_icmp_eq (tgt := 998) dL_law_835 (by decide) (fun _ => K hh2 hI2) (fun c9 => absurd rfl c9)
set_option maxRecDepth 4000 in
theorem C_letter {G : GG} {b L : Nat} {xs : Nat → Int32} {ck sk : Nat} (hd : HARDP) (hck : ck ≤ 600000 ∧ sk ≤ 7302250) (hL : L ≤ 2560) {i : Nat} (hi : i + 5 ≤ L) {hh : HH} (hI : Inv G hh) (K : ∀ hh1, Inv G hh1 → LR G b L xs ck sk 998 [(0, .ref b), (1, .ref (ad G 0)), (2, .ref (ad G 144)), (3, .int (nI i))] [] hh1) : LR G b L xs ck sk 840 [(0, .ref b), (1, .ref (ad G 0)), (2, .ref (ad G 144)), (3, .int (nI i))] [] hh := by
  refine J_aload_n dL_law_840 rfl ?_
  refine J_aload_n dL_law_841 rfl ?_
  refine J_iload_n dL_law_842 rfl ?_
  refine J_iconst (v := 1) dL_law_843 (by decide) ?_
  refine J_iadd dL_law_844 ?_
  refine LR.top (y := nI (i + 1)) (nI_add i 1) ?_
  refine J_sld (j := i + 1) (by omega) (by omega) dL_law_845 ?_
  refine J_aload_n dL_law_846 rfl ?_
  refine J_iload_n dL_law_847 rfl ?_
  refine J_iconst (v := 2) dL_law_848 (by decide) ?_
  refine J_iadd dL_law_849 ?_
  refine LR.top (y := nI (i + 2)) (nI_add i 2) ?_
  refine J_sld (j := i + 2) (by omega) (by omega) dL_law_850 ?_
  refine J_callVi dL_law_851 cv_L_114 ⟨by decide, by decide⟩ hck (L_letter hd hI (xs (i + 1)) (xs (i + 2))) hI.c0 rfl rfl rfl (Nat.le_of_ble_eq_true rfl) (fun y hh1 hp => ?_)
  obtain ⟨⟨fs, hm⟩, hE⟩ := hp
  refine J_aload_n dL_law_854 rfl ?_
  refine J_aload_n dL_law_855 rfl ?_
  refine J_iload_n dL_law_856 rfl ?_
  refine J_iconst (v := 1) dL_law_857 (by decide) ?_
  refine J_iadd dL_law_858 ?_
  refine LR.top (y := nI (i + 1)) (nI_add i 1) ?_
  refine J_sld (j := i + 1) (by omega) (by omega) dL_law_859 ?_
  refine J_aload_n dL_law_860 rfl ?_
  refine J_iload_n dL_law_861 rfl ?_
  refine J_iconst (v := 2) dL_law_862 (by decide) ?_
  refine J_iadd dL_law_863 ?_
  refine LR.top (y := nI (i + 2)) (nI_add i 2) ?_
  refine J_sld (j := i + 2) (by omega) (by omega) dL_law_864 ?_
  refine J_callVi dL_law_865 cv_L_117 ⟨by decide, by decide⟩ hck hE hm rfl rfl rfl (Nat.le_of_ble_eq_true rfl) (fun y2 hh2 hq => ?_)
  obtain ⟨rfl, hI2⟩ := hq
  exact J_icmp_eq (tgt := 998) dL_law_868 (by decide) (fun _ => K hh2 hI2) (fun c9 => absurd rfl c9)
set_option maxRecDepth 4000 in
theorem C_find {G : GG} {b L : Nat} {xs : Nat → Int32} {ck sk : Nat} (hd : HARDP) (hck : ck ≤ 600000 ∧ sk ≤ 7302250) (hL : L ≤ 2560) {i : Nat} (hi : i + 5 ≤ L) {hh : HH} (hI : Inv G hh) (K : ∀ hh1, Inv G hh1 → LR G b L xs ck sk 998 [(0, .ref b), (1, .ref (ad G 0)), (2, .ref (ad G 144)), (3, .int (nI i))] [] hh1) : LR G b L xs ck sk 873 [(0, .ref b), (1, .ref (ad G 0)), (2, .ref (ad G 144)), (3, .int (nI i))] [] hh := by
  refine J_aload_n dL_law_873 rfl ?_
  refine J_aload_n dL_law_874 rfl ?_
  refine J_iload_n dL_law_875 rfl ?_
  refine J_iconst (v := 1) dL_law_876 (by decide) ?_
  refine J_iadd dL_law_877 ?_
  refine LR.top (y := nI (i + 1)) (nI_add i 1) ?_
  refine J_sld (j := i + 1) (by omega) (by omega) dL_law_878 ?_
  refine J_aload_n dL_law_879 rfl ?_
  refine J_iload_n dL_law_880 rfl ?_
  refine J_iconst (v := 2) dL_law_881 (by decide) ?_
  refine J_iadd dL_law_882 ?_
  refine LR.top (y := nI (i + 2)) (nI_add i 2) ?_
  refine J_sld (j := i + 2) (by omega) (by omega) dL_law_883 ?_
  refine J_callVi dL_law_884 cv_L_118 ⟨by decide, by decide⟩ hck (L_find hd hI (xs (i + 1)) (xs (i + 2))) hI.c0 rfl rfl rfl (Nat.le_of_ble_eq_true rfl) (fun y hh1 hp => ?_)
  obtain ⟨⟨fs, hm⟩, hE⟩ := hp
  refine J_aload_n dL_law_887 rfl ?_
  refine J_aload_n dL_law_888 rfl ?_
  refine J_iload_n dL_law_889 rfl ?_
  refine J_iconst (v := 1) dL_law_890 (by decide) ?_
  refine J_iadd dL_law_891 ?_
  refine LR.top (y := nI (i + 1)) (nI_add i 1) ?_
  refine J_sld (j := i + 1) (by omega) (by omega) dL_law_892 ?_
  refine J_aload_n dL_law_893 rfl ?_
  refine J_iload_n dL_law_894 rfl ?_
  refine J_iconst (v := 2) dL_law_895 (by decide) ?_
  refine J_iadd dL_law_896 ?_
  refine LR.top (y := nI (i + 2)) (nI_add i 2) ?_
  refine J_sld (j := i + 2) (by omega) (by omega) dL_law_897 ?_
  refine J_callVi dL_law_898 cv_L_121 ⟨by decide, by decide⟩ hck hE hm rfl rfl rfl (Nat.le_of_ble_eq_true rfl) (fun y2 hh2 hq => ?_)
  obtain ⟨rfl, hI2⟩ := hq
  exact J_icmp_eq (tgt := 998) dL_law_901 (by decide) (fun _ => K hh2 hI2) (fun c9 => absurd rfl c9)
set_option maxRecDepth 4000 in
theorem C_value {G : GG} {b L : Nat} {xs : Nat → Int32} {ck sk : Nat} (hd : HARDP) (hck : ck ≤ 600000 ∧ sk ≤ 7302250) (hL : L ≤ 2560) {i : Nat} (hi : i + 5 ≤ L) {hh : HH} (hI : Inv G hh) (K : ∀ hh1, Inv G hh1 → LR G b L xs ck sk 998 [(0, .ref b), (1, .ref (ad G 0)), (2, .ref (ad G 144)), (3, .int (nI i))] [] hh1) : LR G b L xs ck sk 906 [(0, .ref b), (1, .ref (ad G 0)), (2, .ref (ad G 144)), (3, .int (nI i))] [] hh := by
  refine J_aload_n dL_law_906 rfl ?_
  refine J_aload_n dL_law_907 rfl ?_
  refine J_iload_n dL_law_908 rfl ?_
  refine J_iconst (v := 1) dL_law_909 (by decide) ?_
  refine J_iadd dL_law_910 ?_
  refine LR.top (y := nI (i + 1)) (nI_add i 1) ?_
  refine J_sld (j := i + 1) (by omega) (by omega) dL_law_911 ?_
  refine J_callVi dL_law_912 cv_L_122 ⟨by decide, by decide⟩ hck (L_value hd hI (xs (i + 1))) hI.c0 rfl rfl rfl (Nat.le_of_ble_eq_true rfl) (fun y hh1 hp => ?_)
  obtain ⟨⟨fs, hm⟩, hE⟩ := hp
  refine J_aload_n dL_law_915 rfl ?_
  refine J_aload_n dL_law_916 rfl ?_
  refine J_iload_n dL_law_917 rfl ?_
  refine J_iconst (v := 1) dL_law_918 (by decide) ?_
  refine J_iadd dL_law_919 ?_
  refine LR.top (y := nI (i + 1)) (nI_add i 1) ?_
  refine J_sld (j := i + 1) (by omega) (by omega) dL_law_920 ?_
  refine J_callVi dL_law_921 cv_L_125 ⟨by decide, by decide⟩ hck hE hm rfl rfl rfl (Nat.le_of_ble_eq_true rfl) (fun y2 hh2 hq => ?_)
  obtain ⟨rfl, hI2⟩ := hq
  exact J_icmp_eq (tgt := 998) dL_law_924 (by decide) (fun _ => K hh2 hI2) (fun c9 => absurd rfl c9)
set_option maxRecDepth 4000 in
theorem C_named {G : GG} {b L : Nat} {xs : Nat → Int32} {ck sk : Nat} (hd : HARDP) (hck : ck ≤ 600000 ∧ sk ≤ 7302250) (hL : L ≤ 2560) {i : Nat} (hi : i + 5 ≤ L) {hh : HH} (hI : Inv G hh) (K : ∀ hh1, Inv G hh1 → LR G b L xs ck sk 998 [(0, .ref b), (1, .ref (ad G 0)), (2, .ref (ad G 144)), (3, .int (nI i))] [] hh1) : LR G b L xs ck sk 929 [(0, .ref b), (1, .ref (ad G 0)), (2, .ref (ad G 144)), (3, .int (nI i))] [] hh := by
  refine J_aload_n dL_law_929 rfl ?_
  refine J_aload_n dL_law_930 rfl ?_
  refine J_iload_n dL_law_931 rfl ?_
  refine J_iconst (v := 1) dL_law_932 (by decide) ?_
  refine J_iadd dL_law_933 ?_
  refine LR.top (y := nI (i + 1)) (nI_add i 1) ?_
  refine J_sld (j := i + 1) (by omega) (by omega) dL_law_934 ?_
  refine J_callVi dL_law_935 cv_L_126 ⟨by decide, by decide⟩ hck (L_named hd hI (xs (i + 1))) hI.c0 rfl rfl rfl (Nat.le_of_ble_eq_true rfl) (fun y hh1 hp => ?_)
  obtain ⟨⟨fs, hm⟩, hE⟩ := hp
  refine J_aload_n dL_law_938 rfl ?_
  refine J_aload_n dL_law_939 rfl ?_
  refine J_iload_n dL_law_940 rfl ?_
  refine J_iconst (v := 1) dL_law_941 (by decide) ?_
  refine J_iadd dL_law_942 ?_
  refine LR.top (y := nI (i + 1)) (nI_add i 1) ?_
  refine J_sld (j := i + 1) (by omega) (by omega) dL_law_943 ?_
  refine J_callVi dL_law_944 cv_L_129 ⟨by decide, by decide⟩ hck hE hm rfl rfl rfl (Nat.le_of_ble_eq_true rfl) (fun y2 hh2 hq => ?_)
  obtain ⟨rfl, hI2⟩ := hq
  exact J_icmp_eq (tgt := 998) dL_law_947 (by decide) (fun _ => K hh2 hI2) (fun c9 => absurd rfl c9)
set_option maxRecDepth 4000 in
theorem C_drop {G : GG} {b L : Nat} {xs : Nat → Int32} {ck sk : Nat} (hd : HARDP) (hck : ck ≤ 600000 ∧ sk ≤ 7302250) (hL : L ≤ 2560) {i : Nat} (hi : i + 5 ≤ L) {hh : HH} (hI : Inv G hh) (K : ∀ hh1, Inv G hh1 → LR G b L xs ck sk 998 [(0, .ref b), (1, .ref (ad G 0)), (2, .ref (ad G 144)), (3, .int (nI i))] [] hh1) : LR G b L xs ck sk 952 [(0, .ref b), (1, .ref (ad G 0)), (2, .ref (ad G 144)), (3, .int (nI i))] [] hh := by
  refine J_aload_n dL_law_952 rfl ?_
  refine J_aload_n dL_law_953 rfl ?_
  refine J_iload_n dL_law_954 rfl ?_
  refine J_iconst (v := 1) dL_law_955 (by decide) ?_
  refine J_iadd dL_law_956 ?_
  refine LR.top (y := nI (i + 1)) (nI_add i 1) ?_
  refine J_sld (j := i + 1) (by omega) (by omega) dL_law_957 ?_
  refine J_callVi dL_law_958 cv_L_130 ⟨by decide, by decide⟩ hck (L_drop hd hI (xs (i + 1))) hI.c0 rfl rfl rfl (Nat.le_of_ble_eq_true rfl) (fun y hh1 hp => ?_)
  obtain ⟨⟨fs, hm⟩, hE⟩ := hp
  refine J_aload_n dL_law_961 rfl ?_
  refine J_aload_n dL_law_962 rfl ?_
  refine J_iload_n dL_law_963 rfl ?_
  refine J_iconst (v := 1) dL_law_964 (by decide) ?_
  refine J_iadd dL_law_965 ?_
  refine LR.top (y := nI (i + 1)) (nI_add i 1) ?_
  refine J_sld (j := i + 1) (by omega) (by omega) dL_law_966 ?_
  refine J_callVi dL_law_967 cv_L_133 ⟨by decide, by decide⟩ hck hE hm rfl rfl rfl (Nat.le_of_ble_eq_true rfl) (fun y2 hh2 hq => ?_)
  obtain ⟨rfl, hI2⟩ := hq
  exact J_icmp_eq (tgt := 998) dL_law_970 (by decide) (fun _ => K hh2 hI2) (fun c9 => absurd rfl c9)
set_option maxRecDepth 4000 in
theorem C_told {G : GG} {b L : Nat} {xs : Nat → Int32} {ck sk : Nat} (hd : HARDP) (hck : ck ≤ 600000 ∧ sk ≤ 7302250) (hL : L ≤ 2560) {i : Nat} (hi : i + 5 ≤ L) {hh : HH} (hI : Inv G hh) (K : ∀ hh1, Inv G hh1 → LR G b L xs ck sk 998 [(0, .ref b), (1, .ref (ad G 0)), (2, .ref (ad G 144)), (3, .int (nI i))] [] hh1) : LR G b L xs ck sk 975 [(0, .ref b), (1, .ref (ad G 0)), (2, .ref (ad G 144)), (3, .int (nI i))] [] hh := by
  refine J_aload_n dL_law_975 rfl ?_
  refine J_aload_n dL_law_976 rfl ?_
  refine J_iload_n dL_law_977 rfl ?_
  refine J_iconst (v := 1) dL_law_978 (by decide) ?_
  refine J_iadd dL_law_979 ?_
  refine LR.top (y := nI (i + 1)) (nI_add i 1) ?_
  refine J_sld (j := i + 1) (by omega) (by omega) dL_law_980 ?_
  refine J_callVi dL_law_981 cv_L_134 ⟨by decide, by decide⟩ hck (L_told hd hI (xs (i + 1))) hI.c0 rfl rfl rfl (Nat.le_of_ble_eq_true rfl) (fun y hh1 hp => ?_)
  obtain ⟨⟨fs, hm⟩, hE⟩ := hp
  refine J_aload_n dL_law_984 rfl ?_
  refine J_aload_n dL_law_985 rfl ?_
  refine J_iload_n dL_law_986 rfl ?_
  refine J_iconst (v := 1) dL_law_987 (by decide) ?_
  refine J_iadd dL_law_988 ?_
  refine LR.top (y := nI (i + 1)) (nI_add i 1) ?_
  refine J_sld (j := i + 1) (by omega) (by omega) dL_law_989 ?_
  refine J_callVi dL_law_990 cv_L_137 ⟨by decide, by decide⟩ hck hE hm rfl rfl rfl (Nat.le_of_ble_eq_true rfl) (fun y2 hh2 hq => ?_)
  obtain ⟨rfl, hI2⟩ := hq
  exact J_icmp_eq (tgt := 998) dL_law_993 (by decide) (fun _ => K hh2 hI2) (fun c9 => absurd rfl c9)
set_option maxRecDepth 4000 in
theorem law_loop {G : GG} {b L : Nat} {xs : Nat → Int32} {ck sk : Nat} (hd : HARDP) (hck : ck ≤ 600000 ∧ sk ≤ 7302250) (hL : L ≤ 2560) : ∀ (d i : Nat) (hh : HH), L ≤ i + 5 * d → i ≤ L → Inv G hh → LR G b L xs ck sk 18 [(0, .ref b), (1, .ref (ad G 0)), (2, .ref (ad G 144)), (3, .int (nI i))] [] hh := by
  intro d
  induction d with
  | zero =>
    intro i hh h1 h2 hI
    have e5 : (nI L - 5).toInt = (L : Int) - 5 := pk_sub_toInt (b := 5) (by omega) (by decide)
    refine J_iload_n dL_law_18 rfl ?_
    refine J_aload_n dL_law_19 rfl ?_
    refine J_slen dL_law_20 ?_
    refine J_iconst (v := 5) dL_law_21 (by decide) ?_
    refine J_isub dL_law_22 ?_
    refine J_icmp_gt (tgt := 1004) dL_law_23 (by decide) (fun c9 => ?_) (fun c9 => absurd (Int32.lt_iff_toInt_lt.mpr (by rw [e5, nI_toInt (by omega)]; omega)) c9)
    refine J_iconst (v := 1) dL_law_1004 (by decide) ?_
    exact J_end hck.1 hck.2 dL_law_1005
  | succ d ih =>
    intro i hh h1 h2 hI
    have e5 : (nI L - 5).toInt = (L : Int) - 5 := pk_sub_toInt (b := 5) (by omega) (by decide)
    refine J_iload_n dL_law_18 rfl ?_
    refine J_aload_n dL_law_19 rfl ?_
    refine J_slen dL_law_20 ?_
    refine J_iconst (v := 5) dL_law_21 (by decide) ?_
    refine J_isub dL_law_22 ?_
    refine J_icmp_gt (tgt := 1004) dL_law_23 (by decide) (fun c9 => ?_) (fun c9 => ?_)
    · refine J_iconst (v := 1) dL_law_1004 (by decide) ?_
      exact J_end hck.1 hck.2 dL_law_1005
    · have hi : i + 5 ≤ L := by
        rw [Int32.lt_iff_toInt_lt, e5, nI_toInt (by omega)] at c9
        omega
      have K : ∀ hh1, Inv G hh1 → LR G b L xs ck sk 998 [(0, .ref b), (1, .ref (ad G 0)), (2, .ref (ad G 144)), (3, .int (nI i))] [] hh1 := fun hh1 hI1 => by
        refine J_iinc (y := nI (i + 5)) dL_law_998 rfl (by decide) (nI_add i 5) ?_
        refine J_goto (tgt := 18) dL_law_1001 (by decide) ?_
        exact LR.pick [1, 2, 3, 0] rfl (ih (i + 5) hh1 (by omega) hi hI1)
      refine J_aload_n dL_law_26 rfl ?_
      refine J_iload_n dL_law_27 rfl ?_
      refine J_sld (j := i) (by omega) (by omega) dL_law_28 ?_
      refine J_bipush (v := 31) dL_law_29 (by decide) ?_
      refine J_iand dL_law_31 ?_
      obtain ⟨j, hj, ej⟩ := pk_andE (xs i) (m := 31) 5 (by decide)
      refine LR.top ej ?_
      rcases (show j = 0 ∨ j = 1 ∨ j = 2 ∨ j = 3 ∨ j = 4 ∨ j = 5 ∨ j = 6 ∨ j = 7 ∨ j = 8 ∨ j = 9 ∨ j = 10 ∨ j = 11 ∨ j = 12 ∨ j = 13 ∨ j = 14 ∨ j = 15 ∨ j = 16 ∨ j = 17 ∨ j = 18 ∨ j = 19 ∨ j = 20 ∨ j = 21 ∨ j = 22 ∨ j = 23 ∨ j = 24 ∨ j = 25 ∨ j = 26 ∨ j = 27 ∨ j = 28 ∨ j = 29 ∨ j = 30 ∨ j = 31 by omega) with rfl | rfl | rfl | rfl | rfl | rfl | rfl | rfl | rfl | rfl | rfl | rfl | rfl | rfl | rfl | rfl | rfl | rfl | rfl | rfl | rfl | rfl | rfl | rfl | rfl | rfl | rfl | rfl | rfl | rfl | rfl | rfl
      · exact J_tabIn (tgt := 168) (off := 136) dL_law_32 (by decide) (by decide) rfl (by decide) (C_write hd hck hL hi hI K)
      · exact J_tabIn (tgt := 191) (off := 159) dL_law_32 (by decide) (by decide) rfl (by decide) (C_erase hd hck hL hi hI K)
      · exact J_tabIn (tgt := 204) (off := 172) dL_law_32 (by decide) (by decide) rfl (by decide) (C_fault hd hck hL hi hI K)
      · exact J_tabIn (tgt := 217) (off := 185) dL_law_32 (by decide) (by decide) rfl (by decide) (C_wheel hd hck hL hi hI K)
      · exact J_tabIn (tgt := 230) (off := 198) dL_law_32 (by decide) (by decide) rfl (by decide) (C_judge hd hck hL hi hI K)
      · exact J_tabIn (tgt := 263) (off := 231) dL_law_32 (by decide) (by decide) rfl (by decide) (C_caseOf hd hck hL hi hI K)
      · exact J_tabIn (tgt := 296) (off := 264) dL_law_32 (by decide) (by decide) rfl (by decide) (C_seal hd hck hL hi hI K)
      · exact J_tabIn (tgt := 319) (off := 287) dL_law_32 (by decide) (by decide) rfl (by decide) (C_assign hd hck hL hi hI K)
      · exact J_tabIn (tgt := 352) (off := 320) dL_law_32 (by decide) (by decide) rfl (by decide) (C_refuse hd hck hL hi hI K)
      · exact J_tabIn (tgt := 375) (off := 343) dL_law_32 (by decide) (by decide) rfl (by decide) (C_away hd hck hL hi hI K)
      · exact J_tabIn (tgt := 408) (off := 376) dL_law_32 (by decide) (by decide) rfl (by decide) (C_undo hd hck hL hi hI K)
      · exact J_tabIn (tgt := 421) (off := 389) dL_law_32 (by decide) (by decide) rfl (by decide) (C_keep hd hck hL hi hI K)
      · exact J_tabIn (tgt := 444) (off := 412) dL_law_32 (by decide) (by decide) rfl (by decide) (C_back hd hck hL hi hI K)
      · exact J_tabIn (tgt := 467) (off := 435) dL_law_32 (by decide) (by decide) rfl (by decide) (C_writing hd hck hL hi hI K)
      · exact J_tabIn (tgt := 490) (off := 458) dL_law_32 (by decide) (by decide) rfl (by decide) (C_sealOf hd hck hL hi hI K)
      · exact J_tabIn (tgt := 523) (off := 491) dL_law_32 (by decide) (by decide) rfl (by decide) (C_weight hd hck hL hi hI K)
      · exact J_tabIn (tgt := 556) (off := 524) dL_law_32 (by decide) (by decide) rfl (by decide) (C_odds hd hck hL hi hI K)
      · exact J_tabIn (tgt := 609) (off := 577) dL_law_32 (by decide) (by decide) rfl (by decide) (C_next hd hck hL hi hI K)
      · exact J_tabIn (tgt := 642) (off := 610) dL_law_32 (by decide) (by decide) rfl (by decide) (C_count hd hck hL hi hI K)
      · exact J_tabIn (tgt := 675) (off := 643) dL_law_32 (by decide) (by decide) rfl (by decide) (C_like hd hck hL hi hI K)
      · exact J_tabIn (tgt := 698) (off := 666) dL_law_32 (by decide) (by decide) rfl (by decide) (C_slip hd hck hL hi hI K)
      · exact J_tabIn (tgt := 721) (off := 689) dL_law_32 (by decide) (by decide) rfl (by decide) (C_insert hd hck hL hi hI K)
      · exact J_tabIn (tgt := 764) (off := 732) dL_law_32 (by decide) (by decide) rfl (by decide) (C_cut hd hck hL hi hI K)
      · exact J_tabIn (tgt := 807) (off := 775) dL_law_32 (by decide) (by decide) rfl (by decide) (C_join hd hck hL hi hI K)
      · exact J_tabIn (tgt := 840) (off := 808) dL_law_32 (by decide) (by decide) rfl (by decide) (C_letter hd hck hL hi hI K)
      · exact J_tabIn (tgt := 873) (off := 841) dL_law_32 (by decide) (by decide) rfl (by decide) (C_find hd hck hL hi hI K)
      · exact J_tabIn (tgt := 906) (off := 874) dL_law_32 (by decide) (by decide) rfl (by decide) (C_value hd hck hL hi hI K)
      · exact J_tabIn (tgt := 929) (off := 897) dL_law_32 (by decide) (by decide) rfl (by decide) (C_named hd hck hL hi hI K)
      · exact J_tabIn (tgt := 952) (off := 920) dL_law_32 (by decide) (by decide) rfl (by decide) (C_drop hd hck hL hi hI K)
      · exact J_tabIn (tgt := 975) (off := 943) dL_law_32 (by decide) (by decide) rfl (by decide) (C_told hd hck hL hi hI K)
      · exact J_tabOut (tgt := 998) dL_law_32 (by decide) (by decide) (K hh hI)
      · exact J_tabOut (tgt := 998) dL_law_32 (by decide) (by decide) (K hh hI)
