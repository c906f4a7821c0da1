/-! ===== the law: cases 0 to 9 ===== -/
section LC0
variable {p : Program} {l : Launch} {e : Env} {R : Room} {s : State} {m : MethodId} {args : Array Value} {below : List Frame} {meth : Method} {c : Code} {Q : State → Prop} {cells slots : Nat} {D : va_G} {g : Nat → ClassId} {A : Nat → Prop} {ak av : Nat → Nat} {aS b L : Nat} {xs : Nat → Int32} {ax ay : Nat → Nat} {ad : Nat → Nat → Nat} {qo qd : Nat} {x : XVal} {y : MVal} {out : Nat → Int64} {od : Nat → UInt64} {t : Int}
theorem k_L_house : cardS yL_house (Cond.codeWith yL_house cL_house 6 (some .int) [(0, 12, 15, 13), (0, 12, 19, 15)]) 5 := ⟨qs_L_house, qw_L_house, qn_L, by decide +kernel, by decide +kernel, by decide +kernel⟩
set_option maxHeartbeats 1000000 in
set_option maxRecDepth 100000 in
theorem lb_house (B : LB p l s m args meth c D g ak av aS A b L xs) (hRm : RM R cells slots) (hR : Rel t x y) (h0 : 0 ≤ t) (h1 : t < 800000) {i : Int32} (hi : II i L) (kk : ∀ x' out' od' y', Rel (t + 300) x' y' → Z p l e R s m args below meth c Q 9 (cells + 4) (slots + 24) (IW D A s (LW g ax ad ay qo qd x' out' od' y')) 2579 (lv0 b ax ay qo qd i) []) : Z p l e R s m args below meth c Q 9 cells slots (IW D A s (LW g ax ad ay qo qd x out od y)) 220 (lv0 b ax ay qo qd i) [] := by
  obtain ⟨X, hE, hA, hX, hb, hbA, hfl⟩ := B
  obtain ⟨a, x', out', v2, y', hF, hH, ht, hv, hR'⟩ := fl_house hR h0 h1 (xs (i + (1 : Int32)).toNatClampNeg) (xs (i + (2 : Int32)).toNatClampNeg) (xs (i + (3 : Int32)).toNatClampNeg) out
  refine z_aload_n X 1 dL_law_220 rfl rfl ?_
  refine z_aload_n X 0 dL_law_221 rfl rfl ?_
  refine z_iload X 5 dL_law_222 rfl ?_
  refine z_iconst X (1 : Int32) dL_law_224 (by decide) ?_
  refine z_iadd X dL_law_225 ?_
  refine z_sld X hX hb hbA dL_law_226 hi.2.1 ?_
  refine z_aload_n X 0 dL_law_227 rfl rfl ?_
  refine z_iload X 5 dL_law_228 rfl ?_
  refine z_iconst X (2 : Int32) dL_law_230 (by decide) ?_
  refine z_iadd X dL_law_231 ?_
  refine z_sld X hX hb hbA dL_law_232 hi.2.2.1 ?_
  refine z_aload_n X 0 dL_law_233 rfl rfl ?_
  refine z_iload X 5 dL_law_234 rfl ?_
  refine z_iconst X (3 : Int32) dL_law_236 (by decide) ?_
  refine z_iadd X dL_law_237 ?_
  refine z_sld X hX hb hbA dL_law_238 hi.2.2.2.1 ?_
  refine z_aload_n X 3 dL_law_239 rfl rfl ?_
  have f1 := bk_L (g := g) (ax := ax) (ad := ad) (ay := ay) (qo := qo) (qd := qd) (x := x) (x' := x') (out := out) (out' := out') (od := od) (y := y)
  refine z_mlS (rest := []) (ws' := LW g ax ad ay qo qd x' out' od y) X hE hA k_L_house (c_L_house l hfl ak av aS D g ad ax qo (xs (i + (1 : Int32)).toNatClampNeg) (xs (i + (2 : Int32)).toNatClampNeg) (xs (i + (3 : Int32)).toNatClampNeg) x out (a, x', out') hF) ql_L_L_house dL_law_240 f1.1 f1.2 rfl rfl (RM.fit (dc := 0) (ds := 0) hRm (Nat.le_of_ble_eq_true rfl) (Nat.le_of_ble_eq_true rfl) rfl rfl (Nat.le_of_ble_eq_true rfl) (Nat.le_of_ble_eq_true rfl)) (Nat.le_of_ble_eq_true rfl) ?_
  refine z_widen (k := cells + 4) (n := slots + 24) (Nat.add_le_add_left (Nat.le_of_ble_eq_true rfl) _) (Nat.add_le_add_left (Nat.le_of_ble_eq_true rfl) _) ?_
  refine z_istore X ((6, .int a) :: lv0 b ax ay qo qd i) dL_law_243 (by decide) rfl ?_
  refine z_aload_n X 3 dL_law_245 rfl rfl ?_
  refine z_aload_n X 1 dL_law_246 rfl rfl ?_
  refine z_iload X 6 dL_law_247 rfl ?_
  refine z_iconst X (1 : Int32) dL_law_249 (by decide) ?_
  refine z_iadd X dL_law_250 ?_
  refine z_sld X hX hb hbA dL_law_251 hi.2.1 ?_
  refine z_aload_n X 1 dL_law_252 rfl rfl ?_
  refine z_iload X 6 dL_law_253 rfl ?_
  refine z_iconst X (2 : Int32) dL_law_255 (by decide) ?_
  refine z_iadd X dL_law_256 ?_
  refine z_sld X hX hb hbA dL_law_257 hi.2.2.1 ?_
  refine z_aload_n X 1 dL_law_258 rfl rfl ?_
  refine z_iload X 6 dL_law_259 rfl ?_
  refine z_iconst X (3 : Int32) dL_law_261 (by decide) ?_
  refine z_iadd X dL_law_262 ?_
  refine z_sld X hX hb hbA dL_law_263 hi.2.2.2.1 ?_
  obtain ⟨wc, wc', wr, hM, q1, q2, q3⟩ := m_house l D g ay y (xs (i + (1 : Int32)).toNatClampNeg) (xs (i + (2 : Int32)).toNatClampNeg) (xs (i + (3 : Int32)).toNatClampNeg) v2 y' hH
  have f2 := bk_Y (g := g) (ax := ax) (ad := ad) (qo := qo) (qd := qd) (x := x') (out := out') (od := od) q1 q2 q3
  refine z_wgV (rest := []) (ci := 12) (ws' := LW g ax ad ay qo qd x' out' od y') X k_X12_house hM ql_L_X12_house dL_law_264 f2.1 f2.2 rfl rfl LW_y0 rfl rfl (RM.fit (dc := 4) (ds := 24) hRm (Nat.le_of_ble_eq_true rfl) (Nat.le_of_ble_eq_true rfl) rfl rfl (Nat.le_of_ble_eq_true rfl) (Nat.le_of_ble_eq_true rfl)) (Nat.le_of_ble_eq_true rfl) ?_
  refine z_istore X ((7, .int v2) :: (6, .int a) :: lv0 b ax ay qo qd i) dL_law_267 (by decide) rfl ?_
  refine z_aload_n X 4 dL_law_269 rfl rfl ?_
  obtain ⟨wt, wu, hT, t1⟩ := m_thrown l D g ay y'
  have f3 := bk_Y (g := g) (ax := ax) (ad := ad) (qo := qo) (qd := qd) (x := x') (out := out') (od := od) t1 t1 rfl
  refine z_rgV (rest := []) (ci := 12) X k_X12_thrown hT ql_L_X12_thrown dL_law_270 f3.1 rfl rfl LW_y0 rfl rfl (RM.fit (dc := 4) (ds := 24) hRm (Nat.le_of_ble_eq_true rfl) (Nat.le_of_ble_eq_true rfl) rfl rfl (Nat.le_of_ble_eq_true rfl) (Nat.le_of_ble_eq_true rfl)) (Nat.le_of_ble_eq_true rfl) ?_
  refine z_iload X 1 dL_law_273 rfl ?_
  refine z_ceT X 280 dL_law_275 (by decide) ht ?_
  refine z_iload X 1 dL_law_280 rfl ?_
  have hend : Z p l e R s m args below meth c Q 9 (cells + 4) (slots + 24) (IW D A s (LW g ax ad ay qo qd x' out' od y')) 297 ((7, .int v2) :: (6, .int a) :: lv0 b ax ay qo qd i) [] := by
    refine z_goto X 2579 dL_law_297 (by decide) ?_
    refine z_sub (lv' := lv0 b ax ay qo qd i) [2, 3, 4, 5, 6, 7] rfl ?_
    exact kk x' out' od y' hR'
  by_cases ha : a = 0
  rotate_left
  · exact z_neT X 297 dL_law_282 (by decide) ha hend
  refine z_neF X 297 dL_law_282 (by decide) ha ?_
  refine z_aload_n X 5 dL_law_285 rfl rfl ?_
  refine z_iconst X (0 : Int32) dL_law_286 (by decide) ?_
  refine z_lald X IW_P dL_law_287 LW_o (oki (i := 0) (by decide)) ?_
  refine z_iload X 0 dL_law_288 rfl ?_
  refine z_i2l X dL_law_290 ?_
  refine z_lcmpE X dL_law_291 (hv ha) ?_
  exact z_eqT X 297 dL_law_292 (by decide) rfl hend
theorem k_L_goAway : cardS yL_goAway (Cond.codeWith yL_goAway cL_goAway 4 (some .int) [(0, 9, 12, 21)]) 3 := ⟨qs_L_goAway, qw_L_goAway, qn_L, by decide +kernel, by decide +kernel, by decide +kernel⟩
set_option maxHeartbeats 1000000 in
set_option maxRecDepth 100000 in
theorem lb_goAway (B : LB p l s m args meth c D g ak av aS A b L xs) (hRm : RM R cells slots) (hR : Rel t x y) (h0 : 0 ≤ t) (h1 : t < 800000) {i : Int32} (hi : II i L) (kk : ∀ x' out' od' y', Rel (t + 300) x' y' → Z p l e R s m args below meth c Q 9 (cells + 4) (slots + 24) (IW D A s (LW g ax ad ay qo qd x' out' od' y')) 2579 (lv0 b ax ay qo qd i) []) : Z p l e R s m args below meth c Q 9 cells slots (IW D A s (LW g ax ad ay qo qd x out od y)) 300 (lv0 b ax ay qo qd i) [] := by
  obtain ⟨X, hE, hA, hX, hb, hbA, hfl⟩ := B
  obtain ⟨a, x', out', v2, y', hF, hH, ht, hv, hR'⟩ := fl_goAway hR h0 h1 (xs (i + (1 : Int32)).toNatClampNeg) out
  refine z_aload_n X 1 dL_law_300 rfl rfl ?_
  refine z_aload_n X 0 dL_law_301 rfl rfl ?_
  refine z_iload X 5 dL_law_302 rfl ?_
  refine z_iconst X (1 : Int32) dL_law_304 (by decide) ?_
  refine z_iadd X dL_law_305 ?_
  refine z_sld X hX hb hbA dL_law_306 hi.2.1 ?_
  refine z_aload_n X 3 dL_law_307 rfl rfl ?_
  have f1 := bk_L (g := g) (ax := ax) (ad := ad) (ay := ay) (qo := qo) (qd := qd) (x := x) (x' := x') (out := out) (out' := out') (od := od) (y := y)
  refine z_mlS (rest := []) (ws' := LW g ax ad ay qo qd x' out' od y) X hE hA k_L_goAway (c_L_goAway l hfl ak av aS D g ad ax qo (xs (i + (1 : Int32)).toNatClampNeg) x out (a, x', out') hF) ql_L_L_goAway dL_law_308 f1.1 f1.2 rfl rfl (RM.fit (dc := 0) (ds := 0) hRm (Nat.le_of_ble_eq_true rfl) (Nat.le_of_ble_eq_true rfl) rfl rfl (Nat.le_of_ble_eq_true rfl) (Nat.le_of_ble_eq_true rfl)) (Nat.le_of_ble_eq_true rfl) ?_
  refine z_widen (k := cells + 4) (n := slots + 24) (Nat.add_le_add_left (Nat.le_of_ble_eq_true rfl) _) (Nat.add_le_add_left (Nat.le_of_ble_eq_true rfl) _) ?_
  refine z_istore X ((6, .int a) :: lv0 b ax ay qo qd i) dL_law_311 (by decide) rfl ?_
  refine z_aload_n X 3 dL_law_313 rfl rfl ?_
  refine z_aload_n X 1 dL_law_314 rfl rfl ?_
  refine z_iload X 6 dL_law_315 rfl ?_
  refine z_iconst X (1 : Int32) dL_law_317 (by decide) ?_
  refine z_iadd X dL_law_318 ?_
  refine z_sld X hX hb hbA dL_law_319 hi.2.1 ?_
  obtain ⟨wc, wc', wr, hM, q1, q2, q3⟩ := m_goAway l D g ay y (xs (i + (1 : Int32)).toNatClampNeg) v2 y' hH
  have f2 := bk_Y (g := g) (ax := ax) (ad := ad) (qo := qo) (qd := qd) (x := x') (out := out') (od := od) q1 q2 q3
  refine z_wgV (rest := []) (ci := 12) (ws' := LW g ax ad ay qo qd x' out' od y') X k_X12_goAway hM ql_L_X12_goAway dL_law_320 f2.1 f2.2 rfl rfl LW_y0 rfl rfl (RM.fit (dc := 4) (ds := 24) hRm (Nat.le_of_ble_eq_true rfl) (Nat.le_of_ble_eq_true rfl) rfl rfl (Nat.le_of_ble_eq_true rfl) (Nat.le_of_ble_eq_true rfl)) (Nat.le_of_ble_eq_true rfl) ?_
  refine z_istore X ((7, .int v2) :: (6, .int a) :: lv0 b ax ay qo qd i) dL_law_323 (by decide) rfl ?_
  refine z_aload_n X 4 dL_law_325 rfl rfl ?_
  obtain ⟨wt, wu, hT, t1⟩ := m_thrown l D g ay y'
  have f3 := bk_Y (g := g) (ax := ax) (ad := ad) (qo := qo) (qd := qd) (x := x') (out := out') (od := od) t1 t1 rfl
  refine z_rgV (rest := []) (ci := 12) X k_X12_thrown hT ql_L_X12_thrown dL_law_326 f3.1 rfl rfl LW_y0 rfl rfl (RM.fit (dc := 4) (ds := 24) hRm (Nat.le_of_ble_eq_true rfl) (Nat.le_of_ble_eq_true rfl) rfl rfl (Nat.le_of_ble_eq_true rfl) (Nat.le_of_ble_eq_true rfl)) (Nat.le_of_ble_eq_true rfl) ?_
  refine z_iload X 1 dL_law_329 rfl ?_
  refine z_ceT X 336 dL_law_331 (by decide) ht ?_
  refine z_iload X 1 dL_law_336 rfl ?_
  have hend : Z p l e R s m args below meth c Q 9 (cells + 4) (slots + 24) (IW D A s (LW g ax ad ay qo qd x' out' od y')) 353 ((7, .int v2) :: (6, .int a) :: lv0 b ax ay qo qd i) [] := by
    refine z_goto X 2579 dL_law_353 (by decide) ?_
    refine z_sub (lv' := lv0 b ax ay qo qd i) [2, 3, 4, 5, 6, 7] rfl ?_
    exact kk x' out' od y' hR'
  by_cases ha : a = 0
  rotate_left
  · exact z_neT X 353 dL_law_338 (by decide) ha hend
  refine z_neF X 353 dL_law_338 (by decide) ha ?_
  refine z_aload_n X 5 dL_law_341 rfl rfl ?_
  refine z_iconst X (0 : Int32) dL_law_342 (by decide) ?_
  refine z_lald X IW_P dL_law_343 LW_o (oki (i := 0) (by decide)) ?_
  refine z_iload X 0 dL_law_344 rfl ?_
  refine z_i2l X dL_law_346 ?_
  refine z_lcmpE X dL_law_347 (hv ha) ?_
  exact z_eqT X 353 dL_law_348 (by decide) rfl hend
theorem k_L_block : cardS yL_block (Cond.codeWith yL_block cL_block 4 (some .int) [(0, 16, 19, 13), (0, 16, 22, 15)]) 3 := ⟨qs_L_block, qw_L_block, qn_L, by decide +kernel, by decide +kernel, by decide +kernel⟩
set_option maxHeartbeats 1000000 in
set_option maxRecDepth 100000 in
theorem lb_block (B : LB p l s m args meth c D g ak av aS A b L xs) (hRm : RM R cells slots) (hR : Rel t x y) (h0 : 0 ≤ t) (h1 : t < 800000) {i : Int32} (hi : II i L) (kk : ∀ x' out' od' y', Rel (t + 300) x' y' → Z p l e R s m args below meth c Q 9 (cells + 4) (slots + 24) (IW D A s (LW g ax ad ay qo qd x' out' od' y')) 2579 (lv0 b ax ay qo qd i) []) : Z p l e R s m args below meth c Q 9 cells slots (IW D A s (LW g ax ad ay qo qd x out od y)) 356 (lv0 b ax ay qo qd i) [] := by
  obtain ⟨X, hE, hA, hX, hb, hbA, hfl⟩ := B
  obtain ⟨a, x', out', v2, y', hF, hH, ht, hv, hR'⟩ := fl_block hR h0 h1 (xs (i + (1 : Int32)).toNatClampNeg) out
  refine z_aload_n X 1 dL_law_356 rfl rfl ?_
  refine z_aload_n X 0 dL_law_357 rfl rfl ?_
  refine z_iload X 5 dL_law_358 rfl ?_
  refine z_iconst X (1 : Int32) dL_law_360 (by decide) ?_
  refine z_iadd X dL_law_361 ?_
  refine z_sld X hX hb hbA dL_law_362 hi.2.1 ?_
  refine z_aload_n X 3 dL_law_363 rfl rfl ?_
  have f1 := bk_L (g := g) (ax := ax) (ad := ad) (ay := ay) (qo := qo) (qd := qd) (x := x) (x' := x') (out := out) (out' := out') (od := od) (y := y)
  refine z_mlS (rest := []) (ws' := LW g ax ad ay qo qd x' out' od y) X hE hA k_L_block (c_L_block l hfl ak av aS D g ad ax qo (xs (i + (1 : Int32)).toNatClampNeg) x out (a, x', out') hF) ql_L_L_block dL_law_364 f1.1 f1.2 rfl rfl (RM.fit (dc := 0) (ds := 0) hRm (Nat.le_of_ble_eq_true rfl) (Nat.le_of_ble_eq_true rfl) rfl rfl (Nat.le_of_ble_eq_true rfl) (Nat.le_of_ble_eq_true rfl)) (Nat.le_of_ble_eq_true rfl) ?_
  refine z_widen (k := cells + 4) (n := slots + 24) (Nat.add_le_add_left (Nat.le_of_ble_eq_true rfl) _) (Nat.add_le_add_left (Nat.le_of_ble_eq_true rfl) _) ?_
  refine z_istore X ((6, .int a) :: lv0 b ax ay qo qd i) dL_law_367 (by decide) rfl ?_
  refine z_aload_n X 3 dL_law_369 rfl rfl ?_
  refine z_aload_n X 1 dL_law_370 rfl rfl ?_
  refine z_iload X 6 dL_law_371 rfl ?_
  refine z_iconst X (1 : Int32) dL_law_373 (by decide) ?_
  refine z_iadd X dL_law_374 ?_
  refine z_sld X hX hb hbA dL_law_375 hi.2.1 ?_
  obtain ⟨wc, wc', wr, hM, q1, q2, q3⟩ := m_block l D g ay y (xs (i + (1 : Int32)).toNatClampNeg) v2 y' hH
  have f2 := bk_Y (g := g) (ax := ax) (ad := ad) (qo := qo) (qd := qd) (x := x') (out := out') (od := od) q1 q2 q3
  refine z_wgV (rest := []) (ci := 12) (ws' := LW g ax ad ay qo qd x' out' od y') X k_X12_block hM ql_L_X12_block dL_law_376 f2.1 f2.2 rfl rfl LW_y0 rfl rfl (RM.fit (dc := 4) (ds := 24) hRm (Nat.le_of_ble_eq_true rfl) (Nat.le_of_ble_eq_true rfl) rfl rfl (Nat.le_of_ble_eq_true rfl) (Nat.le_of_ble_eq_true rfl)) (Nat.le_of_ble_eq_true rfl) ?_
  refine z_istore X ((7, .int v2) :: (6, .int a) :: lv0 b ax ay qo qd i) dL_law_379 (by decide) rfl ?_
  refine z_aload_n X 4 dL_law_381 rfl rfl ?_
  obtain ⟨wt, wu, hT, t1⟩ := m_thrown l D g ay y'
  have f3 := bk_Y (g := g) (ax := ax) (ad := ad) (qo := qo) (qd := qd) (x := x') (out := out') (od := od) t1 t1 rfl
  refine z_rgV (rest := []) (ci := 12) X k_X12_thrown hT ql_L_X12_thrown dL_law_382 f3.1 rfl rfl LW_y0 rfl rfl (RM.fit (dc := 4) (ds := 24) hRm (Nat.le_of_ble_eq_true rfl) (Nat.le_of_ble_eq_true rfl) rfl rfl (Nat.le_of_ble_eq_true rfl) (Nat.le_of_ble_eq_true rfl)) (Nat.le_of_ble_eq_true rfl) ?_
  refine z_iload X 1 dL_law_385 rfl ?_
  refine z_ceT X 392 dL_law_387 (by decide) ht ?_
  refine z_iload X 1 dL_law_392 rfl ?_
  have hend : Z p l e R s m args below meth c Q 9 (cells + 4) (slots + 24) (IW D A s (LW g ax ad ay qo qd x' out' od y')) 416 ((7, .int v2) :: (6, .int a) :: lv0 b ax ay qo qd i) [] := by
    refine z_goto X 2579 dL_law_416 (by decide) ?_
    refine z_sub (lv' := lv0 b ax ay qo qd i) [2, 3, 4, 5, 6, 7] rfl ?_
    exact kk x' out' od y' hR'
  by_cases ha : a = 0
  rotate_left
  · exact z_neT X 416 dL_law_394 (by decide) ha hend
  refine z_neF X 416 dL_law_394 (by decide) ha ?_
  refine z_aload_n X 5 dL_law_397 rfl rfl ?_
  refine z_iconst X (0 : Int32) dL_law_398 (by decide) ?_
  refine z_lald X IW_P dL_law_399 LW_o (oki (i := 0) (by decide)) ?_
  refine z_iload X 0 dL_law_400 rfl ?_
  by_cases hw : v2 = 0
  · refine z_eqT X 409 dL_law_402 (by decide) hw ?_
    refine z_lconst 0 X dL_law_409 rfl ?_
    refine z_lcmpE X dL_law_410 ((hv ha).trans (if_pos hw)) ?_
    exact z_eqT X 416 dL_law_411 (by decide) rfl hend
  · refine z_eqF X 409 dL_law_402 (by decide) hw ?_
    refine z_lconst 1 X dL_law_405 rfl ?_
    refine z_goto X 410 dL_law_406 (by decide) ?_
    refine z_lcmpE X dL_law_410 ((hv ha).trans (if_neg hw)) ?_
    exact z_eqT X 416 dL_law_411 (by decide) rfl hend
theorem k_L_hall : cardS yL_hall (Cond.codeWith yL_hall cL_hall 6 (some .int) [(0, 12, 15, 13), (0, 12, 19, 15)]) 5 := ⟨qs_L_hall, qw_L_hall, qn_L, by decide +kernel, by decide +kernel, by decide +kernel⟩
set_option maxHeartbeats 1000000 in
set_option maxRecDepth 100000 in
theorem lb_hall (B : LB p l s m args meth c D g ak av aS A b L xs) (hRm : RM R cells slots) (hR : Rel t x y) (h0 : 0 ≤ t) (h1 : t < 800000) {i : Int32} (hi : II i L) (kk : ∀ x' out' od' y', Rel (t + 300) x' y' → Z p l e R s m args below meth c Q 9 (cells + 4) (slots + 24) (IW D A s (LW g ax ad ay qo qd x' out' od' y')) 2579 (lv0 b ax ay qo qd i) []) : Z p l e R s m args below meth c Q 9 cells slots (IW D A s (LW g ax ad ay qo qd x out od y)) 419 (lv0 b ax ay qo qd i) [] := by
  obtain ⟨X, hE, hA, hX, hb, hbA, hfl⟩ := B
  obtain ⟨a, x', out', v2, y', hF, hH, ht, hv, hR'⟩ := fl_hall hR h0 h1 (xs (i + (1 : Int32)).toNatClampNeg) (xs (i + (2 : Int32)).toNatClampNeg) (xs (i + (3 : Int32)).toNatClampNeg) out
  refine z_aload_n X 1 dL_law_419 rfl rfl ?_
  refine z_aload_n X 0 dL_law_420 rfl rfl ?_
  refine z_iload X 5 dL_law_421 rfl ?_
  refine z_iconst X (1 : Int32) dL_law_423 (by decide) ?_
  refine z_iadd X dL_law_424 ?_
  refine z_sld X hX hb hbA dL_law_425 hi.2.1 ?_
  refine z_aload_n X 0 dL_law_426 rfl rfl ?_
  refine z_iload X 5 dL_law_427 rfl ?_
  refine z_iconst X (2 : Int32) dL_law_429 (by decide) ?_
  refine z_iadd X dL_law_430 ?_
  refine z_sld X hX hb hbA dL_law_431 hi.2.2.1 ?_
  refine z_aload_n X 0 dL_law_432 rfl rfl ?_
  refine z_iload X 5 dL_law_433 rfl ?_
  refine z_iconst X (3 : Int32) dL_law_435 (by decide) ?_
  refine z_iadd X dL_law_436 ?_
  refine z_sld X hX hb hbA dL_law_437 hi.2.2.2.1 ?_
  refine z_aload_n X 3 dL_law_438 rfl rfl ?_
  have f1 := bk_L (g := g) (ax := ax) (ad := ad) (ay := ay) (qo := qo) (qd := qd) (x := x) (x' := x') (out := out) (out' := out') (od := od) (y := y)
  refine z_mlS (rest := []) (ws' := LW g ax ad ay qo qd x' out' od y) X hE hA k_L_hall (c_L_hall l hfl ak av aS D g ad ax qo (xs (i + (1 : Int32)).toNatClampNeg) (xs (i + (2 : Int32)).toNatClampNeg) (xs (i + (3 : Int32)).toNatClampNeg) x out (a, x', out') hF) ql_L_L_hall dL_law_439 f1.1 f1.2 rfl rfl (RM.fit (dc := 0) (ds := 0) hRm (Nat.le_of_ble_eq_true rfl) (Nat.le_of_ble_eq_true rfl) rfl rfl (Nat.le_of_ble_eq_true rfl) (Nat.le_of_ble_eq_true rfl)) (Nat.le_of_ble_eq_true rfl) ?_
  refine z_widen (k := cells + 4) (n := slots + 24) (Nat.add_le_add_left (Nat.le_of_ble_eq_true rfl) _) (Nat.add_le_add_left (Nat.le_of_ble_eq_true rfl) _) ?_
  refine z_istore X ((6, .int a) :: lv0 b ax ay qo qd i) dL_law_442 (by decide) rfl ?_
  refine z_aload_n X 3 dL_law_444 rfl rfl ?_
  refine z_aload_n X 1 dL_law_445 rfl rfl ?_
  refine z_iload X 6 dL_law_446 rfl ?_
  refine z_iconst X (1 : Int32) dL_law_448 (by decide) ?_
  refine z_iadd X dL_law_449 ?_
  refine z_sld X hX hb hbA dL_law_450 hi.2.1 ?_
  refine z_aload_n X 1 dL_law_451 rfl rfl ?_
  refine z_iload X 6 dL_law_452 rfl ?_
  refine z_iconst X (2 : Int32) dL_law_454 (by decide) ?_
  refine z_iadd X dL_law_455 ?_
  refine z_sld X hX hb hbA dL_law_456 hi.2.2.1 ?_
  refine z_aload_n X 1 dL_law_457 rfl rfl ?_
  refine z_iload X 6 dL_law_458 rfl ?_
  refine z_iconst X (3 : Int32) dL_law_460 (by decide) ?_
  refine z_iadd X dL_law_461 ?_
  refine z_sld X hX hb hbA dL_law_462 hi.2.2.2.1 ?_
  obtain ⟨wc, wc', wr, hM, q1, q2, q3⟩ := m_hall l D g ay y (xs (i + (1 : Int32)).toNatClampNeg) (xs (i + (2 : Int32)).toNatClampNeg) (xs (i + (3 : Int32)).toNatClampNeg) v2 y' hH
  have f2 := bk_Y (g := g) (ax := ax) (ad := ad) (qo := qo) (qd := qd) (x := x') (out := out') (od := od) q1 q2 q3
  refine z_wgV (rest := []) (ci := 12) (ws' := LW g ax ad ay qo qd x' out' od y') X k_X12_hall hM ql_L_X12_hall dL_law_463 f2.1 f2.2 rfl rfl LW_y0 rfl rfl (RM.fit (dc := 4) (ds := 24) hRm (Nat.le_of_ble_eq_true rfl) (Nat.le_of_ble_eq_true rfl) rfl rfl (Nat.le_of_ble_eq_true rfl) (Nat.le_of_ble_eq_true rfl)) (Nat.le_of_ble_eq_true rfl) ?_
  refine z_istore X ((7, .int v2) :: (6, .int a) :: lv0 b ax ay qo qd i) dL_law_466 (by decide) rfl ?_
  refine z_aload_n X 4 dL_law_468 rfl rfl ?_
  obtain ⟨wt, wu, hT, t1⟩ := m_thrown l D g ay y'
  have f3 := bk_Y (g := g) (ax := ax) (ad := ad) (qo := qo) (qd := qd) (x := x') (out := out') (od := od) t1 t1 rfl
  refine z_rgV (rest := []) (ci := 12) X k_X12_thrown hT ql_L_X12_thrown dL_law_469 f3.1 rfl rfl LW_y0 rfl rfl (RM.fit (dc := 4) (ds := 24) hRm (Nat.le_of_ble_eq_true rfl) (Nat.le_of_ble_eq_true rfl) rfl rfl (Nat.le_of_ble_eq_true rfl) (Nat.le_of_ble_eq_true rfl)) (Nat.le_of_ble_eq_true rfl) ?_
  refine z_iload X 1 dL_law_472 rfl ?_
  refine z_ceT X 479 dL_law_474 (by decide) ht ?_
  refine z_iload X 1 dL_law_479 rfl ?_
  have hend : Z p l e R s m args below meth c Q 9 (cells + 4) (slots + 24) (IW D A s (LW g ax ad ay qo qd x' out' od y')) 496 ((7, .int v2) :: (6, .int a) :: lv0 b ax ay qo qd i) [] := by
    refine z_goto X 2579 dL_law_496 (by decide) ?_
    refine z_sub (lv' := lv0 b ax ay qo qd i) [2, 3, 4, 5, 6, 7] rfl ?_
    exact kk x' out' od y' hR'
  by_cases ha : a = 0
  rotate_left
  · exact z_neT X 496 dL_law_481 (by decide) ha hend
  refine z_neF X 496 dL_law_481 (by decide) ha ?_
  refine z_aload_n X 5 dL_law_484 rfl rfl ?_
  refine z_iconst X (0 : Int32) dL_law_485 (by decide) ?_
  refine z_lald X IW_P dL_law_486 LW_o (oki (i := 0) (by decide)) ?_
  refine z_iload X 0 dL_law_487 rfl ?_
  refine z_i2l X dL_law_489 ?_
  refine z_lcmpE X dL_law_490 (hv ha) ?_
  exact z_eqT X 496 dL_law_491 (by decide) rfl hend
theorem k_L_dropHall : cardS yL_dropHall (Cond.codeWith yL_dropHall cL_dropHall 4 (some .int) [(0, 9, 12, 21)]) 3 := ⟨qs_L_dropHall, qw_L_dropHall, qn_L, by decide +kernel, by decide +kernel, by decide +kernel⟩
set_option maxHeartbeats 1000000 in
set_option maxRecDepth 100000 in
theorem lb_dropHall (B : LB p l s m args meth c D g ak av aS A b L xs) (hRm : RM R cells slots) (hR : Rel t x y) (h0 : 0 ≤ t) (h1 : t < 800000) {i : Int32} (hi : II i L) (kk : ∀ x' out' od' y', Rel (t + 300) x' y' → Z p l e R s m args below meth c Q 9 (cells + 4) (slots + 24) (IW D A s (LW g ax ad ay qo qd x' out' od' y')) 2579 (lv0 b ax ay qo qd i) []) : Z p l e R s m args below meth c Q 9 cells slots (IW D A s (LW g ax ad ay qo qd x out od y)) 499 (lv0 b ax ay qo qd i) [] := by
  obtain ⟨X, hE, hA, hX, hb, hbA, hfl⟩ := B
  obtain ⟨a, x', out', v2, y', hF, hH, ht, hv, hR'⟩ := fl_dropHall hR h0 h1 (xs (i + (1 : Int32)).toNatClampNeg) out
  refine z_aload_n X 1 dL_law_499 rfl rfl ?_
  refine z_aload_n X 0 dL_law_500 rfl rfl ?_
  refine z_iload X 5 dL_law_501 rfl ?_
  refine z_iconst X (1 : Int32) dL_law_503 (by decide) ?_
  refine z_iadd X dL_law_504 ?_
  refine z_sld X hX hb hbA dL_law_505 hi.2.1 ?_
  refine z_aload_n X 3 dL_law_506 rfl rfl ?_
  have f1 := bk_L (g := g) (ax := ax) (ad := ad) (ay := ay) (qo := qo) (qd := qd) (x := x) (x' := x') (out := out) (out' := out') (od := od) (y := y)
  refine z_mlS (rest := []) (ws' := LW g ax ad ay qo qd x' out' od y) X hE hA k_L_dropHall (c_L_dropHall l hfl ak av aS D g ad ax qo (xs (i + (1 : Int32)).toNatClampNeg) x out (a, x', out') hF) ql_L_L_dropHall dL_law_507 f1.1 f1.2 rfl rfl (RM.fit (dc := 0) (ds := 0) hRm (Nat.le_of_ble_eq_true rfl) (Nat.le_of_ble_eq_true rfl) rfl rfl (Nat.le_of_ble_eq_true rfl) (Nat.le_of_ble_eq_true rfl)) (Nat.le_of_ble_eq_true rfl) ?_
  refine z_widen (k := cells + 4) (n := slots + 24) (Nat.add_le_add_left (Nat.le_of_ble_eq_true rfl) _) (Nat.add_le_add_left (Nat.le_of_ble_eq_true rfl) _) ?_
  refine z_istore X ((6, .int a) :: lv0 b ax ay qo qd i) dL_law_510 (by decide) rfl ?_
  refine z_aload_n X 3 dL_law_512 rfl rfl ?_
  refine z_aload_n X 1 dL_law_513 rfl rfl ?_
  refine z_iload X 6 dL_law_514 rfl ?_
  refine z_iconst X (1 : Int32) dL_law_516 (by decide) ?_
  refine z_iadd X dL_law_517 ?_
  refine z_sld X hX hb hbA dL_law_518 hi.2.1 ?_
  obtain ⟨wc, wc', wr, hM, q1, q2, q3⟩ := m_dropHall l D g ay y (xs (i + (1 : Int32)).toNatClampNeg) v2 y' hH
  have f2 := bk_Y (g := g) (ax := ax) (ad := ad) (qo := qo) (qd := qd) (x := x') (out := out') (od := od) q1 q2 q3
  refine z_wgV (rest := []) (ci := 12) (ws' := LW g ax ad ay qo qd x' out' od y') X k_X12_dropHall hM ql_L_X12_dropHall dL_law_519 f2.1 f2.2 rfl rfl LW_y0 rfl rfl (RM.fit (dc := 4) (ds := 24) hRm (Nat.le_of_ble_eq_true rfl) (Nat.le_of_ble_eq_true rfl) rfl rfl (Nat.le_of_ble_eq_true rfl) (Nat.le_of_ble_eq_true rfl)) (Nat.le_of_ble_eq_true rfl) ?_
  refine z_istore X ((7, .int v2) :: (6, .int a) :: lv0 b ax ay qo qd i) dL_law_522 (by decide) rfl ?_
  refine z_aload_n X 4 dL_law_524 rfl rfl ?_
  obtain ⟨wt, wu, hT, t1⟩ := m_thrown l D g ay y'
  have f3 := bk_Y (g := g) (ax := ax) (ad := ad) (qo := qo) (qd := qd) (x := x') (out := out') (od := od) t1 t1 rfl
  refine z_rgV (rest := []) (ci := 12) X k_X12_thrown hT ql_L_X12_thrown dL_law_525 f3.1 rfl rfl LW_y0 rfl rfl (RM.fit (dc := 4) (ds := 24) hRm (Nat.le_of_ble_eq_true rfl) (Nat.le_of_ble_eq_true rfl) rfl rfl (Nat.le_of_ble_eq_true rfl) (Nat.le_of_ble_eq_true rfl)) (Nat.le_of_ble_eq_true rfl) ?_
  refine z_iload X 1 dL_law_528 rfl ?_
  refine z_ceT X 535 dL_law_530 (by decide) ht ?_
  refine z_iload X 1 dL_law_535 rfl ?_
  have hend : Z p l e R s m args below meth c Q 9 (cells + 4) (slots + 24) (IW D A s (LW g ax ad ay qo qd x' out' od y')) 552 ((7, .int v2) :: (6, .int a) :: lv0 b ax ay qo qd i) [] := by
    refine z_goto X 2579 dL_law_552 (by decide) ?_
    refine z_sub (lv' := lv0 b ax ay qo qd i) [2, 3, 4, 5, 6, 7] rfl ?_
    exact kk x' out' od y' hR'
  by_cases ha : a = 0
  rotate_left
  · exact z_neT X 552 dL_law_537 (by decide) ha hend
  refine z_neF X 552 dL_law_537 (by decide) ha ?_
  refine z_aload_n X 5 dL_law_540 rfl rfl ?_
  refine z_iconst X (0 : Int32) dL_law_541 (by decide) ?_
  refine z_lald X IW_P dL_law_542 LW_o (oki (i := 0) (by decide)) ?_
  refine z_iload X 0 dL_law_543 rfl ?_
  refine z_i2l X dL_law_545 ?_
  refine z_lcmpE X dL_law_546 (hv ha) ?_
  exact z_eqT X 552 dL_law_547 (by decide) rfl hend
theorem k_L_pass : cardS yL_pass (Cond.codeWith yL_pass cL_pass 4 (some .int) [(0, 9, 12, 13)]) 3 := ⟨qs_L_pass, qw_L_pass, qn_L, by decide +kernel, by decide +kernel, by decide +kernel⟩
set_option maxHeartbeats 1000000 in
set_option maxRecDepth 100000 in
theorem lb_pass (B : LB p l s m args meth c D g ak av aS A b L xs) (hRm : RM R cells slots) (hR : Rel t x y) (h0 : 0 ≤ t) (h1 : t < 800000) {i : Int32} (hi : II i L) (kk : ∀ x' out' od' y', Rel (t + 300) x' y' → Z p l e R s m args below meth c Q 9 (cells + 4) (slots + 24) (IW D A s (LW g ax ad ay qo qd x' out' od' y')) 2579 (lv0 b ax ay qo qd i) []) : Z p l e R s m args below meth c Q 9 cells slots (IW D A s (LW g ax ad ay qo qd x out od y)) 555 (lv0 b ax ay qo qd i) [] := by
  obtain ⟨X, hE, hA, hX, hb, hbA, hfl⟩ := B
  obtain ⟨a, x', out', v2, y', hF, hH, ht, hv, hR'⟩ := fl_pass hR h0 h1 (xs (i + (1 : Int32)).toNatClampNeg) out
  refine z_aload_n X 1 dL_law_555 rfl rfl ?_
  refine z_aload_n X 0 dL_law_556 rfl rfl ?_
  refine z_iload X 5 dL_law_557 rfl ?_
  refine z_iconst X (1 : Int32) dL_law_559 (by decide) ?_
  refine z_iadd X dL_law_560 ?_
  refine z_sld X hX hb hbA dL_law_561 hi.2.1 ?_
  refine z_aload_n X 3 dL_law_562 rfl rfl ?_
  have f1 := bk_L (g := g) (ax := ax) (ad := ad) (ay := ay) (qo := qo) (qd := qd) (x := x) (x' := x') (out := out) (out' := out') (od := od) (y := y)
  refine z_mlS (rest := []) (ws' := LW g ax ad ay qo qd x' out' od y) X hE hA k_L_pass (c_L_pass l hfl ak av aS D g ad ax qo (xs (i + (1 : Int32)).toNatClampNeg) x out (a, x', out') hF) ql_L_L_pass dL_law_563 f1.1 f1.2 rfl rfl (RM.fit (dc := 0) (ds := 0) hRm (Nat.le_of_ble_eq_true rfl) (Nat.le_of_ble_eq_true rfl) rfl rfl (Nat.le_of_ble_eq_true rfl) (Nat.le_of_ble_eq_true rfl)) (Nat.le_of_ble_eq_true rfl) ?_
  refine z_widen (k := cells + 4) (n := slots + 24) (Nat.add_le_add_left (Nat.le_of_ble_eq_true rfl) _) (Nat.add_le_add_left (Nat.le_of_ble_eq_true rfl) _) ?_
  refine z_istore X ((6, .int a) :: lv0 b ax ay qo qd i) dL_law_566 (by decide) rfl ?_
  refine z_aload_n X 3 dL_law_568 rfl rfl ?_
  refine z_aload_n X 1 dL_law_569 rfl rfl ?_
  refine z_iload X 6 dL_law_570 rfl ?_
  refine z_iconst X (1 : Int32) dL_law_572 (by decide) ?_
  refine z_iadd X dL_law_573 ?_
  refine z_sld X hX hb hbA dL_law_574 hi.2.1 ?_
  obtain ⟨wc, wc', wr, hM, q1, q2, q3⟩ := m_pass l D g ay y (xs (i + (1 : Int32)).toNatClampNeg) v2 y' hH
  have f2 := bk_Y (g := g) (ax := ax) (ad := ad) (qo := qo) (qd := qd) (x := x') (out := out') (od := od) q1 q2 q3
  refine z_wgV (rest := []) (ci := 12) (ws' := LW g ax ad ay qo qd x' out' od y') X k_X12_pass hM ql_L_X12_pass dL_law_575 f2.1 f2.2 rfl rfl LW_y0 rfl rfl (RM.fit (dc := 4) (ds := 24) hRm (Nat.le_of_ble_eq_true rfl) (Nat.le_of_ble_eq_true rfl) rfl rfl (Nat.le_of_ble_eq_true rfl) (Nat.le_of_ble_eq_true rfl)) (Nat.le_of_ble_eq_true rfl) ?_
  refine z_istore X ((7, .int v2) :: (6, .int a) :: lv0 b ax ay qo qd i) dL_law_578 (by decide) rfl ?_
  refine z_aload_n X 4 dL_law_580 rfl rfl ?_
  obtain ⟨wt, wu, hT, t1⟩ := m_thrown l D g ay y'
  have f3 := bk_Y (g := g) (ax := ax) (ad := ad) (qo := qo) (qd := qd) (x := x') (out := out') (od := od) t1 t1 rfl
  refine z_rgV (rest := []) (ci := 12) X k_X12_thrown hT ql_L_X12_thrown dL_law_581 f3.1 rfl rfl LW_y0 rfl rfl (RM.fit (dc := 4) (ds := 24) hRm (Nat.le_of_ble_eq_true rfl) (Nat.le_of_ble_eq_true rfl) rfl rfl (Nat.le_of_ble_eq_true rfl) (Nat.le_of_ble_eq_true rfl)) (Nat.le_of_ble_eq_true rfl) ?_
  refine z_iload X 1 dL_law_584 rfl ?_
  refine z_ceT X 591 dL_law_586 (by decide) ht ?_
  refine z_iload X 1 dL_law_591 rfl ?_
  have hend : Z p l e R s m args below meth c Q 9 (cells + 4) (slots + 24) (IW D A s (LW g ax ad ay qo qd x' out' od y')) 608 ((7, .int v2) :: (6, .int a) :: lv0 b ax ay qo qd i) [] := by
    refine z_goto X 2579 dL_law_608 (by decide) ?_
    refine z_sub (lv' := lv0 b ax ay qo qd i) [2, 3, 4, 5, 6, 7] rfl ?_
    exact kk x' out' od y' hR'
  by_cases ha : a = 0
  rotate_left
  · exact z_neT X 608 dL_law_593 (by decide) ha hend
  refine z_neF X 608 dL_law_593 (by decide) ha ?_
  refine z_aload_n X 5 dL_law_596 rfl rfl ?_
  refine z_iconst X (0 : Int32) dL_law_597 (by decide) ?_
  refine z_lald X IW_P dL_law_598 LW_o (oki (i := 0) (by decide)) ?_
  refine z_iload X 0 dL_law_599 rfl ?_
  refine z_i2l X dL_law_601 ?_
  refine z_lcmpE X dL_law_602 (hv ha) ?_
  exact z_eqT X 608 dL_law_603 (by decide) rfl hend
theorem k_L_houseOf : cardS yL_houseOf (Cond.codeWith yL_houseOf cL_houseOf 5 (some .int) [(0, 10, 13, 21), (0, 10, 17, 13)]) 4 := ⟨qs_L_houseOf, qw_L_houseOf, qn_L, by decide +kernel, by decide +kernel, by decide +kernel⟩
set_option maxHeartbeats 1000000 in
set_option maxRecDepth 100000 in
theorem lb_houseOf (B : LB p l s m args meth c D g ak av aS A b L xs) (hRm : RM R cells slots) (hR : Rel t x y) (h0 : 0 ≤ t) (h1 : t < 800000) {i : Int32} (hi : II i L) (kk : ∀ x' out' od' y', Rel (t + 300) x' y' → Z p l e R s m args below meth c Q 9 (cells + 4) (slots + 24) (IW D A s (LW g ax ad ay qo qd x' out' od' y')) 2579 (lv0 b ax ay qo qd i) []) : Z p l e R s m args below meth c Q 9 cells slots (IW D A s (LW g ax ad ay qo qd x out od y)) 611 (lv0 b ax ay qo qd i) [] := by
  obtain ⟨X, hE, hA, hX, hb, hbA, hfl⟩ := B
  obtain ⟨a, x', out', v2, y', hF, hH, ht, hv, hR'⟩ := fl_houseOf hR h0 h1 (xs (i + (1 : Int32)).toNatClampNeg) (xs (i + (2 : Int32)).toNatClampNeg) out
  refine z_aload_n X 1 dL_law_611 rfl rfl ?_
  refine z_aload_n X 0 dL_law_612 rfl rfl ?_
  refine z_iload X 5 dL_law_613 rfl ?_
  refine z_iconst X (1 : Int32) dL_law_615 (by decide) ?_
  refine z_iadd X dL_law_616 ?_
  refine z_sld X hX hb hbA dL_law_617 hi.2.1 ?_
  refine z_aload_n X 0 dL_law_618 rfl rfl ?_
  refine z_iload X 5 dL_law_619 rfl ?_
  refine z_iconst X (2 : Int32) dL_law_621 (by decide) ?_
  refine z_iadd X dL_law_622 ?_
  refine z_sld X hX hb hbA dL_law_623 hi.2.2.1 ?_
  refine z_aload_n X 3 dL_law_624 rfl rfl ?_
  have f1 := bk_L (g := g) (ax := ax) (ad := ad) (ay := ay) (qo := qo) (qd := qd) (x := x) (x' := x') (out := out) (out' := out') (od := od) (y := y)
  refine z_mlS (rest := []) (ws' := LW g ax ad ay qo qd x' out' od y) X hE hA k_L_houseOf (c_L_houseOf l hfl ak av aS D g ad ax qo (xs (i + (1 : Int32)).toNatClampNeg) (xs (i + (2 : Int32)).toNatClampNeg) x out (a, x', out') hF) ql_L_L_houseOf dL_law_625 f1.1 f1.2 rfl rfl (RM.fit (dc := 0) (ds := 0) hRm (Nat.le_of_ble_eq_true rfl) (Nat.le_of_ble_eq_true rfl) rfl rfl (Nat.le_of_ble_eq_true rfl) (Nat.le_of_ble_eq_true rfl)) (Nat.le_of_ble_eq_true rfl) ?_
  refine z_widen (k := cells + 4) (n := slots + 24) (Nat.add_le_add_left (Nat.le_of_ble_eq_true rfl) _) (Nat.add_le_add_left (Nat.le_of_ble_eq_true rfl) _) ?_
  refine z_istore X ((6, .int a) :: lv0 b ax ay qo qd i) dL_law_628 (by decide) rfl ?_
  refine z_aload_n X 3 dL_law_630 rfl rfl ?_
  refine z_aload_n X 1 dL_law_631 rfl rfl ?_
  refine z_iload X 6 dL_law_632 rfl ?_
  refine z_iconst X (1 : Int32) dL_law_634 (by decide) ?_
  refine z_iadd X dL_law_635 ?_
  refine z_sld X hX hb hbA dL_law_636 hi.2.1 ?_
  refine z_aload_n X 1 dL_law_637 rfl rfl ?_
  refine z_iload X 6 dL_law_638 rfl ?_
  refine z_iconst X (2 : Int32) dL_law_640 (by decide) ?_
  refine z_iadd X dL_law_641 ?_
  refine z_sld X hX hb hbA dL_law_642 hi.2.2.1 ?_
  obtain ⟨wc, wc', wr, hM, q1, q2, q3⟩ := m_houseOf l D g ay y (xs (i + (1 : Int32)).toNatClampNeg) (xs (i + (2 : Int32)).toNatClampNeg) v2 y' hH
  have f2 := bk_Y (g := g) (ax := ax) (ad := ad) (qo := qo) (qd := qd) (x := x') (out := out') (od := od) q1 q2 q3
  refine z_wgV (rest := []) (ci := 12) (ws' := LW g ax ad ay qo qd x' out' od y') X k_X12_houseOf hM ql_L_X12_houseOf dL_law_643 f2.1 f2.2 rfl rfl LW_y0 rfl rfl (RM.fit (dc := 4) (ds := 24) hRm (Nat.le_of_ble_eq_true rfl) (Nat.le_of_ble_eq_true rfl) rfl rfl (Nat.le_of_ble_eq_true rfl) (Nat.le_of_ble_eq_true rfl)) (Nat.le_of_ble_eq_true rfl) ?_
  refine z_istore X ((7, .int v2) :: (6, .int a) :: lv0 b ax ay qo qd i) dL_law_646 (by decide) rfl ?_
  refine z_aload_n X 4 dL_law_648 rfl rfl ?_
  obtain ⟨wt, wu, hT, t1⟩ := m_thrown l D g ay y'
  have f3 := bk_Y (g := g) (ax := ax) (ad := ad) (qo := qo) (qd := qd) (x := x') (out := out') (od := od) t1 t1 rfl
  refine z_rgV (rest := []) (ci := 12) X k_X12_thrown hT ql_L_X12_thrown dL_law_649 f3.1 rfl rfl LW_y0 rfl rfl (RM.fit (dc := 4) (ds := 24) hRm (Nat.le_of_ble_eq_true rfl) (Nat.le_of_ble_eq_true rfl) rfl rfl (Nat.le_of_ble_eq_true rfl) (Nat.le_of_ble_eq_true rfl)) (Nat.le_of_ble_eq_true rfl) ?_
  refine z_iload X 1 dL_law_652 rfl ?_
  refine z_ceT X 659 dL_law_654 (by decide) ht ?_
  refine z_iload X 1 dL_law_659 rfl ?_
  have hend : Z p l e R s m args below meth c Q 9 (cells + 4) (slots + 24) (IW D A s (LW g ax ad ay qo qd x' out' od y')) 676 ((7, .int v2) :: (6, .int a) :: lv0 b ax ay qo qd i) [] := by
    refine z_goto X 2579 dL_law_676 (by decide) ?_
    refine z_sub (lv' := lv0 b ax ay qo qd i) [2, 3, 4, 5, 6, 7] rfl ?_
    exact kk x' out' od y' hR'
  by_cases ha : a = 0
  rotate_left
  · exact z_neT X 676 dL_law_661 (by decide) ha hend
  refine z_neF X 676 dL_law_661 (by decide) ha ?_
  refine z_aload_n X 5 dL_law_664 rfl rfl ?_
  refine z_iconst X (0 : Int32) dL_law_665 (by decide) ?_
  refine z_lald X IW_P dL_law_666 LW_o (oki (i := 0) (by decide)) ?_
  refine z_iload X 0 dL_law_667 rfl ?_
  refine z_i2l X dL_law_669 ?_
  refine z_lcmpE X dL_law_670 (hv ha) ?_
  exact z_eqT X 676 dL_law_671 (by decide) rfl hend
theorem k_L_asleep : cardS yL_asleep (Cond.codeWith yL_asleep cL_asleep 5 (some .int) [(0, 10, 13, 13)]) 4 := ⟨qs_L_asleep, qw_L_asleep, qn_L, by decide +kernel, by decide +kernel, by decide +kernel⟩
set_option maxHeartbeats 1000000 in
set_option maxRecDepth 100000 in
theorem lb_asleep (B : LB p l s m args meth c D g ak av aS A b L xs) (hRm : RM R cells slots) (hR : Rel t x y) (h0 : 0 ≤ t) (h1 : t < 800000) {i : Int32} (hi : II i L) (kk : ∀ x' out' od' y', Rel (t + 300) x' y' → Z p l e R s m args below meth c Q 9 (cells + 4) (slots + 24) (IW D A s (LW g ax ad ay qo qd x' out' od' y')) 2579 (lv0 b ax ay qo qd i) []) : Z p l e R s m args below meth c Q 9 cells slots (IW D A s (LW g ax ad ay qo qd x out od y)) 679 (lv0 b ax ay qo qd i) [] := by
  obtain ⟨X, hE, hA, hX, hb, hbA, hfl⟩ := B
  by_cases hz : (xs (i + (2 : Int32)).toNatClampNeg) = 0
  · obtain ⟨a, x', out', v2, y', hF, hH, ht, hv, hR'⟩ := fl_asleep hR h0 h1 (xs (i + (1 : Int32)).toNatClampNeg) (0 : Int32) out
    refine z_aload_n X 1 dL_law_679 rfl rfl ?_
    refine z_aload_n X 0 dL_law_680 rfl rfl ?_
    refine z_iload X 5 dL_law_681 rfl ?_
    refine z_iconst X (1 : Int32) dL_law_683 (by decide) ?_
    refine z_iadd X dL_law_684 ?_
    refine z_sld X hX hb hbA dL_law_685 hi.2.1 ?_
    refine z_aload_n X 0 dL_law_686 rfl rfl ?_
    refine z_iload X 5 dL_law_687 rfl ?_
    refine z_iconst X (2 : Int32) dL_law_689 (by decide) ?_
    refine z_iadd X dL_law_690 ?_
    refine z_sld X hX hb hbA dL_law_691 hi.2.2.1 ?_
    refine z_eqT X 699 dL_law_692 (by decide) hz ?_
    refine z_iconst X (0 : Int32) dL_law_699 (by decide) ?_
    refine z_aload_n X 3 dL_law_700 rfl rfl ?_
    have f1 := bk_L (g := g) (ax := ax) (ad := ad) (ay := ay) (qo := qo) (qd := qd) (x := x) (x' := x') (out := out) (out' := out') (od := od) (y := y)
    refine z_mlS (rest := []) (ws' := LW g ax ad ay qo qd x' out' od y) X hE hA k_L_asleep (c_L_asleep l hfl ak av aS D g ad ax qo (xs (i + (1 : Int32)).toNatClampNeg) (0 : Int32) x out (a, x', out') hF) ql_L_L_asleep dL_law_701 f1.1 f1.2 rfl rfl (RM.fit (dc := 0) (ds := 0) hRm (Nat.le_of_ble_eq_true rfl) (Nat.le_of_ble_eq_true rfl) rfl rfl (Nat.le_of_ble_eq_true rfl) (Nat.le_of_ble_eq_true rfl)) (Nat.le_of_ble_eq_true rfl) ?_
    refine z_widen (k := cells + 4) (n := slots + 24) (Nat.add_le_add_left (Nat.le_of_ble_eq_true rfl) _) (Nat.add_le_add_left (Nat.le_of_ble_eq_true rfl) _) ?_
    refine z_istore X ((6, .int a) :: lv0 b ax ay qo qd i) dL_law_704 (by decide) rfl ?_
    refine z_aload_n X 3 dL_law_706 rfl rfl ?_
    refine z_aload_n X 1 dL_law_707 rfl rfl ?_
    refine z_iload X 6 dL_law_708 rfl ?_
    refine z_iconst X (1 : Int32) dL_law_710 (by decide) ?_
    refine z_iadd X dL_law_711 ?_
    refine z_sld X hX hb hbA dL_law_712 hi.2.1 ?_
    refine z_aload_n X 1 dL_law_713 rfl rfl ?_
    refine z_iload X 6 dL_law_714 rfl ?_
    refine z_iconst X (2 : Int32) dL_law_716 (by decide) ?_
    refine z_iadd X dL_law_717 ?_
    refine z_sld X hX hb hbA dL_law_718 hi.2.2.1 ?_
    refine z_eqT X 726 dL_law_719 (by decide) hz ?_
    refine z_iconst X (0 : Int32) dL_law_726 (by decide) ?_
    obtain ⟨wc, wc', wr, hM, q1, q2, q3⟩ := m_asleep l D g ay y (xs (i + (1 : Int32)).toNatClampNeg) (0 : Int32) v2 y' hH
    have f2 := bk_Y (g := g) (ax := ax) (ad := ad) (qo := qo) (qd := qd) (x := x') (out := out') (od := od) q1 q2 q3
    refine z_wgV (rest := []) (ci := 12) (ws' := LW g ax ad ay qo qd x' out' od y') X k_X12_asleep hM ql_L_X12_asleep dL_law_727 f2.1 f2.2 rfl rfl LW_y0 rfl rfl (RM.fit (dc := 4) (ds := 24) hRm (Nat.le_of_ble_eq_true rfl) (Nat.le_of_ble_eq_true rfl) rfl rfl (Nat.le_of_ble_eq_true rfl) (Nat.le_of_ble_eq_true rfl)) (Nat.le_of_ble_eq_true rfl) ?_
    refine z_istore X ((7, .int v2) :: (6, .int a) :: lv0 b ax ay qo qd i) dL_law_730 (by decide) rfl ?_
    refine z_aload_n X 4 dL_law_732 rfl rfl ?_
    obtain ⟨wt, wu, hT, t1⟩ := m_thrown l D g ay y'
    have f3 := bk_Y (g := g) (ax := ax) (ad := ad) (qo := qo) (qd := qd) (x := x') (out := out') (od := od) t1 t1 rfl
    refine z_rgV (rest := []) (ci := 12) X k_X12_thrown hT ql_L_X12_thrown dL_law_733 f3.1 rfl rfl LW_y0 rfl rfl (RM.fit (dc := 4) (ds := 24) hRm (Nat.le_of_ble_eq_true rfl) (Nat.le_of_ble_eq_true rfl) rfl rfl (Nat.le_of_ble_eq_true rfl) (Nat.le_of_ble_eq_true rfl)) (Nat.le_of_ble_eq_true rfl) ?_
    refine z_iload X 1 dL_law_736 rfl ?_
    refine z_ceT X 743 dL_law_738 (by decide) ht ?_
    refine z_iload X 1 dL_law_743 rfl ?_
    have hend : Z p l e R s m args below meth c Q 9 (cells + 4) (slots + 24) (IW D A s (LW g ax ad ay qo qd x' out' od y')) 760 ((7, .int v2) :: (6, .int a) :: lv0 b ax ay qo qd i) [] := by
      refine z_goto X 2579 dL_law_760 (by decide) ?_
      refine z_sub (lv' := lv0 b ax ay qo qd i) [2, 3, 4, 5, 6, 7] rfl ?_
      exact kk x' out' od y' hR'
    by_cases ha : a = 0
    rotate_left
    · exact z_neT X 760 dL_law_745 (by decide) ha hend
    refine z_neF X 760 dL_law_745 (by decide) ha ?_
    refine z_aload_n X 5 dL_law_748 rfl rfl ?_
    refine z_iconst X (0 : Int32) dL_law_749 (by decide) ?_
    refine z_lald X IW_P dL_law_750 LW_o (oki (i := 0) (by decide)) ?_
    refine z_iload X 0 dL_law_751 rfl ?_
    refine z_i2l X dL_law_753 ?_
    refine z_lcmpE X dL_law_754 (hv ha) ?_
    exact z_eqT X 760 dL_law_755 (by decide) rfl hend
  · obtain ⟨a, x', out', v2, y', hF, hH, ht, hv, hR'⟩ := fl_asleep hR h0 h1 (xs (i + (1 : Int32)).toNatClampNeg) (1 : Int32) out
    refine z_aload_n X 1 dL_law_679 rfl rfl ?_
    refine z_aload_n X 0 dL_law_680 rfl rfl ?_
    refine z_iload X 5 dL_law_681 rfl ?_
    refine z_iconst X (1 : Int32) dL_law_683 (by decide) ?_
    refine z_iadd X dL_law_684 ?_
    refine z_sld X hX hb hbA dL_law_685 hi.2.1 ?_
    refine z_aload_n X 0 dL_law_686 rfl rfl ?_
    refine z_iload X 5 dL_law_687 rfl ?_
    refine z_iconst X (2 : Int32) dL_law_689 (by decide) ?_
    refine z_iadd X dL_law_690 ?_
    refine z_sld X hX hb hbA dL_law_691 hi.2.2.1 ?_
    refine z_eqF X 699 dL_law_692 (by decide) hz ?_
    refine z_iconst X (1 : Int32) dL_law_695 (by decide) ?_
    refine z_goto X 700 dL_law_696 (by decide) ?_
    refine z_aload_n X 3 dL_law_700 rfl rfl ?_
    have f1 := bk_L (g := g) (ax := ax) (ad := ad) (ay := ay) (qo := qo) (qd := qd) (x := x) (x' := x') (out := out) (out' := out') (od := od) (y := y)
    refine z_mlS (rest := []) (ws' := LW g ax ad ay qo qd x' out' od y) X hE hA k_L_asleep (c_L_asleep l hfl ak av aS D g ad ax qo (xs (i + (1 : Int32)).toNatClampNeg) (1 : Int32) x out (a, x', out') hF) ql_L_L_asleep dL_law_701 f1.1 f1.2 rfl rfl (RM.fit (dc := 0) (ds := 0) hRm (Nat.le_of_ble_eq_true rfl) (Nat.le_of_ble_eq_true rfl) rfl rfl (Nat.le_of_ble_eq_true rfl) (Nat.le_of_ble_eq_true rfl)) (Nat.le_of_ble_eq_true rfl) ?_
    refine z_widen (k := cells + 4) (n := slots + 24) (Nat.add_le_add_left (Nat.le_of_ble_eq_true rfl) _) (Nat.add_le_add_left (Nat.le_of_ble_eq_true rfl) _) ?_
    refine z_istore X ((6, .int a) :: lv0 b ax ay qo qd i) dL_law_704 (by decide) rfl ?_
    refine z_aload_n X 3 dL_law_706 rfl rfl ?_
    refine z_aload_n X 1 dL_law_707 rfl rfl ?_
    refine z_iload X 6 dL_law_708 rfl ?_
    refine z_iconst X (1 : Int32) dL_law_710 (by decide) ?_
    refine z_iadd X dL_law_711 ?_
    refine z_sld X hX hb hbA dL_law_712 hi.2.1 ?_
    refine z_aload_n X 1 dL_law_713 rfl rfl ?_
    refine z_iload X 6 dL_law_714 rfl ?_
    refine z_iconst X (2 : Int32) dL_law_716 (by decide) ?_
    refine z_iadd X dL_law_717 ?_
    refine z_sld X hX hb hbA dL_law_718 hi.2.2.1 ?_
    refine z_eqF X 726 dL_law_719 (by decide) hz ?_
    refine z_iconst X (1 : Int32) dL_law_722 (by decide) ?_
    refine z_goto X 727 dL_law_723 (by decide) ?_
    obtain ⟨wc, wc', wr, hM, q1, q2, q3⟩ := m_asleep l D g ay y (xs (i + (1 : Int32)).toNatClampNeg) (1 : Int32) v2 y' hH
    have f2 := bk_Y (g := g) (ax := ax) (ad := ad) (qo := qo) (qd := qd) (x := x') (out := out') (od := od) q1 q2 q3
    refine z_wgV (rest := []) (ci := 12) (ws' := LW g ax ad ay qo qd x' out' od y') X k_X12_asleep hM ql_L_X12_asleep dL_law_727 f2.1 f2.2 rfl rfl LW_y0 rfl rfl (RM.fit (dc := 4) (ds := 24) hRm (Nat.le_of_ble_eq_true rfl) (Nat.le_of_ble_eq_true rfl) rfl rfl (Nat.le_of_ble_eq_true rfl) (Nat.le_of_ble_eq_true rfl)) (Nat.le_of_ble_eq_true rfl) ?_
    refine z_istore X ((7, .int v2) :: (6, .int a) :: lv0 b ax ay qo qd i) dL_law_730 (by decide) rfl ?_
    refine z_aload_n X 4 dL_law_732 rfl rfl ?_
    obtain ⟨wt, wu, hT, t1⟩ := m_thrown l D g ay y'
    have f3 := bk_Y (g := g) (ax := ax) (ad := ad) (qo := qo) (qd := qd) (x := x') (out := out') (od := od) t1 t1 rfl
    refine z_rgV (rest := []) (ci := 12) X k_X12_thrown hT ql_L_X12_thrown dL_law_733 f3.1 rfl rfl LW_y0 rfl rfl (RM.fit (dc := 4) (ds := 24) hRm (Nat.le_of_ble_eq_true rfl) (Nat.le_of_ble_eq_true rfl) rfl rfl (Nat.le_of_ble_eq_true rfl) (Nat.le_of_ble_eq_true rfl)) (Nat.le_of_ble_eq_true rfl) ?_
    refine z_iload X 1 dL_law_736 rfl ?_
    refine z_ceT X 743 dL_law_738 (by decide) ht ?_
    refine z_iload X 1 dL_law_743 rfl ?_
    have hend : Z p l e R s m args below meth c Q 9 (cells + 4) (slots + 24) (IW D A s (LW g ax ad ay qo qd x' out' od y')) 760 ((7, .int v2) :: (6, .int a) :: lv0 b ax ay qo qd i) [] := by
      refine z_goto X 2579 dL_law_760 (by decide) ?_
      refine z_sub (lv' := lv0 b ax ay qo qd i) [2, 3, 4, 5, 6, 7] rfl ?_
      exact kk x' out' od y' hR'
    by_cases ha : a = 0
    rotate_left
    · exact z_neT X 760 dL_law_745 (by decide) ha hend
    refine z_neF X 760 dL_law_745 (by decide) ha ?_
    refine z_aload_n X 5 dL_law_748 rfl rfl ?_
    refine z_iconst X (0 : Int32) dL_law_749 (by decide) ?_
    refine z_lald X IW_P dL_law_750 LW_o (oki (i := 0) (by decide)) ?_
    refine z_iload X 0 dL_law_751 rfl ?_
    refine z_i2l X dL_law_753 ?_
    refine z_lcmpE X dL_law_754 (hv ha) ?_
    exact z_eqT X 760 dL_law_755 (by decide) rfl hend
theorem k_L_deepest : cardS yL_deepest (Cond.codeWith yL_deepest cL_deepest 3 (some .int) [(0, 8, 11, 48)]) 2 := ⟨qs_L_deepest, qw_L_deepest, qn_L, by decide +kernel, by decide +kernel, by decide +kernel⟩
set_option maxHeartbeats 1000000 in
set_option maxRecDepth 100000 in
theorem lb_deepest (B : LB p l s m args meth c D g ak av aS A b L xs) (hRm : RM R cells slots) (hR : Rel t x y) (h0 : 0 ≤ t) (h1 : t < 800000) {i : Int32} (hi : II i L) (kk : ∀ x' out' od' y', Rel (t + 300) x' y' → Z p l e R s m args below meth c Q 9 (cells + 4) (slots + 24) (IW D A s (LW g ax ad ay qo qd x' out' od' y')) 2579 (lv0 b ax ay qo qd i) []) : Z p l e R s m args below meth c Q 9 cells slots (IW D A s (LW g ax ad ay qo qd x out od y)) 763 (lv0 b ax ay qo qd i) [] := by
  obtain ⟨X, hE, hA, hX, hb, hbA, hfl⟩ := B
  obtain ⟨a, x', out', v2, y', hF, hH, ht, hv, hR'⟩ := fl_deepest hR h0 h1 out
  refine z_aload_n X 1 dL_law_763 rfl rfl ?_
  refine z_aload_n X 3 dL_law_764 rfl rfl ?_
  have f1 := bk_L (g := g) (ax := ax) (ad := ad) (ay := ay) (qo := qo) (qd := qd) (x := x) (x' := x') (out := out) (out' := out') (od := od) (y := y)
  refine z_mlS (rest := []) (ws' := LW g ax ad ay qo qd x' out' od y) X hE hA k_L_deepest (c_L_deepest l hfl ak av aS D g ad ax qo x out (a, x', out') hF) ql_L_L_deepest dL_law_765 f1.1 f1.2 rfl rfl (RM.fit (dc := 0) (ds := 0) hRm (Nat.le_of_ble_eq_true rfl) (Nat.le_of_ble_eq_true rfl) rfl rfl (Nat.le_of_ble_eq_true rfl) (Nat.le_of_ble_eq_true rfl)) (Nat.le_of_ble_eq_true rfl) ?_
  refine z_widen (k := cells + 4) (n := slots + 24) (Nat.add_le_add_left (Nat.le_of_ble_eq_true rfl) _) (Nat.add_le_add_left (Nat.le_of_ble_eq_true rfl) _) ?_
  refine z_istore X ((6, .int a) :: lv0 b ax ay qo qd i) dL_law_768 (by decide) rfl ?_
  refine z_aload_n X 3 dL_law_770 rfl rfl ?_
  obtain ⟨wc, wc', wr, hM, q1, q2, q3⟩ := m_deepest l D g ay y v2 y' hH
  have f2 := bk_Y (g := g) (ax := ax) (ad := ad) (qo := qo) (qd := qd) (x := x') (out := out') (od := od) q1 q2 q3
  refine z_wgV (rest := []) (ci := 12) (ws' := LW g ax ad ay qo qd x' out' od y') X k_X12_deepest hM ql_L_X12_deepest dL_law_771 f2.1 f2.2 rfl rfl LW_y0 rfl rfl (RM.fit (dc := 4) (ds := 24) hRm (Nat.le_of_ble_eq_true rfl) (Nat.le_of_ble_eq_true rfl) rfl rfl (Nat.le_of_ble_eq_true rfl) (Nat.le_of_ble_eq_true rfl)) (Nat.le_of_ble_eq_true rfl) ?_
  refine z_istore X ((7, .int v2) :: (6, .int a) :: lv0 b ax ay qo qd i) dL_law_774 (by decide) rfl ?_
  refine z_aload_n X 4 dL_law_776 rfl rfl ?_
  obtain ⟨wt, wu, hT, t1⟩ := m_thrown l D g ay y'
  have f3 := bk_Y (g := g) (ax := ax) (ad := ad) (qo := qo) (qd := qd) (x := x') (out := out') (od := od) t1 t1 rfl
  refine z_rgV (rest := []) (ci := 12) X k_X12_thrown hT ql_L_X12_thrown dL_law_777 f3.1 rfl rfl LW_y0 rfl rfl (RM.fit (dc := 4) (ds := 24) hRm (Nat.le_of_ble_eq_true rfl) (Nat.le_of_ble_eq_true rfl) rfl rfl (Nat.le_of_ble_eq_true rfl) (Nat.le_of_ble_eq_true rfl)) (Nat.le_of_ble_eq_true rfl) ?_
  refine z_iload X 1 dL_law_780 rfl ?_
  refine z_ceT X 787 dL_law_782 (by decide) ht ?_
  refine z_iload X 1 dL_law_787 rfl ?_
  have hend : Z p l e R s m args below meth c Q 9 (cells + 4) (slots + 24) (IW D A s (LW g ax ad ay qo qd x' out' od y')) 804 ((7, .int v2) :: (6, .int a) :: lv0 b ax ay qo qd i) [] := by
    refine z_goto X 2579 dL_law_804 (by decide) ?_
    refine z_sub (lv' := lv0 b ax ay qo qd i) [2, 3, 4, 5, 6, 7] rfl ?_
    exact kk x' out' od y' hR'
  by_cases ha : a = 0
  rotate_left
  · exact z_neT X 804 dL_law_789 (by decide) ha hend
  refine z_neF X 804 dL_law_789 (by decide) ha ?_
  refine z_aload_n X 5 dL_law_792 rfl rfl ?_
  refine z_iconst X (0 : Int32) dL_law_793 (by decide) ?_
  refine z_lald X IW_P dL_law_794 LW_o (oki (i := 0) (by decide)) ?_
  refine z_iload X 0 dL_law_795 rfl ?_
  refine z_i2l X dL_law_797 ?_
  refine z_lcmpE X dL_law_798 (hv ha) ?_
  exact z_eqT X 804 dL_law_799 (by decide) rfl hend
theorem k_L_ring : cardS yL_ring (Cond.codeWith yL_ring cL_ring 6 (some .int) [(0, 12, 15, 21), (0, 12, 19, 13)]) 5 := ⟨qs_L_ring, qw_L_ring, qn_L, by decide +kernel, by decide +kernel, by decide +kernel⟩
set_option maxHeartbeats 1000000 in
set_option maxRecDepth 100000 in
theorem lb_ring (B : LB p l s m args meth c D g ak av aS A b L xs) (hRm : RM R cells slots) (hR : Rel t x y) (h0 : 0 ≤ t) (h1 : t < 800000) {i : Int32} (hi : II i L) (kk : ∀ x' out' od' y', Rel (t + 300) x' y' → Z p l e R s m args below meth c Q 9 (cells + 4) (slots + 24) (IW D A s (LW g ax ad ay qo qd x' out' od' y')) 2579 (lv0 b ax ay qo qd i) []) : Z p l e R s m args below meth c Q 9 cells slots (IW D A s (LW g ax ad ay qo qd x out od y)) 807 (lv0 b ax ay qo qd i) [] := by
  obtain ⟨X, hE, hA, hX, hb, hbA, hfl⟩ := B
  obtain ⟨a, x', out', v2, y', hF, hH, ht, hv, hR'⟩ := fl_ring hR h0 h1 (xs (i + (1 : Int32)).toNatClampNeg) (xs (i + (2 : Int32)).toNatClampNeg) (xs (i + (3 : Int32)).toNatClampNeg) out
  refine z_aload_n X 1 dL_law_807 rfl rfl ?_
  refine z_aload_n X 0 dL_law_808 rfl rfl ?_
  refine z_iload X 5 dL_law_809 rfl ?_
  refine z_iconst X (1 : Int32) dL_law_811 (by decide) ?_
  refine z_iadd X dL_law_812 ?_
  refine z_sld X hX hb hbA dL_law_813 hi.2.1 ?_
  refine z_aload_n X 0 dL_law_814 rfl rfl ?_
  refine z_iload X 5 dL_law_815 rfl ?_
  refine z_iconst X (2 : Int32) dL_law_817 (by decide) ?_
  refine z_iadd X dL_law_818 ?_
  refine z_sld X hX hb hbA dL_law_819 hi.2.2.1 ?_
  refine z_aload_n X 0 dL_law_820 rfl rfl ?_
  refine z_iload X 5 dL_law_821 rfl ?_
  refine z_iconst X (3 : Int32) dL_law_823 (by decide) ?_
  refine z_iadd X dL_law_824 ?_
  refine z_sld X hX hb hbA dL_law_825 hi.2.2.2.1 ?_
  refine z_aload_n X 3 dL_law_826 rfl rfl ?_
  have f1 := bk_L (g := g) (ax := ax) (ad := ad) (ay := ay) (qo := qo) (qd := qd) (x := x) (x' := x') (out := out) (out' := out') (od := od) (y := y)
  refine z_mlS (rest := []) (ws' := LW g ax ad ay qo qd x' out' od y) X hE hA k_L_ring (c_L_ring l hfl ak av aS D g ad ax qo (xs (i + (1 : Int32)).toNatClampNeg) (xs (i + (2 : Int32)).toNatClampNeg) (xs (i + (3 : Int32)).toNatClampNeg) x out (a, x', out') hF) ql_L_L_ring dL_law_827 f1.1 f1.2 rfl rfl (RM.fit (dc := 0) (ds := 0) hRm (Nat.le_of_ble_eq_true rfl) (Nat.le_of_ble_eq_true rfl) rfl rfl (Nat.le_of_ble_eq_true rfl) (Nat.le_of_ble_eq_true rfl)) (Nat.le_of_ble_eq_true rfl) ?_
  refine z_widen (k := cells + 4) (n := slots + 24) (Nat.add_le_add_left (Nat.le_of_ble_eq_true rfl) _) (Nat.add_le_add_left (Nat.le_of_ble_eq_true rfl) _) ?_
  refine z_istore X ((6, .int a) :: lv0 b ax ay qo qd i) dL_law_830 (by decide) rfl ?_
  refine z_aload_n X 3 dL_law_832 rfl rfl ?_
  refine z_aload_n X 1 dL_law_833 rfl rfl ?_
  refine z_iload X 6 dL_law_834 rfl ?_
  refine z_iconst X (1 : Int32) dL_law_836 (by decide) ?_
  refine z_iadd X dL_law_837 ?_
  refine z_sld X hX hb hbA dL_law_838 hi.2.1 ?_
  refine z_aload_n X 1 dL_law_839 rfl rfl ?_
  refine z_iload X 6 dL_law_840 rfl ?_
  refine z_iconst X (2 : Int32) dL_law_842 (by decide) ?_
  refine z_iadd X dL_law_843 ?_
  refine z_sld X hX hb hbA dL_law_844 hi.2.2.1 ?_
  refine z_aload_n X 1 dL_law_845 rfl rfl ?_
  refine z_iload X 6 dL_law_846 rfl ?_
  refine z_iconst X (3 : Int32) dL_law_848 (by decide) ?_
  refine z_iadd X dL_law_849 ?_
  refine z_sld X hX hb hbA dL_law_850 hi.2.2.2.1 ?_
  obtain ⟨wc, wc', wr, hM, q1, q2, q3⟩ := m_ring l D g ay y (xs (i + (1 : Int32)).toNatClampNeg) (xs (i + (2 : Int32)).toNatClampNeg) (xs (i + (3 : Int32)).toNatClampNeg) v2 y' hH
  have f2 := bk_Y (g := g) (ax := ax) (ad := ad) (qo := qo) (qd := qd) (x := x') (out := out') (od := od) q1 q2 q3
  refine z_wgV (rest := []) (ci := 12) (ws' := LW g ax ad ay qo qd x' out' od y') X k_X12_ring hM ql_L_X12_ring dL_law_851 f2.1 f2.2 rfl rfl LW_y0 rfl rfl (RM.fit (dc := 4) (ds := 24) hRm (Nat.le_of_ble_eq_true rfl) (Nat.le_of_ble_eq_true rfl) rfl rfl (Nat.le_of_ble_eq_true rfl) (Nat.le_of_ble_eq_true rfl)) (Nat.le_of_ble_eq_true rfl) ?_
  refine z_istore X ((7, .int v2) :: (6, .int a) :: lv0 b ax ay qo qd i) dL_law_854 (by decide) rfl ?_
  refine z_aload_n X 4 dL_law_856 rfl rfl ?_
  obtain ⟨wt, wu, hT, t1⟩ := m_thrown l D g ay y'
  have f3 := bk_Y (g := g) (ax := ax) (ad := ad) (qo := qo) (qd := qd) (x := x') (out := out') (od := od) t1 t1 rfl
  refine z_rgV (rest := []) (ci := 12) X k_X12_thrown hT ql_L_X12_thrown dL_law_857 f3.1 rfl rfl LW_y0 rfl rfl (RM.fit (dc := 4) (ds := 24) hRm (Nat.le_of_ble_eq_true rfl) (Nat.le_of_ble_eq_true rfl) rfl rfl (Nat.le_of_ble_eq_true rfl) (Nat.le_of_ble_eq_true rfl)) (Nat.le_of_ble_eq_true rfl) ?_
  refine z_iload X 1 dL_law_860 rfl ?_
  refine z_ceT X 867 dL_law_862 (by decide) ht ?_
  refine z_iload X 1 dL_law_867 rfl ?_
  have hend : Z p l e R s m args below meth c Q 9 (cells + 4) (slots + 24) (IW D A s (LW g ax ad ay qo qd x' out' od y')) 884 ((7, .int v2) :: (6, .int a) :: lv0 b ax ay qo qd i) [] := by
    refine z_goto X 2579 dL_law_884 (by decide) ?_
    refine z_sub (lv' := lv0 b ax ay qo qd i) [2, 3, 4, 5, 6, 7] rfl ?_
    exact kk x' out' od y' hR'
  by_cases ha : a = 0
  rotate_left
  · exact z_neT X 884 dL_law_869 (by decide) ha hend
  refine z_neF X 884 dL_law_869 (by decide) ha ?_
  refine z_aload_n X 5 dL_law_872 rfl rfl ?_
  refine z_iconst X (0 : Int32) dL_law_873 (by decide) ?_
  refine z_lald X IW_P dL_law_874 LW_o (oki (i := 0) (by decide)) ?_
  refine z_iload X 0 dL_law_875 rfl ?_
  refine z_i2l X dL_law_877 ?_
  refine z_lcmpE X dL_law_878 (hv ha) ?_
  exact z_eqT X 884 dL_law_879 (by decide) rfl hend
end LC0
