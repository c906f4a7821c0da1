/-! ===== the law: cases 30 to 39 ===== -/
section LC30
variable {p : Program} {l : Launch} {e : Env} {R : Room} {s : State} {m : MethodId} {args : Array Value} {below : List Frame} {meth : Method} {c : Code} {Q : State → Prop} {cells slots : Nat} {D : va_G} {g : Nat → ClassId} {A : Nat → Prop} {ak av : Nat → Nat} {aS b L : Nat} {xs : Nat → Int32} {ax ay : Nat → Nat} {ad : Nat → Nat → Nat} {qo qd : Nat} {x : XVal} {y : MVal} {out : Nat → Int64} {od : Nat → UInt64} {t : Int}
theorem k_L_run : cardS yL_run (Cond.codeWith yL_run cL_run 3 (some .int) [(0, 8, 11, 13), (0, 8, 14, 15)]) 2 := ⟨qs_L_run, qw_L_run, qn_L, by decide +kernel, by decide +kernel, by decide +kernel⟩
set_option maxHeartbeats 1000000 in
set_option maxRecDepth 100000 in
theorem lb_run (B : LB p l s m args meth c D g ak av aS A b L xs) (hRm : RM R cells slots) (hR : Rel t x y) (h0 : 0 ≤ t) (h1 : t < 800000) {i : Int32} (hi : II i L) (kk : ∀ x' out' od' y', Rel (t + 300) x' y' → Z p l e R s m args below meth c Q 9 (cells + 4) (slots + 24) (IW D A s (LW g ax ad ay qo qd x' out' od' y')) 2579 (lv0 b ax ay qo qd i) []) : Z p l e R s m args below meth c Q 9 cells slots (IW D A s (LW g ax ad ay qo qd x out od y)) 2149 (lv0 b ax ay qo qd i) [] := by
  obtain ⟨X, hE, hA, hX, hb, hbA, hfl⟩ := B
  obtain ⟨a, x', out', v2, y', hF, hH, ht, hv, hR'⟩ := fl_run hR h0 h1 out
  refine z_aload_n X 1 dL_law_2149 rfl rfl ?_
  refine z_aload_n X 3 dL_law_2150 rfl rfl ?_
  have f1 := bk_L (g := g) (ax := ax) (ad := ad) (ay := ay) (qo := qo) (qd := qd) (x := x) (x' := x') (out := out) (out' := out') (od := od) (y := y)
  refine z_mlS (rest := []) (ws' := LW g ax ad ay qo qd x' out' od y) X hE hA k_L_run (c_L_run l hfl ak av aS D g ad ax qo x out (a, x', out') hF) ql_L_L_run dL_law_2151 f1.1 f1.2 rfl rfl (RM.fit (dc := 0) (ds := 0) hRm (Nat.le_of_ble_eq_true rfl) (Nat.le_of_ble_eq_true rfl) rfl rfl (Nat.le_of_ble_eq_true rfl) (Nat.le_of_ble_eq_true rfl)) (Nat.le_of_ble_eq_true rfl) ?_
  refine z_widen (k := cells + 4) (n := slots + 24) (Nat.add_le_add_left (Nat.le_of_ble_eq_true rfl) _) (Nat.add_le_add_left (Nat.le_of_ble_eq_true rfl) _) ?_
  refine z_istore X ((6, .int a) :: lv0 b ax ay qo qd i) dL_law_2154 (by decide) rfl ?_
  refine z_aload_n X 3 dL_law_2156 rfl rfl ?_
  obtain ⟨wc, wc', wr, hM, q1, q2, q3⟩ := m_run l hfl ak av aS D g ay y v2 y' hH
  have f2 := bk_Y (g := g) (ax := ax) (ad := ad) (qo := qo) (qd := qd) (x := x') (out := out') (od := od) q1 q2 q3
  refine z_exV (rest := []) (ci := 12) (ws' := LW g ax ad ay qo qd x' out' od y') X hE hA k_X12_run hM ql_L_X12_run dL_law_2157 f2.1 f2.2 rfl rfl LW_y0 rfl rfl (RM.fit (dc := 4) (ds := 24) hRm (Nat.le_of_ble_eq_true rfl) (Nat.le_of_ble_eq_true rfl) rfl rfl (Nat.le_of_ble_eq_true rfl) (Nat.le_of_ble_eq_true rfl)) (Nat.le_of_ble_eq_true rfl) (fun _ => ?_) (fun hx => absurd rfl hx)
  refine z_istore X ((7, .int v2) :: (6, .int a) :: lv0 b ax ay qo qd i) dL_law_2160 (by decide) rfl ?_
  refine z_aload_n X 4 dL_law_2162 rfl rfl ?_
  obtain ⟨wt, wu, hT, t1⟩ := m_thrown l D g ay y'
  have f3 := bk_Y (g := g) (ax := ax) (ad := ad) (qo := qo) (qd := qd) (x := x') (out := out') (od := od) t1 t1 rfl
  refine z_rgV (rest := []) (ci := 12) X k_X12_thrown hT ql_L_X12_thrown dL_law_2163 f3.1 rfl rfl LW_y0 rfl rfl (RM.fit (dc := 4) (ds := 24) hRm (Nat.le_of_ble_eq_true rfl) (Nat.le_of_ble_eq_true rfl) rfl rfl (Nat.le_of_ble_eq_true rfl) (Nat.le_of_ble_eq_true rfl)) (Nat.le_of_ble_eq_true rfl) ?_
  refine z_iload X 1 dL_law_2166 rfl ?_
  refine z_ceT X 2173 dL_law_2168 (by decide) ht ?_
  refine z_iload X 1 dL_law_2173 rfl ?_
  have hend : Z p l e R s m args below meth c Q 9 (cells + 4) (slots + 24) (IW D A s (LW g ax ad ay qo qd x' out' od y')) 2190 ((7, .int v2) :: (6, .int a) :: lv0 b ax ay qo qd i) [] := by
    refine z_goto X 2579 dL_law_2190 (by decide) ?_
    refine z_sub (lv' := lv0 b ax ay qo qd i) [2, 3, 4, 5, 6, 7] rfl ?_
    exact kk x' out' od y' hR'
  by_cases ha : a = 0
  rotate_left
  · exact z_neT X 2190 dL_law_2175 (by decide) ha hend
  refine z_neF X 2190 dL_law_2175 (by decide) ha ?_
  refine z_aload_n X 5 dL_law_2178 rfl rfl ?_
  refine z_iconst X (0 : Int32) dL_law_2179 (by decide) ?_
  refine z_lald X IW_P dL_law_2180 LW_o (oki (i := 0) (by decide)) ?_
  refine z_iload X 0 dL_law_2181 rfl ?_
  refine z_i2l X dL_law_2183 ?_
  refine z_lcmpE X dL_law_2184 (hv ha) ?_
  exact z_eqT X 2190 dL_law_2185 (by decide) rfl hend
set_option maxHeartbeats 1000000 in
set_option maxRecDepth 100000 in
theorem lb_errorPosition (B : LB p l s m args meth c D g ak av aS A b L xs) (hRm : RM R cells slots) (hR : Rel t x y) (h0 : 0 ≤ t) (h1 : t < 800000) {i : Int32} (hi : II i L) (kk : ∀ x' out' od' y', Rel (t + 300) x' y' → Z p l e R s m args below meth c Q 9 (cells + 4) (slots + 24) (IW D A s (LW g ax ad ay qo qd x' out' od' y')) 2579 (lv0 b ax ay qo qd i) []) : Z p l e R s m args below meth c Q 9 cells slots (IW D A s (LW g ax ad ay qo qd x out od y)) 2193 (lv0 b ax ay qo qd i) [] := by
  obtain ⟨X, hE, hA, hX, hb, hbA, hfl⟩ := B
  obtain ⟨k, v, x', v2, y', t, hm, hG, hH, ht, hv, hR'⟩ := op_errorPosition hR
  simp only [List.mem_cons, Prod.mk.injEq, List.not_mem_nil, or_false] at hm
  obtain ⟨rfl, rfl⟩ := hm
  obtain rfl := hv rfl
  refine z_aload_n X 1 dL_law_2193 rfl rfl ?_
  obtain ⟨wa, wb, hN, r1, rfl⟩ := n_errorPosition l D g ad ax x v x' hG
  have f1 := bk_X (g := g) (ax := ax) (ad := ad) (ay := ay) (qo := qo) (qd := qd) (x := x') (x' := x') (out := out) (od := od) (y := y) r1 r1 rfl rfl
  refine z_rgV (rest := []) (ci := 11) X k_X11_errorPosition hN ql_L_X11_errorPosition dL_law_2194 f1.1 rfl rfl LW_x0 rfl rfl (RM.fit (dc := 0) (ds := 0) hRm (Nat.le_of_ble_eq_true rfl) (Nat.le_of_ble_eq_true rfl) rfl rfl (Nat.le_of_ble_eq_true rfl) (Nat.le_of_ble_eq_true rfl)) (Nat.le_of_ble_eq_true rfl) ?_
  refine z_aload_n X 2 dL_law_2197 rfl rfl ?_
  obtain ⟨wc, wc', wr, hM, q1, q2, q3⟩ := m_errorPosition l D g ay y v y' hH
  have f2 := bk_Y (g := g) (ax := ax) (ad := ad) (qo := qo) (qd := qd) (x := x') (out := out) (od := od) q1 q2 q3
  refine z_wgV (rest := [.int v]) (ci := 12) (ws' := LW g ax ad ay qo qd x' out od y') X k_X12_errorPosition hM ql_L_X12_errorPosition dL_law_2198 f2.1 f2.2 rfl rfl LW_y0 rfl rfl (RM.fit (dc := 0) (ds := 0) hRm (Nat.le_of_ble_eq_true rfl) (Nat.le_of_ble_eq_true rfl) rfl rfl (Nat.le_of_ble_eq_true rfl) (Nat.le_of_ble_eq_true rfl)) (Nat.le_of_ble_eq_true rfl) ?_
  refine z_widen (k := cells + 4) (n := slots + 24) (Nat.le_add_right _ _) (Nat.le_add_right _ _) ?_
  refine z_ceT X 2579 dL_law_2201 (by decide) rfl ?_
  exact kk x' out od y' hR'
theorem k_L_refusal : cardS yL_refusal (Cond.codeWith yL_refusal cL_refusal 4 (some .int) [(0, 9, 12, 48)]) 3 := ⟨qs_L_refusal, qw_L_refusal, qn_L, by decide +kernel, by decide +kernel, by decide +kernel⟩
set_option maxHeartbeats 1000000 in
set_option maxRecDepth 100000 in
theorem lb_refusal (B : LB p l s m args meth c D g ak av aS A b L xs) (hRm : RM R cells slots) (hR : Rel t x y) (h0 : 0 ≤ t) (h1 : t < 800000) {i : Int32} (hi : II i L) (kk : ∀ x' out' od' y', Rel (t + 300) x' y' → Z p l e R s m args below meth c Q 9 (cells + 4) (slots + 24) (IW D A s (LW g ax ad ay qo qd x' out' od' y')) 2579 (lv0 b ax ay qo qd i) []) : Z p l e R s m args below meth c Q 9 cells slots (IW D A s (LW g ax ad ay qo qd x out od y)) 2206 (lv0 b ax ay qo qd i) [] := by
  obtain ⟨X, hE, hA, hX, hb, hbA, hfl⟩ := B
  by_cases hz : (xs (i + (1 : Int32)).toNatClampNeg) = 0
  · obtain ⟨a, x', out', v2, y', hF, hH, ht, hv, hR'⟩ := fl_refusal hR h0 h1 (0 : Int32) out
    refine z_aload_n X 1 dL_law_2206 rfl rfl ?_
    refine z_aload_n X 0 dL_law_2207 rfl rfl ?_
    refine z_iload X 5 dL_law_2208 rfl ?_
    refine z_iconst X (1 : Int32) dL_law_2210 (by decide) ?_
    refine z_iadd X dL_law_2211 ?_
    refine z_sld X hX hb hbA dL_law_2212 hi.2.1 ?_
    refine z_eqT X 2220 dL_law_2213 (by decide) hz ?_
    refine z_iconst X (0 : Int32) dL_law_2220 (by decide) ?_
    refine z_aload_n X 3 dL_law_2221 rfl rfl ?_
    have f1 := bk_L (g := g) (ax := ax) (ad := ad) (ay := ay) (qo := qo) (qd := qd) (x := x) (x' := x') (out := out) (out' := out') (od := od) (y := y)
    refine z_mlS (rest := []) (ws' := LW g ax ad ay qo qd x' out' od y) X hE hA k_L_refusal (c_L_refusal l hfl ak av aS D g ad ax qo (0 : Int32) x out (a, x', out') hF) ql_L_L_refusal dL_law_2222 f1.1 f1.2 rfl rfl (RM.fit (dc := 0) (ds := 0) hRm (Nat.le_of_ble_eq_true rfl) (Nat.le_of_ble_eq_true rfl) rfl rfl (Nat.le_of_ble_eq_true rfl) (Nat.le_of_ble_eq_true rfl)) (Nat.le_of_ble_eq_true rfl) ?_
    refine z_widen (k := cells + 4) (n := slots + 24) (Nat.add_le_add_left (Nat.le_of_ble_eq_true rfl) _) (Nat.add_le_add_left (Nat.le_of_ble_eq_true rfl) _) ?_
    refine z_istore X ((6, .int a) :: lv0 b ax ay qo qd i) dL_law_2225 (by decide) rfl ?_
    refine z_aload_n X 3 dL_law_2227 rfl rfl ?_
    refine z_aload_n X 1 dL_law_2228 rfl rfl ?_
    refine z_iload X 6 dL_law_2229 rfl ?_
    refine z_iconst X (1 : Int32) dL_law_2231 (by decide) ?_
    refine z_iadd X dL_law_2232 ?_
    refine z_sld X hX hb hbA dL_law_2233 hi.2.1 ?_
    refine z_eqT X 2241 dL_law_2234 (by decide) hz ?_
    refine z_iconst X (0 : Int32) dL_law_2241 (by decide) ?_
    obtain ⟨wc, wc', wr, hM, q1, q2, q3⟩ := m_refusal l D g ay y (0 : Int32) v2 y' hH
    have f2 := bk_Y (g := g) (ax := ax) (ad := ad) (qo := qo) (qd := qd) (x := x') (out := out') (od := od) q1 q2 q3
    refine z_wgV (rest := []) (ci := 12) (ws' := LW g ax ad ay qo qd x' out' od y') X k_X12_refusal hM ql_L_X12_refusal dL_law_2242 f2.1 f2.2 rfl rfl LW_y0 rfl rfl (RM.fit (dc := 4) (ds := 24) hRm (Nat.le_of_ble_eq_true rfl) (Nat.le_of_ble_eq_true rfl) rfl rfl (Nat.le_of_ble_eq_true rfl) (Nat.le_of_ble_eq_true rfl)) (Nat.le_of_ble_eq_true rfl) ?_
    refine z_istore X ((7, .int v2) :: (6, .int a) :: lv0 b ax ay qo qd i) dL_law_2245 (by decide) rfl ?_
    refine z_aload_n X 4 dL_law_2247 rfl rfl ?_
    obtain ⟨wt, wu, hT, t1⟩ := m_thrown l D g ay y'
    have f3 := bk_Y (g := g) (ax := ax) (ad := ad) (qo := qo) (qd := qd) (x := x') (out := out') (od := od) t1 t1 rfl
    refine z_rgV (rest := []) (ci := 12) X k_X12_thrown hT ql_L_X12_thrown dL_law_2248 f3.1 rfl rfl LW_y0 rfl rfl (RM.fit (dc := 4) (ds := 24) hRm (Nat.le_of_ble_eq_true rfl) (Nat.le_of_ble_eq_true rfl) rfl rfl (Nat.le_of_ble_eq_true rfl) (Nat.le_of_ble_eq_true rfl)) (Nat.le_of_ble_eq_true rfl) ?_
    refine z_iload X 1 dL_law_2251 rfl ?_
    refine z_ceT X 2258 dL_law_2253 (by decide) ht ?_
    refine z_iload X 1 dL_law_2258 rfl ?_
    have hend : Z p l e R s m args below meth c Q 9 (cells + 4) (slots + 24) (IW D A s (LW g ax ad ay qo qd x' out' od y')) 2275 ((7, .int v2) :: (6, .int a) :: lv0 b ax ay qo qd i) [] := by
      refine z_goto X 2579 dL_law_2275 (by decide) ?_
      refine z_sub (lv' := lv0 b ax ay qo qd i) [2, 3, 4, 5, 6, 7] rfl ?_
      exact kk x' out' od y' hR'
    by_cases ha : a = 0
    rotate_left
    · exact z_neT X 2275 dL_law_2260 (by decide) ha hend
    refine z_neF X 2275 dL_law_2260 (by decide) ha ?_
    refine z_aload_n X 5 dL_law_2263 rfl rfl ?_
    refine z_iconst X (0 : Int32) dL_law_2264 (by decide) ?_
    refine z_lald X IW_P dL_law_2265 LW_o (oki (i := 0) (by decide)) ?_
    refine z_iload X 0 dL_law_2266 rfl ?_
    refine z_i2l X dL_law_2268 ?_
    refine z_lcmpE X dL_law_2269 (hv ha) ?_
    exact z_eqT X 2275 dL_law_2270 (by decide) rfl hend
  · obtain ⟨a, x', out', v2, y', hF, hH, ht, hv, hR'⟩ := fl_refusal hR h0 h1 (1 : Int32) out
    refine z_aload_n X 1 dL_law_2206 rfl rfl ?_
    refine z_aload_n X 0 dL_law_2207 rfl rfl ?_
    refine z_iload X 5 dL_law_2208 rfl ?_
    refine z_iconst X (1 : Int32) dL_law_2210 (by decide) ?_
    refine z_iadd X dL_law_2211 ?_
    refine z_sld X hX hb hbA dL_law_2212 hi.2.1 ?_
    refine z_eqF X 2220 dL_law_2213 (by decide) hz ?_
    refine z_iconst X (1 : Int32) dL_law_2216 (by decide) ?_
    refine z_goto X 2221 dL_law_2217 (by decide) ?_
    refine z_aload_n X 3 dL_law_2221 rfl rfl ?_
    have f1 := bk_L (g := g) (ax := ax) (ad := ad) (ay := ay) (qo := qo) (qd := qd) (x := x) (x' := x') (out := out) (out' := out') (od := od) (y := y)
    refine z_mlS (rest := []) (ws' := LW g ax ad ay qo qd x' out' od y) X hE hA k_L_refusal (c_L_refusal l hfl ak av aS D g ad ax qo (1 : Int32) x out (a, x', out') hF) ql_L_L_refusal dL_law_2222 f1.1 f1.2 rfl rfl (RM.fit (dc := 0) (ds := 0) hRm (Nat.le_of_ble_eq_true rfl) (Nat.le_of_ble_eq_true rfl) rfl rfl (Nat.le_of_ble_eq_true rfl) (Nat.le_of_ble_eq_true rfl)) (Nat.le_of_ble_eq_true rfl) ?_
    refine z_widen (k := cells + 4) (n := slots + 24) (Nat.add_le_add_left (Nat.le_of_ble_eq_true rfl) _) (Nat.add_le_add_left (Nat.le_of_ble_eq_true rfl) _) ?_
    refine z_istore X ((6, .int a) :: lv0 b ax ay qo qd i) dL_law_2225 (by decide) rfl ?_
    refine z_aload_n X 3 dL_law_2227 rfl rfl ?_
    refine z_aload_n X 1 dL_law_2228 rfl rfl ?_
    refine z_iload X 6 dL_law_2229 rfl ?_
    refine z_iconst X (1 : Int32) dL_law_2231 (by decide) ?_
    refine z_iadd X dL_law_2232 ?_
    refine z_sld X hX hb hbA dL_law_2233 hi.2.1 ?_
    refine z_eqF X 2241 dL_law_2234 (by decide) hz ?_
    refine z_iconst X (1 : Int32) dL_law_2237 (by decide) ?_
    refine z_goto X 2242 dL_law_2238 (by decide) ?_
    obtain ⟨wc, wc', wr, hM, q1, q2, q3⟩ := m_refusal l D g ay y (1 : Int32) v2 y' hH
    have f2 := bk_Y (g := g) (ax := ax) (ad := ad) (qo := qo) (qd := qd) (x := x') (out := out') (od := od) q1 q2 q3
    refine z_wgV (rest := []) (ci := 12) (ws' := LW g ax ad ay qo qd x' out' od y') X k_X12_refusal hM ql_L_X12_refusal dL_law_2242 f2.1 f2.2 rfl rfl LW_y0 rfl rfl (RM.fit (dc := 4) (ds := 24) hRm (Nat.le_of_ble_eq_true rfl) (Nat.le_of_ble_eq_true rfl) rfl rfl (Nat.le_of_ble_eq_true rfl) (Nat.le_of_ble_eq_true rfl)) (Nat.le_of_ble_eq_true rfl) ?_
    refine z_istore X ((7, .int v2) :: (6, .int a) :: lv0 b ax ay qo qd i) dL_law_2245 (by decide) rfl ?_
    refine z_aload_n X 4 dL_law_2247 rfl rfl ?_
    obtain ⟨wt, wu, hT, t1⟩ := m_thrown l D g ay y'
    have f3 := bk_Y (g := g) (ax := ax) (ad := ad) (qo := qo) (qd := qd) (x := x') (out := out') (od := od) t1 t1 rfl
    refine z_rgV (rest := []) (ci := 12) X k_X12_thrown hT ql_L_X12_thrown dL_law_2248 f3.1 rfl rfl LW_y0 rfl rfl (RM.fit (dc := 4) (ds := 24) hRm (Nat.le_of_ble_eq_true rfl) (Nat.le_of_ble_eq_true rfl) rfl rfl (Nat.le_of_ble_eq_true rfl) (Nat.le_of_ble_eq_true rfl)) (Nat.le_of_ble_eq_true rfl) ?_
    refine z_iload X 1 dL_law_2251 rfl ?_
    refine z_ceT X 2258 dL_law_2253 (by decide) ht ?_
    refine z_iload X 1 dL_law_2258 rfl ?_
    have hend : Z p l e R s m args below meth c Q 9 (cells + 4) (slots + 24) (IW D A s (LW g ax ad ay qo qd x' out' od y')) 2275 ((7, .int v2) :: (6, .int a) :: lv0 b ax ay qo qd i) [] := by
      refine z_goto X 2579 dL_law_2275 (by decide) ?_
      refine z_sub (lv' := lv0 b ax ay qo qd i) [2, 3, 4, 5, 6, 7] rfl ?_
      exact kk x' out' od y' hR'
    by_cases ha : a = 0
    rotate_left
    · exact z_neT X 2275 dL_law_2260 (by decide) ha hend
    refine z_neF X 2275 dL_law_2260 (by decide) ha ?_
    refine z_aload_n X 5 dL_law_2263 rfl rfl ?_
    refine z_iconst X (0 : Int32) dL_law_2264 (by decide) ?_
    refine z_lald X IW_P dL_law_2265 LW_o (oki (i := 0) (by decide)) ?_
    refine z_iload X 0 dL_law_2266 rfl ?_
    refine z_i2l X dL_law_2268 ?_
    refine z_lcmpE X dL_law_2269 (hv ha) ?_
    exact z_eqT X 2275 dL_law_2270 (by decide) rfl hend
theorem k_L_account : cardS yL_account (Cond.codeWith yL_account cL_account 4 (some .int) [(0, 9, 12, 13)]) 3 := ⟨qs_L_account, qw_L_account, qn_L, by decide +kernel, by decide +kernel, by decide +kernel⟩
set_option maxHeartbeats 1000000 in
set_option maxRecDepth 100000 in
theorem lb_account (B : LB p l s m args meth c D g ak av aS A b L xs) (hRm : RM R cells slots) (hR : Rel t x y) (h0 : 0 ≤ t) (h1 : t < 800000) {i : Int32} (hi : II i L) (kk : ∀ x' out' od' y', Rel (t + 300) x' y' → Z p l e R s m args below meth c Q 9 (cells + 4) (slots + 24) (IW D A s (LW g ax ad ay qo qd x' out' od' y')) 2579 (lv0 b ax ay qo qd i) []) : Z p l e R s m args below meth c Q 9 cells slots (IW D A s (LW g ax ad ay qo qd x out od y)) 2278 (lv0 b ax ay qo qd i) [] := by
  obtain ⟨X, hE, hA, hX, hb, hbA, hfl⟩ := B
  obtain ⟨a, x', out', v2, y', hF, hH, ht, hv, hR'⟩ := fl_account hR h0 h1 (xs (i + (1 : Int32)).toNatClampNeg) out
  refine z_aload_n X 1 dL_law_2278 rfl rfl ?_
  refine z_aload_n X 0 dL_law_2279 rfl rfl ?_
  refine z_iload X 5 dL_law_2280 rfl ?_
  refine z_iconst X (1 : Int32) dL_law_2282 (by decide) ?_
  refine z_iadd X dL_law_2283 ?_
  refine z_sld X hX hb hbA dL_law_2284 hi.2.1 ?_
  refine z_aload_n X 3 dL_law_2285 rfl rfl ?_
  have f1 := bk_L (g := g) (ax := ax) (ad := ad) (ay := ay) (qo := qo) (qd := qd) (x := x) (x' := x') (out := out) (out' := out') (od := od) (y := y)
  refine z_mlS (rest := []) (ws' := LW g ax ad ay qo qd x' out' od y) X hE hA k_L_account (c_L_account l hfl ak av aS D g ad ax qo (xs (i + (1 : Int32)).toNatClampNeg) x out (a, x', out') hF) ql_L_L_account dL_law_2286 f1.1 f1.2 rfl rfl (RM.fit (dc := 0) (ds := 0) hRm (Nat.le_of_ble_eq_true rfl) (Nat.le_of_ble_eq_true rfl) rfl rfl (Nat.le_of_ble_eq_true rfl) (Nat.le_of_ble_eq_true rfl)) (Nat.le_of_ble_eq_true rfl) ?_
  refine z_widen (k := cells + 4) (n := slots + 24) (Nat.add_le_add_left (Nat.le_of_ble_eq_true rfl) _) (Nat.add_le_add_left (Nat.le_of_ble_eq_true rfl) _) ?_
  refine z_istore X ((6, .int a) :: lv0 b ax ay qo qd i) dL_law_2289 (by decide) rfl ?_
  refine z_aload_n X 3 dL_law_2291 rfl rfl ?_
  refine z_aload_n X 1 dL_law_2292 rfl rfl ?_
  refine z_iload X 6 dL_law_2293 rfl ?_
  refine z_iconst X (1 : Int32) dL_law_2295 (by decide) ?_
  refine z_iadd X dL_law_2296 ?_
  refine z_sld X hX hb hbA dL_law_2297 hi.2.1 ?_
  obtain ⟨wc, wc', wr, hM, q1, q2, q3⟩ := m_account l D g ay y (xs (i + (1 : Int32)).toNatClampNeg) v2 y' hH
  have f2 := bk_Y (g := g) (ax := ax) (ad := ad) (qo := qo) (qd := qd) (x := x') (out := out') (od := od) q1 q2 q3
  refine z_wgV (rest := []) (ci := 12) (ws' := LW g ax ad ay qo qd x' out' od y') X k_X12_account hM ql_L_X12_account dL_law_2298 f2.1 f2.2 rfl rfl LW_y0 rfl rfl (RM.fit (dc := 4) (ds := 24) hRm (Nat.le_of_ble_eq_true rfl) (Nat.le_of_ble_eq_true rfl) rfl rfl (Nat.le_of_ble_eq_true rfl) (Nat.le_of_ble_eq_true rfl)) (Nat.le_of_ble_eq_true rfl) ?_
  refine z_istore X ((7, .int v2) :: (6, .int a) :: lv0 b ax ay qo qd i) dL_law_2301 (by decide) rfl ?_
  refine z_aload_n X 4 dL_law_2303 rfl rfl ?_
  obtain ⟨wt, wu, hT, t1⟩ := m_thrown l D g ay y'
  have f3 := bk_Y (g := g) (ax := ax) (ad := ad) (qo := qo) (qd := qd) (x := x') (out := out') (od := od) t1 t1 rfl
  refine z_rgV (rest := []) (ci := 12) X k_X12_thrown hT ql_L_X12_thrown dL_law_2304 f3.1 rfl rfl LW_y0 rfl rfl (RM.fit (dc := 4) (ds := 24) hRm (Nat.le_of_ble_eq_true rfl) (Nat.le_of_ble_eq_true rfl) rfl rfl (Nat.le_of_ble_eq_true rfl) (Nat.le_of_ble_eq_true rfl)) (Nat.le_of_ble_eq_true rfl) ?_
  refine z_iload X 1 dL_law_2307 rfl ?_
  refine z_ceT X 2314 dL_law_2309 (by decide) ht ?_
  refine z_iload X 1 dL_law_2314 rfl ?_
  have hend : Z p l e R s m args below meth c Q 9 (cells + 4) (slots + 24) (IW D A s (LW g ax ad ay qo qd x' out' od y')) 2331 ((7, .int v2) :: (6, .int a) :: lv0 b ax ay qo qd i) [] := by
    refine z_goto X 2579 dL_law_2331 (by decide) ?_
    refine z_sub (lv' := lv0 b ax ay qo qd i) [2, 3, 4, 5, 6, 7] rfl ?_
    exact kk x' out' od y' hR'
  by_cases ha : a = 0
  rotate_left
  · exact z_neT X 2331 dL_law_2316 (by decide) ha hend
  refine z_neF X 2331 dL_law_2316 (by decide) ha ?_
  refine z_aload_n X 5 dL_law_2319 rfl rfl ?_
  refine z_iconst X (0 : Int32) dL_law_2320 (by decide) ?_
  refine z_lald X IW_P dL_law_2321 LW_o (oki (i := 0) (by decide)) ?_
  refine z_iload X 0 dL_law_2322 rfl ?_
  refine z_i2l X dL_law_2324 ?_
  refine z_lcmpE X dL_law_2325 (hv ha) ?_
  exact z_eqT X 2331 dL_law_2326 (by decide) rfl hend
set_option maxHeartbeats 1000000 in
set_option maxRecDepth 100000 in
theorem lb_isWell (B : LB p l s m args meth c D g ak av aS A b L xs) (hRm : RM R cells slots) (hR : Rel t x y) (h0 : 0 ≤ t) (h1 : t < 800000) {i : Int32} (hi : II i L) (kk : ∀ x' out' od' y', Rel (t + 300) x' y' → Z p l e R s m args below meth c Q 9 (cells + 4) (slots + 24) (IW D A s (LW g ax ad ay qo qd x' out' od' y')) 2579 (lv0 b ax ay qo qd i) []) : Z p l e R s m args below meth c Q 9 cells slots (IW D A s (LW g ax ad ay qo qd x out od y)) 2334 (lv0 b ax ay qo qd i) [] := by
  obtain ⟨X, hE, hA, hX, hb, hbA, hfl⟩ := B
  obtain ⟨k, v, x', v2, y', t, hm, hG, hH, ht, hv, hR'⟩ := op_isWell hR
  simp only [List.mem_cons, Prod.mk.injEq, List.not_mem_nil, or_false] at hm
  obtain ⟨rfl, rfl⟩ := hm
  obtain rfl := hv rfl
  refine z_aload_n X 1 dL_law_2334 rfl rfl ?_
  obtain ⟨wa, wa', wb, hN, r1, r2, r3, r4⟩ := n_isWell l D g ad ax x v x' hG
  have f1 := bk_X (g := g) (ax := ax) (ad := ad) (ay := ay) (qo := qo) (qd := qd) (x := x) (x' := x') (out := out) (od := od) (y := y) r1 r2 r3 r4
  refine z_wgV (rest := []) (ci := 11) (ws' := LW g ax ad ay qo qd x' out od y) X k_X11_isWell hN ql_L_X11_isWell dL_law_2335 f1.1 f1.2 rfl rfl LW_x0 rfl rfl (RM.fit (dc := 0) (ds := 0) hRm (Nat.le_of_ble_eq_true rfl) (Nat.le_of_ble_eq_true rfl) rfl rfl (Nat.le_of_ble_eq_true rfl) (Nat.le_of_ble_eq_true rfl)) (Nat.le_of_ble_eq_true rfl) ?_
  refine z_aload_n X 2 dL_law_2338 rfl rfl ?_
  obtain ⟨wc, wc', wr, hM, q1, q2, q3⟩ := m_isWell l D g ay y v y' hH
  have f2 := bk_Y (g := g) (ax := ax) (ad := ad) (qo := qo) (qd := qd) (x := x') (out := out) (od := od) q1 q2 q3
  refine z_wgV (rest := [.int v]) (ci := 12) (ws' := LW g ax ad ay qo qd x' out od y') X k_X12_isWell hM ql_L_X12_isWell dL_law_2339 f2.1 f2.2 rfl rfl LW_y0 rfl rfl (RM.fit (dc := 0) (ds := 0) hRm (Nat.le_of_ble_eq_true rfl) (Nat.le_of_ble_eq_true rfl) rfl rfl (Nat.le_of_ble_eq_true rfl) (Nat.le_of_ble_eq_true rfl)) (Nat.le_of_ble_eq_true rfl) ?_
  refine z_widen (k := cells + 4) (n := slots + 24) (Nat.le_add_right _ _) (Nat.le_add_right _ _) ?_
  refine z_ceT X 2579 dL_law_2342 (by decide) rfl ?_
  exact kk x' out od y' hR'
theorem k_L_meanSleep : cardS yL_meanSleep (Cond.codeWith yL_meanSleep cL_meanSleep 3 (some .int) [(0, 7, 10, 130)]) 2 := ⟨qs_L_meanSleep, qw_L_meanSleep, qn_L, by decide +kernel, by decide +kernel, by decide +kernel⟩
set_option maxHeartbeats 1000000 in
set_option maxRecDepth 100000 in
theorem lb_meanSleep (B : LB p l s m args meth c D g ak av aS A b L xs) (hRm : RM R cells slots) (hR : Rel t x y) (h0 : 0 ≤ t) (h1 : t < 800000) {i : Int32} (hi : II i L) (kk : ∀ x' out' od' y', Rel (t + 300) x' y' → Z p l e R s m args below meth c Q 9 (cells + 4) (slots + 24) (IW D A s (LW g ax ad ay qo qd x' out' od' y')) 2579 (lv0 b ax ay qo qd i) []) : Z p l e R s m args below meth c Q 9 cells slots (IW D A s (LW g ax ad ay qo qd x out od y)) 2347 (lv0 b ax ay qo qd i) [] := by
  obtain ⟨X, hE, hA, hX, hb, hbA, hfl⟩ := B
  obtain ⟨a, x', out', v2, y', hF, hH, ht, hv, hR'⟩ := fl_meanSleep hR h0 h1 od
  refine z_aload_n X 1 dL_law_2347 rfl rfl ?_
  refine z_aload X 4 dL_law_2348 rfl ?_
  have f1 := bk_D (g := g) (ax := ax) (ad := ad) (ay := ay) (qo := qo) (qd := qd) (x := x) (x' := x') (out := out) (od := od) (od' := out') (y := y)
  refine z_mlS (rest := []) (ws' := LW g ax ad ay qo qd x' out out' y) X hE hA k_L_meanSleep (c_L_meanSleep l hfl ak av aS D g ad ax qd x od (a, x', out') hF) ql_L_L_meanSleep dL_law_2350 f1.1 f1.2 rfl rfl (RM.fit (dc := 0) (ds := 0) hRm (Nat.le_of_ble_eq_true rfl) (Nat.le_of_ble_eq_true rfl) rfl rfl (Nat.le_of_ble_eq_true rfl) (Nat.le_of_ble_eq_true rfl)) (Nat.le_of_ble_eq_true rfl) ?_
  refine z_widen (k := cells + 4) (n := slots + 24) (Nat.add_le_add_left (Nat.le_of_ble_eq_true rfl) _) (Nat.add_le_add_left (Nat.le_of_ble_eq_true rfl) _) ?_
  refine z_istore X ((6, .int a) :: lv0 b ax ay qo qd i) dL_law_2353 (by decide) rfl ?_
  refine z_aload_n X 3 dL_law_2355 rfl rfl ?_
  obtain ⟨wc, wc', wr, hM, q1, q2, q3⟩ := m_meanSleep l D g ay y v2 y' hH
  have f2 := bk_Y (g := g) (ax := ax) (ad := ad) (qo := qo) (qd := qd) (x := x') (out := out) (od := out') q1 q2 q3
  refine z_wgV (rest := []) (ci := 12) (ws' := LW g ax ad ay qo qd x' out out' y') X k_X12_meanSleep hM ql_L_X12_meanSleep dL_law_2356 f2.1 f2.2 rfl rfl LW_y0 rfl rfl (RM.fit (dc := 4) (ds := 24) hRm (Nat.le_of_ble_eq_true rfl) (Nat.le_of_ble_eq_true rfl) rfl rfl (Nat.le_of_ble_eq_true rfl) (Nat.le_of_ble_eq_true rfl)) (Nat.le_of_ble_eq_true rfl) ?_
  refine z_dstore ((7, .double v2) :: (6, .int a) :: lv0 b ax ay qo qd i) X dL_law_2359 (by decide) rfl ?_
  refine z_aload_n X 4 dL_law_2361 rfl rfl ?_
  obtain ⟨wt, wu, hT, t1⟩ := m_thrown l D g ay y'
  have f3 := bk_Y (g := g) (ax := ax) (ad := ad) (qo := qo) (qd := qd) (x := x') (out := out) (od := out') t1 t1 rfl
  refine z_rgV (rest := []) (ci := 12) X k_X12_thrown hT ql_L_X12_thrown dL_law_2362 f3.1 rfl rfl LW_y0 rfl rfl (RM.fit (dc := 4) (ds := 24) hRm (Nat.le_of_ble_eq_true rfl) (Nat.le_of_ble_eq_true rfl) rfl rfl (Nat.le_of_ble_eq_true rfl) (Nat.le_of_ble_eq_true rfl)) (Nat.le_of_ble_eq_true rfl) ?_
  refine z_iload X 1 dL_law_2365 rfl ?_
  refine z_ceT X 2372 dL_law_2367 (by decide) ht ?_
  refine z_iload X 1 dL_law_2372 rfl ?_
  have hend : Z p l e R s m args below meth c Q 9 (cells + 4) (slots + 24) (IW D A s (LW g ax ad ay qo qd x' out out' y')) 2409 ((7, .double v2) :: (6, .int a) :: lv0 b ax ay qo qd i) [] := by
    refine z_goto X 2579 dL_law_2409 (by decide) ?_
    refine z_sub (lv' := lv0 b ax ay qo qd i) [2, 3, 4, 5, 6, 7] rfl ?_
    exact kk x' out out' y' hR'
  by_cases ha : a = 0
  rotate_left
  · exact z_neT X 2409 dL_law_2374 (by decide) ha hend
  refine z_neF X 2409 dL_law_2374 (by decide) ha ?_
  obtain ⟨hd, hn⟩ := hv ha
  refine z_aload X 6 dL_law_2377 rfl ?_
  refine z_iconst X (0 : Int32) dL_law_2379 (by decide) ?_
  refine z_dald X IW_P dL_law_2380 LW_d (oki (i := 0) (by decide)) ?_
  refine z_dload X 0 dL_law_2381 rfl ?_
  refine z_dcmpE X dL_law_2383 (by rw [show out' (0 : Int32).toNatClampNeg = v2 from hd]; exact dc_self hn) ?_
  exact z_eqT X 2409 dL_law_2384 (by decide) rfl hend
theorem k_L_prankShare : cardS yL_prankShare (Cond.codeWith yL_prankShare cL_prankShare 3 (some .int) [(0, 8, 11, 130)]) 2 := ⟨qs_L_prankShare, qw_L_prankShare, qn_L, by decide +kernel, by decide +kernel, by decide +kernel⟩
set_option maxHeartbeats 1000000 in
set_option maxRecDepth 100000 in
theorem lb_prankShare (B : LB p l s m args meth c D g ak av aS A b L xs) (hRm : RM R cells slots) (hR : Rel t x y) (h0 : 0 ≤ t) (h1 : t < 800000) {i : Int32} (hi : II i L) (kk : ∀ x' out' od' y', Rel (t + 300) x' y' → Z p l e R s m args below meth c Q 9 (cells + 4) (slots + 24) (IW D A s (LW g ax ad ay qo qd x' out' od' y')) 2579 (lv0 b ax ay qo qd i) []) : Z p l e R s m args below meth c Q 9 cells slots (IW D A s (LW g ax ad ay qo qd x out od y)) 2412 (lv0 b ax ay qo qd i) [] := by
  obtain ⟨X, hE, hA, hX, hb, hbA, hfl⟩ := B
  obtain ⟨a, x', out', v2, y', hF, hH, ht, hv, hR'⟩ := fl_prankShare hR h0 h1 od
  refine z_aload_n X 1 dL_law_2412 rfl rfl ?_
  refine z_aload X 4 dL_law_2413 rfl ?_
  have f1 := bk_D (g := g) (ax := ax) (ad := ad) (ay := ay) (qo := qo) (qd := qd) (x := x) (x' := x') (out := out) (od := od) (od' := out') (y := y)
  refine z_mlS (rest := []) (ws' := LW g ax ad ay qo qd x' out out' y) X hE hA k_L_prankShare (c_L_prankShare l hfl ak av aS D g ad ax qd x od (a, x', out') hF) ql_L_L_prankShare dL_law_2415 f1.1 f1.2 rfl rfl (RM.fit (dc := 0) (ds := 0) hRm (Nat.le_of_ble_eq_true rfl) (Nat.le_of_ble_eq_true rfl) rfl rfl (Nat.le_of_ble_eq_true rfl) (Nat.le_of_ble_eq_true rfl)) (Nat.le_of_ble_eq_true rfl) ?_
  refine z_widen (k := cells + 4) (n := slots + 24) (Nat.add_le_add_left (Nat.le_of_ble_eq_true rfl) _) (Nat.add_le_add_left (Nat.le_of_ble_eq_true rfl) _) ?_
  refine z_istore X ((6, .int a) :: lv0 b ax ay qo qd i) dL_law_2418 (by decide) rfl ?_
  refine z_aload_n X 3 dL_law_2420 rfl rfl ?_
  obtain ⟨wc, wc', wr, hM, q1, q2, q3⟩ := m_prankShare l D g ay y v2 y' hH
  have f2 := bk_Y (g := g) (ax := ax) (ad := ad) (qo := qo) (qd := qd) (x := x') (out := out) (od := out') q1 q2 q3
  refine z_wgV (rest := []) (ci := 12) (ws' := LW g ax ad ay qo qd x' out out' y') X k_X12_prankShare hM ql_L_X12_prankShare dL_law_2421 f2.1 f2.2 rfl rfl LW_y0 rfl rfl (RM.fit (dc := 4) (ds := 24) hRm (Nat.le_of_ble_eq_true rfl) (Nat.le_of_ble_eq_true rfl) rfl rfl (Nat.le_of_ble_eq_true rfl) (Nat.le_of_ble_eq_true rfl)) (Nat.le_of_ble_eq_true rfl) ?_
  refine z_fstore ((7, .float v2) :: (6, .int a) :: lv0 b ax ay qo qd i) X dL_law_2424 (by decide) rfl ?_
  refine z_aload_n X 4 dL_law_2426 rfl rfl ?_
  obtain ⟨wt, wu, hT, t1⟩ := m_thrown l D g ay y'
  have f3 := bk_Y (g := g) (ax := ax) (ad := ad) (qo := qo) (qd := qd) (x := x') (out := out) (od := out') t1 t1 rfl
  refine z_rgV (rest := []) (ci := 12) X k_X12_thrown hT ql_L_X12_thrown dL_law_2427 f3.1 rfl rfl LW_y0 rfl rfl (RM.fit (dc := 4) (ds := 24) hRm (Nat.le_of_ble_eq_true rfl) (Nat.le_of_ble_eq_true rfl) rfl rfl (Nat.le_of_ble_eq_true rfl) (Nat.le_of_ble_eq_true rfl)) (Nat.le_of_ble_eq_true rfl) ?_
  refine z_iload X 1 dL_law_2430 rfl ?_
  refine z_ceT X 2437 dL_law_2432 (by decide) ht ?_
  refine z_iload X 1 dL_law_2437 rfl ?_
  have hend : Z p l e R s m args below meth c Q 9 (cells + 4) (slots + 24) (IW D A s (LW g ax ad ay qo qd x' out out' y')) 2475 ((7, .float v2) :: (6, .int a) :: lv0 b ax ay qo qd i) [] := by
    refine z_goto X 2579 dL_law_2475 (by decide) ?_
    refine z_sub (lv' := lv0 b ax ay qo qd i) [2, 3, 4, 5, 6, 7] rfl ?_
    exact kk x' out out' y' hR'
  by_cases ha : a = 0
  rotate_left
  · exact z_neT X 2475 dL_law_2439 (by decide) ha hend
  refine z_neF X 2475 dL_law_2439 (by decide) ha ?_
  obtain ⟨hd, hn⟩ := hv ha
  refine z_aload X 6 dL_law_2442 rfl ?_
  refine z_iconst X (0 : Int32) dL_law_2444 (by decide) ?_
  refine z_dald X IW_P dL_law_2445 LW_d (oki (i := 0) (by decide)) ?_
  refine z_fload X 0 dL_law_2446 rfl ?_
  refine z_f2d X (f2d_ok hn) dL_law_2448 ?_
  refine z_dcmpE X dL_law_2449 (by rw [show out' (0 : Int32).toNatClampNeg = FP.f2d v2 from hd]; exact dc_self (f2d_ok hn)) ?_
  exact z_eqT X 2475 dL_law_2450 (by decide) rfl hend
theorem k_L_undo : cardS yL_undo (Cond.codeWith yL_undo cL_undo 3 (some .int) [(0, 8, 11, 115)]) 2 := ⟨qs_L_undo, qw_L_undo, qn_L, by decide +kernel, by decide +kernel, by decide +kernel⟩
set_option maxHeartbeats 1000000 in
set_option maxRecDepth 100000 in
theorem lb_undo (B : LB p l s m args meth c D g ak av aS A b L xs) (hRm : RM R cells slots) (hR : Rel t x y) (h0 : 0 ≤ t) (h1 : t < 800000) {i : Int32} (hi : II i L) (kk : ∀ x' out' od' y', Rel (t + 300) x' y' → Z p l e R s m args below meth c Q 9 (cells + 4) (slots + 24) (IW D A s (LW g ax ad ay qo qd x' out' od' y')) 2579 (lv0 b ax ay qo qd i) []) : Z p l e R s m args below meth c Q 9 cells slots (IW D A s (LW g ax ad ay qo qd x out od y)) 2478 (lv0 b ax ay qo qd i) [] := by
  obtain ⟨X, hE, hA, hX, hb, hbA, hfl⟩ := B
  obtain ⟨a, x', out', v2, y', hF, hH, ht, hv, hR'⟩ := fl_undo hR h0 h1 out
  refine z_aload_n X 1 dL_law_2478 rfl rfl ?_
  refine z_aload_n X 3 dL_law_2479 rfl rfl ?_
  have f1 := bk_L (g := g) (ax := ax) (ad := ad) (ay := ay) (qo := qo) (qd := qd) (x := x) (x' := x') (out := out) (out' := out') (od := od) (y := y)
  refine z_mlS (rest := []) (ws' := LW g ax ad ay qo qd x' out' od y) X hE hA k_L_undo (c_L_undo l hfl ak av aS D g ad ax qo x out (a, x', out') hF) ql_L_L_undo dL_law_2480 f1.1 f1.2 rfl rfl (RM.fit (dc := 0) (ds := 0) hRm (Nat.le_of_ble_eq_true rfl) (Nat.le_of_ble_eq_true rfl) rfl rfl (Nat.le_of_ble_eq_true rfl) (Nat.le_of_ble_eq_true rfl)) (Nat.le_of_ble_eq_true rfl) ?_
  refine z_widen (k := cells + 4) (n := slots + 24) (Nat.add_le_add_left (Nat.le_of_ble_eq_true rfl) _) (Nat.add_le_add_left (Nat.le_of_ble_eq_true rfl) _) ?_
  refine z_istore X ((6, .int a) :: lv0 b ax ay qo qd i) dL_law_2483 (by decide) rfl ?_
  refine z_aload_n X 3 dL_law_2485 rfl rfl ?_
  obtain ⟨wc, wc', wr, hM, q1, q2, q3⟩ := m_undo l D g ay y v2 y' hH
  have f2 := bk_Y (g := g) (ax := ax) (ad := ad) (qo := qo) (qd := qd) (x := x') (out := out') (od := od) q1 q2 q3
  refine z_wgV (rest := []) (ci := 12) (ws' := LW g ax ad ay qo qd x' out' od y') X k_X12_undo hM ql_L_X12_undo dL_law_2486 f2.1 f2.2 rfl rfl LW_y0 rfl rfl (RM.fit (dc := 4) (ds := 24) hRm (Nat.le_of_ble_eq_true rfl) (Nat.le_of_ble_eq_true rfl) rfl rfl (Nat.le_of_ble_eq_true rfl) (Nat.le_of_ble_eq_true rfl)) (Nat.le_of_ble_eq_true rfl) ?_
  refine z_istore X ((7, .int v2) :: (6, .int a) :: lv0 b ax ay qo qd i) dL_law_2489 (by decide) rfl ?_
  refine z_aload_n X 4 dL_law_2491 rfl rfl ?_
  obtain ⟨wt, wu, hT, t1⟩ := m_thrown l D g ay y'
  have f3 := bk_Y (g := g) (ax := ax) (ad := ad) (qo := qo) (qd := qd) (x := x') (out := out') (od := od) t1 t1 rfl
  refine z_rgV (rest := []) (ci := 12) X k_X12_thrown hT ql_L_X12_thrown dL_law_2492 f3.1 rfl rfl LW_y0 rfl rfl (RM.fit (dc := 4) (ds := 24) hRm (Nat.le_of_ble_eq_true rfl) (Nat.le_of_ble_eq_true rfl) rfl rfl (Nat.le_of_ble_eq_true rfl) (Nat.le_of_ble_eq_true rfl)) (Nat.le_of_ble_eq_true rfl) ?_
  refine z_iload X 1 dL_law_2495 rfl ?_
  refine z_ceT X 2502 dL_law_2497 (by decide) ht ?_
  refine z_iload X 1 dL_law_2502 rfl ?_
  have hend : Z p l e R s m args below meth c Q 9 (cells + 4) (slots + 24) (IW D A s (LW g ax ad ay qo qd x' out' od y')) 2519 ((7, .int v2) :: (6, .int a) :: lv0 b ax ay qo qd i) [] := by
    refine z_goto X 2579 dL_law_2519 (by decide) ?_
    refine z_sub (lv' := lv0 b ax ay qo qd i) [2, 3, 4, 5, 6, 7] rfl ?_
    exact kk x' out' od y' hR'
  by_cases ha : a = 0
  rotate_left
  · exact z_neT X 2519 dL_law_2504 (by decide) ha hend
  refine z_neF X 2519 dL_law_2504 (by decide) ha ?_
  refine z_aload_n X 5 dL_law_2507 rfl rfl ?_
  refine z_iconst X (0 : Int32) dL_law_2508 (by decide) ?_
  refine z_lald X IW_P dL_law_2509 LW_o (oki (i := 0) (by decide)) ?_
  refine z_iload X 0 dL_law_2510 rfl ?_
  refine z_i2l X dL_law_2512 ?_
  refine z_lcmpE X dL_law_2513 (hv ha) ?_
  exact z_eqT X 2519 dL_law_2514 (by decide) rfl hend
set_option maxHeartbeats 1000000 in
set_option maxRecDepth 100000 in
theorem lb_save (B : LB p l s m args meth c D g ak av aS A b L xs) (hRm : RM R cells slots) (hR : Rel t x y) (h0 : 0 ≤ t) (h1 : t < 800000) {i : Int32} (hi : II i L) (kk : ∀ x' out' od' y', Rel (t + 300) x' y' → Z p l e R s m args below meth c Q 9 (cells + 4) (slots + 24) (IW D A s (LW g ax ad ay qo qd x' out' od' y')) 2579 (lv0 b ax ay qo qd i) []) : Z p l e R s m args below meth c Q 9 cells slots (IW D A s (LW g ax ad ay qo qd x out od y)) 2522 (lv0 b ax ay qo qd i) [] := by
  obtain ⟨X, hE, hA, hX, hb, hbA, hfl⟩ := B
  obtain ⟨k, v, x', v2, y', t, hm, hG, hH, ht, hv, hR'⟩ := op_save hR
  simp only [List.mem_cons, Prod.mk.injEq, List.not_mem_nil, or_false] at hm
  obtain ⟨rfl, rfl⟩ := hm
  obtain rfl := hv rfl
  refine z_aload_n X 1 dL_law_2522 rfl rfl ?_
  obtain ⟨wa, wa', wb, hN, r1, r2, r3, r4⟩ := n_save l D g ad ax x v x' hG
  have f1 := bk_X (g := g) (ax := ax) (ad := ad) (ay := ay) (qo := qo) (qd := qd) (x := x) (x' := x') (out := out) (od := od) (y := y) r1 r2 r3 r4
  refine z_wgV (rest := []) (ci := 11) (ws' := LW g ax ad ay qo qd x' out od y) X k_X11_save hN ql_L_X11_save dL_law_2523 f1.1 f1.2 rfl rfl LW_x0 rfl rfl (RM.fit (dc := 0) (ds := 0) hRm (Nat.le_of_ble_eq_true rfl) (Nat.le_of_ble_eq_true rfl) rfl rfl (Nat.le_of_ble_eq_true rfl) (Nat.le_of_ble_eq_true rfl)) (Nat.le_of_ble_eq_true rfl) ?_
  refine z_aload_n X 2 dL_law_2526 rfl rfl ?_
  obtain ⟨wc, wc', wr, hM, q1, q2, q3⟩ := m_save l D g ay y v y' hH
  have f2 := bk_Y (g := g) (ax := ax) (ad := ad) (qo := qo) (qd := qd) (x := x') (out := out) (od := od) q1 q2 q3
  refine z_wgV (rest := [.int v]) (ci := 12) (ws' := LW g ax ad ay qo qd x' out od y') X k_X12_save hM ql_L_X12_save dL_law_2527 f2.1 f2.2 rfl rfl LW_y0 rfl rfl (RM.fit (dc := 0) (ds := 0) hRm (Nat.le_of_ble_eq_true rfl) (Nat.le_of_ble_eq_true rfl) rfl rfl (Nat.le_of_ble_eq_true rfl) (Nat.le_of_ble_eq_true rfl)) (Nat.le_of_ble_eq_true rfl) ?_
  refine z_widen (k := cells + 4) (n := slots + 24) (Nat.le_add_right _ _) (Nat.le_add_right _ _) ?_
  refine z_ceT X 2579 dL_law_2530 (by decide) rfl ?_
  exact kk x' out od y' hR'
theorem k_L_restore : cardS yL_restore (Cond.codeWith yL_restore cL_restore 3 (some .int) [(0, 8, 11, 115)]) 2 := ⟨qs_L_restore, qw_L_restore, qn_L, by decide +kernel, by decide +kernel, by decide +kernel⟩
set_option maxHeartbeats 1000000 in
set_option maxRecDepth 100000 in
theorem lb_restore (B : LB p l s m args meth c D g ak av aS A b L xs) (hRm : RM R cells slots) (hR : Rel t x y) (h0 : 0 ≤ t) (h1 : t < 800000) {i : Int32} (hi : II i L) (kk : ∀ x' out' od' y', Rel (t + 300) x' y' → Z p l e R s m args below meth c Q 9 (cells + 4) (slots + 24) (IW D A s (LW g ax ad ay qo qd x' out' od' y')) 2579 (lv0 b ax ay qo qd i) []) : Z p l e R s m args below meth c Q 9 cells slots (IW D A s (LW g ax ad ay qo qd x out od y)) 2535 (lv0 b ax ay qo qd i) [] := by
  obtain ⟨X, hE, hA, hX, hb, hbA, hfl⟩ := B
  obtain ⟨a, x', out', v2, y', hF, hH, ht, hv, hR'⟩ := fl_restore hR h0 h1 out
  refine z_aload_n X 1 dL_law_2535 rfl rfl ?_
  refine z_aload_n X 3 dL_law_2536 rfl rfl ?_
  have f1 := bk_L (g := g) (ax := ax) (ad := ad) (ay := ay) (qo := qo) (qd := qd) (x := x) (x' := x') (out := out) (out' := out') (od := od) (y := y)
  refine z_mlS (rest := []) (ws' := LW g ax ad ay qo qd x' out' od y) X hE hA k_L_restore (c_L_restore l hfl ak av aS D g ad ax qo x out (a, x', out') hF) ql_L_L_restore dL_law_2537 f1.1 f1.2 rfl rfl (RM.fit (dc := 0) (ds := 0) hRm (Nat.le_of_ble_eq_true rfl) (Nat.le_of_ble_eq_true rfl) rfl rfl (Nat.le_of_ble_eq_true rfl) (Nat.le_of_ble_eq_true rfl)) (Nat.le_of_ble_eq_true rfl) ?_
  refine z_widen (k := cells + 4) (n := slots + 24) (Nat.add_le_add_left (Nat.le_of_ble_eq_true rfl) _) (Nat.add_le_add_left (Nat.le_of_ble_eq_true rfl) _) ?_
  refine z_istore X ((6, .int a) :: lv0 b ax ay qo qd i) dL_law_2540 (by decide) rfl ?_
  refine z_aload_n X 3 dL_law_2542 rfl rfl ?_
  obtain ⟨wc, wc', wr, hM, q1, q2, q3⟩ := m_restore l D g ay y v2 y' hH
  have f2 := bk_Y (g := g) (ax := ax) (ad := ad) (qo := qo) (qd := qd) (x := x') (out := out') (od := od) q1 q2 q3
  refine z_wgV (rest := []) (ci := 12) (ws' := LW g ax ad ay qo qd x' out' od y') X k_X12_restore hM ql_L_X12_restore dL_law_2543 f2.1 f2.2 rfl rfl LW_y0 rfl rfl (RM.fit (dc := 4) (ds := 24) hRm (Nat.le_of_ble_eq_true rfl) (Nat.le_of_ble_eq_true rfl) rfl rfl (Nat.le_of_ble_eq_true rfl) (Nat.le_of_ble_eq_true rfl)) (Nat.le_of_ble_eq_true rfl) ?_
  refine z_istore X ((7, .int v2) :: (6, .int a) :: lv0 b ax ay qo qd i) dL_law_2546 (by decide) rfl ?_
  refine z_aload_n X 4 dL_law_2548 rfl rfl ?_
  obtain ⟨wt, wu, hT, t1⟩ := m_thrown l D g ay y'
  have f3 := bk_Y (g := g) (ax := ax) (ad := ad) (qo := qo) (qd := qd) (x := x') (out := out') (od := od) t1 t1 rfl
  refine z_rgV (rest := []) (ci := 12) X k_X12_thrown hT ql_L_X12_thrown dL_law_2549 f3.1 rfl rfl LW_y0 rfl rfl (RM.fit (dc := 4) (ds := 24) hRm (Nat.le_of_ble_eq_true rfl) (Nat.le_of_ble_eq_true rfl) rfl rfl (Nat.le_of_ble_eq_true rfl) (Nat.le_of_ble_eq_true rfl)) (Nat.le_of_ble_eq_true rfl) ?_
  refine z_iload X 1 dL_law_2552 rfl ?_
  refine z_ceT X 2559 dL_law_2554 (by decide) ht ?_
  refine z_iload X 1 dL_law_2559 rfl ?_
  have hend : Z p l e R s m args below meth c Q 9 (cells + 4) (slots + 24) (IW D A s (LW g ax ad ay qo qd x' out' od y')) 2576 ((7, .int v2) :: (6, .int a) :: lv0 b ax ay qo qd i) [] := by
    refine z_goto X 2579 dL_law_2576 (by decide) ?_
    refine z_sub (lv' := lv0 b ax ay qo qd i) [2, 3, 4, 5, 6, 7] rfl ?_
    exact kk x' out' od y' hR'
  by_cases ha : a = 0
  rotate_left
  · exact z_neT X 2576 dL_law_2561 (by decide) ha hend
  refine z_neF X 2576 dL_law_2561 (by decide) ha ?_
  refine z_aload_n X 5 dL_law_2564 rfl rfl ?_
  refine z_iconst X (0 : Int32) dL_law_2565 (by decide) ?_
  refine z_lald X IW_P dL_law_2566 LW_o (oki (i := 0) (by decide)) ?_
  refine z_iload X 0 dL_law_2567 rfl ?_
  refine z_i2l X dL_law_2569 ?_
  refine z_lcmpE X dL_law_2570 (hv ha) ?_
  exact z_eqT X 2576 dL_law_2571 (by decide) rfl hend
end LC30
