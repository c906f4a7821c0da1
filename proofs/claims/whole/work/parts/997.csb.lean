/-! ===== the law: cases 10 to 19 ===== -/
section LC10
variable {p : Program} {l : Launch} {e : Env} {R : Room} {s : State} {m : MethodId} {args : Array Value} {below : List Frame} {meth : Method} {c : Code} {Q : State → Prop} {cells slots : Nat} {D : va_G} {g : Nat → ClassId} {A : Nat → Prop} {ak av : Nat → Nat} {aS b L : Nat} {xs : Nat → Int32} {ax ay : Nat → Nat} {ad : Nat → Nat → Nat} {qo qd : Nat} {x : XVal} {y : MVal} {out : Nat → Int64} {od : Nat → UInt64} {t : Int}
theorem k_L_classOf : cardS yL_classOf (Cond.codeWith yL_classOf cL_classOf 7 (some .int) [(0, 14, 17, 21), (0, 14, 21, 13)]) 6 := ⟨qs_L_classOf, qw_L_classOf, qn_L, by decide +kernel, by decide +kernel, by decide +kernel⟩
set_option maxHeartbeats 1000000 in
set_option maxRecDepth 100000 in
theorem lb_classOf (B : LB p l s m args meth c D g ak av aS A b L xs) (hRm : RM R cells slots) (hR : Rel t x y) (h0 : 0 ≤ t) (h1 : t < 800000) {i : Int32} (hi : II i L) (kk : ∀ x' out' od' y', Rel (t + 300) x' y' → Z p l e R s m args below meth c Q 9 (cells + 4) (slots + 24) (IW D A s (LW g ax ad ay qo qd x' out' od' y')) 2579 (lv0 b ax ay qo qd i) []) : Z p l e R s m args below meth c Q 9 cells slots (IW D A s (LW g ax ad ay qo qd x out od y)) 887 (lv0 b ax ay qo qd i) [] := by
  obtain ⟨X, hE, hA, hX, hb, hbA, hfl⟩ := B
  obtain ⟨a, x', out', v2, y', hF, hH, ht, hv, hR'⟩ := fl_classOf hR h0 h1 (xs (i + (1 : Int32)).toNatClampNeg) (xs (i + (2 : Int32)).toNatClampNeg) (xs (i + (3 : Int32)).toNatClampNeg) (xs (i + (4 : Int32)).toNatClampNeg) out
  refine z_aload_n X 1 dL_law_887 rfl rfl ?_
  refine z_aload_n X 0 dL_law_888 rfl rfl ?_
  refine z_iload X 5 dL_law_889 rfl ?_
  refine z_iconst X (1 : Int32) dL_law_891 (by decide) ?_
  refine z_iadd X dL_law_892 ?_
  refine z_sld X hX hb hbA dL_law_893 hi.2.1 ?_
  refine z_aload_n X 0 dL_law_894 rfl rfl ?_
  refine z_iload X 5 dL_law_895 rfl ?_
  refine z_iconst X (2 : Int32) dL_law_897 (by decide) ?_
  refine z_iadd X dL_law_898 ?_
  refine z_sld X hX hb hbA dL_law_899 hi.2.2.1 ?_
  refine z_aload_n X 0 dL_law_900 rfl rfl ?_
  refine z_iload X 5 dL_law_901 rfl ?_
  refine z_iconst X (3 : Int32) dL_law_903 (by decide) ?_
  refine z_iadd X dL_law_904 ?_
  refine z_sld X hX hb hbA dL_law_905 hi.2.2.2.1 ?_
  refine z_aload_n X 0 dL_law_906 rfl rfl ?_
  refine z_iload X 5 dL_law_907 rfl ?_
  refine z_iconst X (4 : Int32) dL_law_909 (by decide) ?_
  refine z_iadd X dL_law_910 ?_
  refine z_sld X hX hb hbA dL_law_911 hi.2.2.2.2 ?_
  refine z_aload_n X 3 dL_law_912 rfl rfl ?_
  have f1 := bk_L (g := g) (ax := ax) (ad := ad) (ay := ay) (qo := qo) (qd := qd) (x := x) (x' := x') (out := out) (out' := out') (od := od) (y := y)
  refine z_mlS (rest := []) (ws' := LW g ax ad ay qo qd x' out' od y) X hE hA k_L_classOf (c_L_classOf l hfl ak av aS D g ad ax qo (xs (i + (1 : Int32)).toNatClampNeg) (xs (i + (2 : Int32)).toNatClampNeg) (xs (i + (3 : Int32)).toNatClampNeg) (xs (i + (4 : Int32)).toNatClampNeg) x out (a, x', out') hF) ql_L_L_classOf dL_law_913 f1.1 f1.2 rfl rfl (RM.fit (dc := 0) (ds := 0) hRm (Nat.le_of_ble_eq_true rfl) (Nat.le_of_ble_eq_true rfl) rfl rfl (Nat.le_of_ble_eq_true rfl) (Nat.le_of_ble_eq_true rfl)) (Nat.le_of_ble_eq_true rfl) ?_
  refine z_widen (k := cells + 4) (n := slots + 24) (Nat.add_le_add_left (Nat.le_of_ble_eq_true rfl) _) (Nat.add_le_add_left (Nat.le_of_ble_eq_true rfl) _) ?_
  refine z_istore X ((6, .int a) :: lv0 b ax ay qo qd i) dL_law_916 (by decide) rfl ?_
  refine z_aload_n X 3 dL_law_918 rfl rfl ?_
  refine z_aload_n X 1 dL_law_919 rfl rfl ?_
  refine z_iload X 6 dL_law_920 rfl ?_
  refine z_iconst X (1 : Int32) dL_law_922 (by decide) ?_
  refine z_iadd X dL_law_923 ?_
  refine z_sld X hX hb hbA dL_law_924 hi.2.1 ?_
  refine z_aload_n X 1 dL_law_925 rfl rfl ?_
  refine z_iload X 6 dL_law_926 rfl ?_
  refine z_iconst X (2 : Int32) dL_law_928 (by decide) ?_
  refine z_iadd X dL_law_929 ?_
  refine z_sld X hX hb hbA dL_law_930 hi.2.2.1 ?_
  refine z_aload_n X 1 dL_law_931 rfl rfl ?_
  refine z_iload X 6 dL_law_932 rfl ?_
  refine z_iconst X (3 : Int32) dL_law_934 (by decide) ?_
  refine z_iadd X dL_law_935 ?_
  refine z_sld X hX hb hbA dL_law_936 hi.2.2.2.1 ?_
  refine z_aload_n X 1 dL_law_937 rfl rfl ?_
  refine z_iload X 6 dL_law_938 rfl ?_
  refine z_iconst X (4 : Int32) dL_law_940 (by decide) ?_
  refine z_iadd X dL_law_941 ?_
  refine z_sld X hX hb hbA dL_law_942 hi.2.2.2.2 ?_
  obtain ⟨wc, wc', wr, hM, q1, q2, q3⟩ := m_classOf l D g ay y (xs (i + (1 : Int32)).toNatClampNeg) (xs (i + (2 : Int32)).toNatClampNeg) (xs (i + (3 : Int32)).toNatClampNeg) (xs (i + (4 : Int32)).toNatClampNeg) v2 y' hH
  have f2 := bk_Y (g := g) (ax := ax) (ad := ad) (qo := qo) (qd := qd) (x := x') (out := out') (od := od) q1 q2 q3
  refine z_wgV (rest := []) (ci := 12) (ws' := LW g ax ad ay qo qd x' out' od y') X k_X12_classOf hM ql_L_X12_classOf dL_law_943 f2.1 f2.2 rfl rfl LW_y0 rfl rfl (RM.fit (dc := 4) (ds := 24) hRm (Nat.le_of_ble_eq_true rfl) (Nat.le_of_ble_eq_true rfl) rfl rfl (Nat.le_of_ble_eq_true rfl) (Nat.le_of_ble_eq_true rfl)) (Nat.le_of_ble_eq_true rfl) ?_
  refine z_istore X ((7, .int v2) :: (6, .int a) :: lv0 b ax ay qo qd i) dL_law_946 (by decide) rfl ?_
  refine z_aload_n X 4 dL_law_948 rfl rfl ?_
  obtain ⟨wt, wu, hT, t1⟩ := m_thrown l D g ay y'
  have f3 := bk_Y (g := g) (ax := ax) (ad := ad) (qo := qo) (qd := qd) (x := x') (out := out') (od := od) t1 t1 rfl
  refine z_rgV (rest := []) (ci := 12) X k_X12_thrown hT ql_L_X12_thrown dL_law_949 f3.1 rfl rfl LW_y0 rfl rfl (RM.fit (dc := 4) (ds := 24) hRm (Nat.le_of_ble_eq_true rfl) (Nat.le_of_ble_eq_true rfl) rfl rfl (Nat.le_of_ble_eq_true rfl) (Nat.le_of_ble_eq_true rfl)) (Nat.le_of_ble_eq_true rfl) ?_
  refine z_iload X 1 dL_law_952 rfl ?_
  refine z_ceT X 959 dL_law_954 (by decide) ht ?_
  refine z_iload X 1 dL_law_959 rfl ?_
  have hend : Z p l e R s m args below meth c Q 9 (cells + 4) (slots + 24) (IW D A s (LW g ax ad ay qo qd x' out' od y')) 976 ((7, .int v2) :: (6, .int a) :: lv0 b ax ay qo qd i) [] := by
    refine z_goto X 2579 dL_law_976 (by decide) ?_
    refine z_sub (lv' := lv0 b ax ay qo qd i) [2, 3, 4, 5, 6, 7] rfl ?_
    exact kk x' out' od y' hR'
  by_cases ha : a = 0
  rotate_left
  · exact z_neT X 976 dL_law_961 (by decide) ha hend
  refine z_neF X 976 dL_law_961 (by decide) ha ?_
  refine z_aload_n X 5 dL_law_964 rfl rfl ?_
  refine z_iconst X (0 : Int32) dL_law_965 (by decide) ?_
  refine z_lald X IW_P dL_law_966 LW_o (oki (i := 0) (by decide)) ?_
  refine z_iload X 0 dL_law_967 rfl ?_
  refine z_i2l X dL_law_969 ?_
  refine z_lcmpE X dL_law_970 (hv ha) ?_
  exact z_eqT X 976 dL_law_971 (by decide) rfl hend
theorem k_L_echo : cardS yL_echo (Cond.codeWith yL_echo cL_echo 6 (some .int) [(0, 12, 15, 21), (0, 12, 19, 13), (0, 12, 23, 48)]) 5 := ⟨qs_L_echo, qw_L_echo, qn_L, by decide +kernel, by decide +kernel, by decide +kernel⟩
set_option maxHeartbeats 1000000 in
set_option maxRecDepth 100000 in
theorem lb_echo (B : LB p l s m args meth c D g ak av aS A b L xs) (hRm : RM R cells slots) (hR : Rel t x y) (h0 : 0 ≤ t) (h1 : t < 800000) {i : Int32} (hi : II i L) (kk : ∀ x' out' od' y', Rel (t + 300) x' y' → Z p l e R s m args below meth c Q 9 (cells + 4) (slots + 24) (IW D A s (LW g ax ad ay qo qd x' out' od' y')) 2579 (lv0 b ax ay qo qd i) []) : Z p l e R s m args below meth c Q 9 cells slots (IW D A s (LW g ax ad ay qo qd x out od y)) 979 (lv0 b ax ay qo qd i) [] := by
  obtain ⟨X, hE, hA, hX, hb, hbA, hfl⟩ := B
  obtain ⟨a, x', out', v2, y', hF, hH, ht, hv, hR'⟩ := fl_echo hR h0 h1 (xs (i + (1 : Int32)).toNatClampNeg) (xs (i + (2 : Int32)).toNatClampNeg) (xs (i + (3 : Int32)).toNatClampNeg) out
  refine z_aload_n X 1 dL_law_979 rfl rfl ?_
  refine z_aload_n X 0 dL_law_980 rfl rfl ?_
  refine z_iload X 5 dL_law_981 rfl ?_
  refine z_iconst X (1 : Int32) dL_law_983 (by decide) ?_
  refine z_iadd X dL_law_984 ?_
  refine z_sld X hX hb hbA dL_law_985 hi.2.1 ?_
  refine z_aload_n X 0 dL_law_986 rfl rfl ?_
  refine z_iload X 5 dL_law_987 rfl ?_
  refine z_iconst X (2 : Int32) dL_law_989 (by decide) ?_
  refine z_iadd X dL_law_990 ?_
  refine z_sld X hX hb hbA dL_law_991 hi.2.2.1 ?_
  refine z_aload_n X 0 dL_law_992 rfl rfl ?_
  refine z_iload X 5 dL_law_993 rfl ?_
  refine z_iconst X (3 : Int32) dL_law_995 (by decide) ?_
  refine z_iadd X dL_law_996 ?_
  refine z_sld X hX hb hbA dL_law_997 hi.2.2.2.1 ?_
  refine z_aload_n X 3 dL_law_998 rfl rfl ?_
  have f1 := bk_L (g := g) (ax := ax) (ad := ad) (ay := ay) (qo := qo) (qd := qd) (x := x) (x' := x') (out := out) (out' := out') (od := od) (y := y)
  refine z_mlS (rest := []) (ws' := LW g ax ad ay qo qd x' out' od y) X hE hA k_L_echo (c_L_echo l hfl ak av aS D g ad ax qo (xs (i + (1 : Int32)).toNatClampNeg) (xs (i + (2 : Int32)).toNatClampNeg) (xs (i + (3 : Int32)).toNatClampNeg) x out (a, x', out') hF) ql_L_L_echo dL_law_999 f1.1 f1.2 rfl rfl (RM.fit (dc := 0) (ds := 0) hRm (Nat.le_of_ble_eq_true rfl) (Nat.le_of_ble_eq_true rfl) rfl rfl (Nat.le_of_ble_eq_true rfl) (Nat.le_of_ble_eq_true rfl)) (Nat.le_of_ble_eq_true rfl) ?_
  refine z_widen (k := cells + 4) (n := slots + 24) (Nat.add_le_add_left (Nat.le_of_ble_eq_true rfl) _) (Nat.add_le_add_left (Nat.le_of_ble_eq_true rfl) _) ?_
  refine z_istore X ((6, .int a) :: lv0 b ax ay qo qd i) dL_law_1002 (by decide) rfl ?_
  refine z_aload_n X 3 dL_law_1004 rfl rfl ?_
  refine z_aload_n X 1 dL_law_1005 rfl rfl ?_
  refine z_iload X 6 dL_law_1006 rfl ?_
  refine z_iconst X (1 : Int32) dL_law_1008 (by decide) ?_
  refine z_iadd X dL_law_1009 ?_
  refine z_sld X hX hb hbA dL_law_1010 hi.2.1 ?_
  refine z_aload_n X 1 dL_law_1011 rfl rfl ?_
  refine z_iload X 6 dL_law_1012 rfl ?_
  refine z_iconst X (2 : Int32) dL_law_1014 (by decide) ?_
  refine z_iadd X dL_law_1015 ?_
  refine z_sld X hX hb hbA dL_law_1016 hi.2.2.1 ?_
  refine z_aload_n X 1 dL_law_1017 rfl rfl ?_
  refine z_iload X 6 dL_law_1018 rfl ?_
  refine z_iconst X (3 : Int32) dL_law_1020 (by decide) ?_
  refine z_iadd X dL_law_1021 ?_
  refine z_sld X hX hb hbA dL_law_1022 hi.2.2.2.1 ?_
  obtain ⟨wc, wc', wr, hM, q1, q2, q3⟩ := m_echo l D g ay y (xs (i + (1 : Int32)).toNatClampNeg) (xs (i + (2 : Int32)).toNatClampNeg) (xs (i + (3 : Int32)).toNatClampNeg) v2 y' hH
  have f2 := bk_Y (g := g) (ax := ax) (ad := ad) (qo := qo) (qd := qd) (x := x') (out := out') (od := od) q1 q2 q3
  refine z_wgV (rest := []) (ci := 12) (ws' := LW g ax ad ay qo qd x' out' od y') X k_X12_echo hM ql_L_X12_echo dL_law_1023 f2.1 f2.2 rfl rfl LW_y0 rfl rfl (RM.fit (dc := 4) (ds := 24) hRm (Nat.le_of_ble_eq_true rfl) (Nat.le_of_ble_eq_true rfl) rfl rfl (Nat.le_of_ble_eq_true rfl) (Nat.le_of_ble_eq_true rfl)) (Nat.le_of_ble_eq_true rfl) ?_
  refine z_istore X ((7, .int v2) :: (6, .int a) :: lv0 b ax ay qo qd i) dL_law_1026 (by decide) rfl ?_
  refine z_aload_n X 4 dL_law_1028 rfl rfl ?_
  obtain ⟨wt, wu, hT, t1⟩ := m_thrown l D g ay y'
  have f3 := bk_Y (g := g) (ax := ax) (ad := ad) (qo := qo) (qd := qd) (x := x') (out := out') (od := od) t1 t1 rfl
  refine z_rgV (rest := []) (ci := 12) X k_X12_thrown hT ql_L_X12_thrown dL_law_1029 f3.1 rfl rfl LW_y0 rfl rfl (RM.fit (dc := 4) (ds := 24) hRm (Nat.le_of_ble_eq_true rfl) (Nat.le_of_ble_eq_true rfl) rfl rfl (Nat.le_of_ble_eq_true rfl) (Nat.le_of_ble_eq_true rfl)) (Nat.le_of_ble_eq_true rfl) ?_
  refine z_iload X 1 dL_law_1032 rfl ?_
  refine z_ceT X 1039 dL_law_1034 (by decide) ht ?_
  refine z_iload X 1 dL_law_1039 rfl ?_
  have hend : Z p l e R s m args below meth c Q 9 (cells + 4) (slots + 24) (IW D A s (LW g ax ad ay qo qd x' out' od y')) 1056 ((7, .int v2) :: (6, .int a) :: lv0 b ax ay qo qd i) [] := by
    refine z_goto X 2579 dL_law_1056 (by decide) ?_
    refine z_sub (lv' := lv0 b ax ay qo qd i) [2, 3, 4, 5, 6, 7] rfl ?_
    exact kk x' out' od y' hR'
  by_cases ha : a = 0
  rotate_left
  · exact z_neT X 1056 dL_law_1041 (by decide) ha hend
  refine z_neF X 1056 dL_law_1041 (by decide) ha ?_
  refine z_aload_n X 5 dL_law_1044 rfl rfl ?_
  refine z_iconst X (0 : Int32) dL_law_1045 (by decide) ?_
  refine z_lald X IW_P dL_law_1046 LW_o (oki (i := 0) (by decide)) ?_
  refine z_iload X 0 dL_law_1047 rfl ?_
  refine z_i2l X dL_law_1049 ?_
  refine z_lcmpE X dL_law_1050 (hv ha) ?_
  exact z_eqT X 1056 dL_law_1051 (by decide) rfl hend
theorem k_L_heard : cardS yL_heard (Cond.codeWith yL_heard cL_heard 6 (some .int) [(0, 12, 15, 21), (0, 12, 19, 13)]) 5 := ⟨qs_L_heard, qw_L_heard, qn_L, by decide +kernel, by decide +kernel, by decide +kernel⟩
set_option maxHeartbeats 1000000 in
set_option maxRecDepth 100000 in
theorem lb_heard (B : LB p l s m args meth c D g ak av aS A b L xs) (hRm : RM R cells slots) (hR : Rel t x y) (h0 : 0 ≤ t) (h1 : t < 800000) {i : Int32} (hi : II i L) (kk : ∀ x' out' od' y', Rel (t + 300) x' y' → Z p l e R s m args below meth c Q 9 (cells + 4) (slots + 24) (IW D A s (LW g ax ad ay qo qd x' out' od' y')) 2579 (lv0 b ax ay qo qd i) []) : Z p l e R s m args below meth c Q 9 cells slots (IW D A s (LW g ax ad ay qo qd x out od y)) 1059 (lv0 b ax ay qo qd i) [] := by
  obtain ⟨X, hE, hA, hX, hb, hbA, hfl⟩ := B
  obtain ⟨a, x', out', v2, y', hF, hH, ht, hv, hR'⟩ := fl_heard hR h0 h1 (xs (i + (1 : Int32)).toNatClampNeg) (xs (i + (2 : Int32)).toNatClampNeg) (xs (i + (3 : Int32)).toNatClampNeg) out
  refine z_aload_n X 1 dL_law_1059 rfl rfl ?_
  refine z_aload_n X 0 dL_law_1060 rfl rfl ?_
  refine z_iload X 5 dL_law_1061 rfl ?_
  refine z_iconst X (1 : Int32) dL_law_1063 (by decide) ?_
  refine z_iadd X dL_law_1064 ?_
  refine z_sld X hX hb hbA dL_law_1065 hi.2.1 ?_
  refine z_aload_n X 0 dL_law_1066 rfl rfl ?_
  refine z_iload X 5 dL_law_1067 rfl ?_
  refine z_iconst X (2 : Int32) dL_law_1069 (by decide) ?_
  refine z_iadd X dL_law_1070 ?_
  refine z_sld X hX hb hbA dL_law_1071 hi.2.2.1 ?_
  refine z_aload_n X 0 dL_law_1072 rfl rfl ?_
  refine z_iload X 5 dL_law_1073 rfl ?_
  refine z_iconst X (3 : Int32) dL_law_1075 (by decide) ?_
  refine z_iadd X dL_law_1076 ?_
  refine z_sld X hX hb hbA dL_law_1077 hi.2.2.2.1 ?_
  refine z_aload_n X 3 dL_law_1078 rfl rfl ?_
  have f1 := bk_L (g := g) (ax := ax) (ad := ad) (ay := ay) (qo := qo) (qd := qd) (x := x) (x' := x') (out := out) (out' := out') (od := od) (y := y)
  refine z_mlS (rest := []) (ws' := LW g ax ad ay qo qd x' out' od y) X hE hA k_L_heard (c_L_heard l hfl ak av aS D g ad ax qo (xs (i + (1 : Int32)).toNatClampNeg) (xs (i + (2 : Int32)).toNatClampNeg) (xs (i + (3 : Int32)).toNatClampNeg) x out (a, x', out') hF) ql_L_L_heard dL_law_1079 f1.1 f1.2 rfl rfl (RM.fit (dc := 0) (ds := 0) hRm (Nat.le_of_ble_eq_true rfl) (Nat.le_of_ble_eq_true rfl) rfl rfl (Nat.le_of_ble_eq_true rfl) (Nat.le_of_ble_eq_true rfl)) (Nat.le_of_ble_eq_true rfl) ?_
  refine z_widen (k := cells + 4) (n := slots + 24) (Nat.add_le_add_left (Nat.le_of_ble_eq_true rfl) _) (Nat.add_le_add_left (Nat.le_of_ble_eq_true rfl) _) ?_
  refine z_istore X ((6, .int a) :: lv0 b ax ay qo qd i) dL_law_1082 (by decide) rfl ?_
  refine z_aload_n X 3 dL_law_1084 rfl rfl ?_
  refine z_aload_n X 1 dL_law_1085 rfl rfl ?_
  refine z_iload X 6 dL_law_1086 rfl ?_
  refine z_iconst X (1 : Int32) dL_law_1088 (by decide) ?_
  refine z_iadd X dL_law_1089 ?_
  refine z_sld X hX hb hbA dL_law_1090 hi.2.1 ?_
  refine z_aload_n X 1 dL_law_1091 rfl rfl ?_
  refine z_iload X 6 dL_law_1092 rfl ?_
  refine z_iconst X (2 : Int32) dL_law_1094 (by decide) ?_
  refine z_iadd X dL_law_1095 ?_
  refine z_sld X hX hb hbA dL_law_1096 hi.2.2.1 ?_
  refine z_aload_n X 1 dL_law_1097 rfl rfl ?_
  refine z_iload X 6 dL_law_1098 rfl ?_
  refine z_iconst X (3 : Int32) dL_law_1100 (by decide) ?_
  refine z_iadd X dL_law_1101 ?_
  refine z_sld X hX hb hbA dL_law_1102 hi.2.2.2.1 ?_
  obtain ⟨wc, wc', wr, hM, q1, q2, q3⟩ := m_heard l D g ay y (xs (i + (1 : Int32)).toNatClampNeg) (xs (i + (2 : Int32)).toNatClampNeg) (xs (i + (3 : Int32)).toNatClampNeg) v2 y' hH
  have f2 := bk_Y (g := g) (ax := ax) (ad := ad) (qo := qo) (qd := qd) (x := x') (out := out') (od := od) q1 q2 q3
  refine z_wgV (rest := []) (ci := 12) (ws' := LW g ax ad ay qo qd x' out' od y') X k_X12_heard hM ql_L_X12_heard dL_law_1103 f2.1 f2.2 rfl rfl LW_y0 rfl rfl (RM.fit (dc := 4) (ds := 24) hRm (Nat.le_of_ble_eq_true rfl) (Nat.le_of_ble_eq_true rfl) rfl rfl (Nat.le_of_ble_eq_true rfl) (Nat.le_of_ble_eq_true rfl)) (Nat.le_of_ble_eq_true rfl) ?_
  refine z_istore X ((7, .int v2) :: (6, .int a) :: lv0 b ax ay qo qd i) dL_law_1106 (by decide) rfl ?_
  refine z_aload_n X 4 dL_law_1108 rfl rfl ?_
  obtain ⟨wt, wu, hT, t1⟩ := m_thrown l D g ay y'
  have f3 := bk_Y (g := g) (ax := ax) (ad := ad) (qo := qo) (qd := qd) (x := x') (out := out') (od := od) t1 t1 rfl
  refine z_rgV (rest := []) (ci := 12) X k_X12_thrown hT ql_L_X12_thrown dL_law_1109 f3.1 rfl rfl LW_y0 rfl rfl (RM.fit (dc := 4) (ds := 24) hRm (Nat.le_of_ble_eq_true rfl) (Nat.le_of_ble_eq_true rfl) rfl rfl (Nat.le_of_ble_eq_true rfl) (Nat.le_of_ble_eq_true rfl)) (Nat.le_of_ble_eq_true rfl) ?_
  refine z_iload X 1 dL_law_1112 rfl ?_
  refine z_ceT X 1119 dL_law_1114 (by decide) ht ?_
  refine z_iload X 1 dL_law_1119 rfl ?_
  have hend : Z p l e R s m args below meth c Q 9 (cells + 4) (slots + 24) (IW D A s (LW g ax ad ay qo qd x' out' od y')) 1136 ((7, .int v2) :: (6, .int a) :: lv0 b ax ay qo qd i) [] := by
    refine z_goto X 2579 dL_law_1136 (by decide) ?_
    refine z_sub (lv' := lv0 b ax ay qo qd i) [2, 3, 4, 5, 6, 7] rfl ?_
    exact kk x' out' od y' hR'
  by_cases ha : a = 0
  rotate_left
  · exact z_neT X 1136 dL_law_1121 (by decide) ha hend
  refine z_neF X 1136 dL_law_1121 (by decide) ha ?_
  refine z_aload_n X 5 dL_law_1124 rfl rfl ?_
  refine z_iconst X (0 : Int32) dL_law_1125 (by decide) ?_
  refine z_lald X IW_P dL_law_1126 LW_o (oki (i := 0) (by decide)) ?_
  refine z_iload X 0 dL_law_1127 rfl ?_
  refine z_i2l X dL_law_1129 ?_
  refine z_lcmpE X dL_law_1130 (hv ha) ?_
  exact z_eqT X 1136 dL_law_1131 (by decide) rfl hend
theorem k_L_rings : cardS yL_rings (Cond.codeWith yL_rings cL_rings 4 (some .int) [(0, 9, 12, 13)]) 3 := ⟨qs_L_rings, qw_L_rings, qn_L, by decide +kernel, by decide +kernel, by decide +kernel⟩
set_option maxHeartbeats 1000000 in
set_option maxRecDepth 100000 in
theorem lb_rings (B : LB p l s m args meth c D g ak av aS A b L xs) (hRm : RM R cells slots) (hR : Rel t x y) (h0 : 0 ≤ t) (h1 : t < 800000) {i : Int32} (hi : II i L) (kk : ∀ x' out' od' y', Rel (t + 300) x' y' → Z p l e R s m args below meth c Q 9 (cells + 4) (slots + 24) (IW D A s (LW g ax ad ay qo qd x' out' od' y')) 2579 (lv0 b ax ay qo qd i) []) : Z p l e R s m args below meth c Q 9 cells slots (IW D A s (LW g ax ad ay qo qd x out od y)) 1139 (lv0 b ax ay qo qd i) [] := by
  obtain ⟨X, hE, hA, hX, hb, hbA, hfl⟩ := B
  obtain ⟨a, x', out', v2, y', hF, hH, ht, hv, hR'⟩ := fl_rings hR h0 h1 (xs (i + (1 : Int32)).toNatClampNeg) out
  refine z_aload_n X 1 dL_law_1139 rfl rfl ?_
  refine z_aload_n X 0 dL_law_1140 rfl rfl ?_
  refine z_iload X 5 dL_law_1141 rfl ?_
  refine z_iconst X (1 : Int32) dL_law_1143 (by decide) ?_
  refine z_iadd X dL_law_1144 ?_
  refine z_sld X hX hb hbA dL_law_1145 hi.2.1 ?_
  refine z_aload_n X 3 dL_law_1146 rfl rfl ?_
  have f1 := bk_L (g := g) (ax := ax) (ad := ad) (ay := ay) (qo := qo) (qd := qd) (x := x) (x' := x') (out := out) (out' := out') (od := od) (y := y)
  refine z_mlS (rest := []) (ws' := LW g ax ad ay qo qd x' out' od y) X hE hA k_L_rings (c_L_rings l hfl ak av aS D g ad ax qo (xs (i + (1 : Int32)).toNatClampNeg) x out (a, x', out') hF) ql_L_L_rings dL_law_1147 f1.1 f1.2 rfl rfl (RM.fit (dc := 0) (ds := 0) hRm (Nat.le_of_ble_eq_true rfl) (Nat.le_of_ble_eq_true rfl) rfl rfl (Nat.le_of_ble_eq_true rfl) (Nat.le_of_ble_eq_true rfl)) (Nat.le_of_ble_eq_true rfl) ?_
  refine z_widen (k := cells + 4) (n := slots + 24) (Nat.add_le_add_left (Nat.le_of_ble_eq_true rfl) _) (Nat.add_le_add_left (Nat.le_of_ble_eq_true rfl) _) ?_
  refine z_istore X ((6, .int a) :: lv0 b ax ay qo qd i) dL_law_1150 (by decide) rfl ?_
  refine z_aload_n X 3 dL_law_1152 rfl rfl ?_
  refine z_aload_n X 1 dL_law_1153 rfl rfl ?_
  refine z_iload X 6 dL_law_1154 rfl ?_
  refine z_iconst X (1 : Int32) dL_law_1156 (by decide) ?_
  refine z_iadd X dL_law_1157 ?_
  refine z_sld X hX hb hbA dL_law_1158 hi.2.1 ?_
  obtain ⟨wc, wc', wr, hM, q1, q2, q3⟩ := m_rings l D g ay y (xs (i + (1 : Int32)).toNatClampNeg) v2 y' hH
  have f2 := bk_Y (g := g) (ax := ax) (ad := ad) (qo := qo) (qd := qd) (x := x') (out := out') (od := od) q1 q2 q3
  refine z_wgV (rest := []) (ci := 12) (ws' := LW g ax ad ay qo qd x' out' od y') X k_X12_rings hM ql_L_X12_rings dL_law_1159 f2.1 f2.2 rfl rfl LW_y0 rfl rfl (RM.fit (dc := 4) (ds := 24) hRm (Nat.le_of_ble_eq_true rfl) (Nat.le_of_ble_eq_true rfl) rfl rfl (Nat.le_of_ble_eq_true rfl) (Nat.le_of_ble_eq_true rfl)) (Nat.le_of_ble_eq_true rfl) ?_
  refine z_istore X ((7, .int v2) :: (6, .int a) :: lv0 b ax ay qo qd i) dL_law_1162 (by decide) rfl ?_
  refine z_aload_n X 4 dL_law_1164 rfl rfl ?_
  obtain ⟨wt, wu, hT, t1⟩ := m_thrown l D g ay y'
  have f3 := bk_Y (g := g) (ax := ax) (ad := ad) (qo := qo) (qd := qd) (x := x') (out := out') (od := od) t1 t1 rfl
  refine z_rgV (rest := []) (ci := 12) X k_X12_thrown hT ql_L_X12_thrown dL_law_1165 f3.1 rfl rfl LW_y0 rfl rfl (RM.fit (dc := 4) (ds := 24) hRm (Nat.le_of_ble_eq_true rfl) (Nat.le_of_ble_eq_true rfl) rfl rfl (Nat.le_of_ble_eq_true rfl) (Nat.le_of_ble_eq_true rfl)) (Nat.le_of_ble_eq_true rfl) ?_
  refine z_iload X 1 dL_law_1168 rfl ?_
  refine z_ceT X 1175 dL_law_1170 (by decide) ht ?_
  refine z_iload X 1 dL_law_1175 rfl ?_
  have hend : Z p l e R s m args below meth c Q 9 (cells + 4) (slots + 24) (IW D A s (LW g ax ad ay qo qd x' out' od y')) 1192 ((7, .int v2) :: (6, .int a) :: lv0 b ax ay qo qd i) [] := by
    refine z_goto X 2579 dL_law_1192 (by decide) ?_
    refine z_sub (lv' := lv0 b ax ay qo qd i) [2, 3, 4, 5, 6, 7] rfl ?_
    exact kk x' out' od y' hR'
  by_cases ha : a = 0
  rotate_left
  · exact z_neT X 1192 dL_law_1177 (by decide) ha hend
  refine z_neF X 1192 dL_law_1177 (by decide) ha ?_
  refine z_aload_n X 5 dL_law_1180 rfl rfl ?_
  refine z_iconst X (0 : Int32) dL_law_1181 (by decide) ?_
  refine z_lald X IW_P dL_law_1182 LW_o (oki (i := 0) (by decide)) ?_
  refine z_iload X 0 dL_law_1183 rfl ?_
  refine z_i2l X dL_law_1185 ?_
  refine z_lcmpE X dL_law_1186 (hv ha) ?_
  exact z_eqT X 1192 dL_law_1187 (by decide) rfl hend
theorem k_L_post : cardS yL_post (Cond.codeWith yL_post cL_post 4 (some .int) [(0, 9, 12, 13), (0, 9, 15, 15)]) 3 := ⟨qs_L_post, qw_L_post, qn_L, by decide +kernel, by decide +kernel, by decide +kernel⟩
set_option maxHeartbeats 1000000 in
set_option maxRecDepth 100000 in
theorem lb_post (B : LB p l s m args meth c D g ak av aS A b L xs) (hRm : RM R cells slots) (hR : Rel t x y) (h0 : 0 ≤ t) (h1 : t < 800000) {i : Int32} (hi : II i L) (kk : ∀ x' out' od' y', Rel (t + 300) x' y' → Z p l e R s m args below meth c Q 9 (cells + 4) (slots + 24) (IW D A s (LW g ax ad ay qo qd x' out' od' y')) 2579 (lv0 b ax ay qo qd i) []) : Z p l e R s m args below meth c Q 9 cells slots (IW D A s (LW g ax ad ay qo qd x out od y)) 1195 (lv0 b ax ay qo qd i) [] := by
  obtain ⟨X, hE, hA, hX, hb, hbA, hfl⟩ := B
  obtain ⟨a, x', out', v2, y', hF, hH, ht, hv, hR'⟩ := fl_post hR h0 h1 (xs (i + (1 : Int32)).toNatClampNeg) out
  refine z_aload_n X 1 dL_law_1195 rfl rfl ?_
  refine z_aload_n X 0 dL_law_1196 rfl rfl ?_
  refine z_iload X 5 dL_law_1197 rfl ?_
  refine z_iconst X (1 : Int32) dL_law_1199 (by decide) ?_
  refine z_iadd X dL_law_1200 ?_
  refine z_sld X hX hb hbA dL_law_1201 hi.2.1 ?_
  refine z_aload_n X 3 dL_law_1202 rfl rfl ?_
  have f1 := bk_L (g := g) (ax := ax) (ad := ad) (ay := ay) (qo := qo) (qd := qd) (x := x) (x' := x') (out := out) (out' := out') (od := od) (y := y)
  refine z_mlS (rest := []) (ws' := LW g ax ad ay qo qd x' out' od y) X hE hA k_L_post (c_L_post l hfl ak av aS D g ad ax qo (xs (i + (1 : Int32)).toNatClampNeg) x out (a, x', out') hF) ql_L_L_post dL_law_1203 f1.1 f1.2 rfl rfl (RM.fit (dc := 0) (ds := 0) hRm (Nat.le_of_ble_eq_true rfl) (Nat.le_of_ble_eq_true rfl) rfl rfl (Nat.le_of_ble_eq_true rfl) (Nat.le_of_ble_eq_true rfl)) (Nat.le_of_ble_eq_true rfl) ?_
  refine z_widen (k := cells + 4) (n := slots + 24) (Nat.add_le_add_left (Nat.le_of_ble_eq_true rfl) _) (Nat.add_le_add_left (Nat.le_of_ble_eq_true rfl) _) ?_
  refine z_istore X ((6, .int a) :: lv0 b ax ay qo qd i) dL_law_1206 (by decide) rfl ?_
  refine z_aload_n X 3 dL_law_1208 rfl rfl ?_
  refine z_aload_n X 1 dL_law_1209 rfl rfl ?_
  refine z_iload X 6 dL_law_1210 rfl ?_
  refine z_iconst X (1 : Int32) dL_law_1212 (by decide) ?_
  refine z_iadd X dL_law_1213 ?_
  refine z_sld X hX hb hbA dL_law_1214 hi.2.1 ?_
  obtain ⟨wc, wc', wr, hM, q1, q2, q3⟩ := m_post l D g ay y (xs (i + (1 : Int32)).toNatClampNeg) v2 y' hH
  have f2 := bk_Y (g := g) (ax := ax) (ad := ad) (qo := qo) (qd := qd) (x := x') (out := out') (od := od) q1 q2 q3
  refine z_wgV (rest := []) (ci := 12) (ws' := LW g ax ad ay qo qd x' out' od y') X k_X12_post hM ql_L_X12_post dL_law_1215 f2.1 f2.2 rfl rfl LW_y0 rfl rfl (RM.fit (dc := 4) (ds := 24) hRm (Nat.le_of_ble_eq_true rfl) (Nat.le_of_ble_eq_true rfl) rfl rfl (Nat.le_of_ble_eq_true rfl) (Nat.le_of_ble_eq_true rfl)) (Nat.le_of_ble_eq_true rfl) ?_
  refine z_istore X ((7, .int v2) :: (6, .int a) :: lv0 b ax ay qo qd i) dL_law_1218 (by decide) rfl ?_
  refine z_aload_n X 4 dL_law_1220 rfl rfl ?_
  obtain ⟨wt, wu, hT, t1⟩ := m_thrown l D g ay y'
  have f3 := bk_Y (g := g) (ax := ax) (ad := ad) (qo := qo) (qd := qd) (x := x') (out := out') (od := od) t1 t1 rfl
  refine z_rgV (rest := []) (ci := 12) X k_X12_thrown hT ql_L_X12_thrown dL_law_1221 f3.1 rfl rfl LW_y0 rfl rfl (RM.fit (dc := 4) (ds := 24) hRm (Nat.le_of_ble_eq_true rfl) (Nat.le_of_ble_eq_true rfl) rfl rfl (Nat.le_of_ble_eq_true rfl) (Nat.le_of_ble_eq_true rfl)) (Nat.le_of_ble_eq_true rfl) ?_
  refine z_iload X 1 dL_law_1224 rfl ?_
  refine z_ceT X 1231 dL_law_1226 (by decide) ht ?_
  refine z_iload X 1 dL_law_1231 rfl ?_
  have hend : Z p l e R s m args below meth c Q 9 (cells + 4) (slots + 24) (IW D A s (LW g ax ad ay qo qd x' out' od y')) 1248 ((7, .int v2) :: (6, .int a) :: lv0 b ax ay qo qd i) [] := by
    refine z_goto X 2579 dL_law_1248 (by decide) ?_
    refine z_sub (lv' := lv0 b ax ay qo qd i) [2, 3, 4, 5, 6, 7] rfl ?_
    exact kk x' out' od y' hR'
  by_cases ha : a = 0
  rotate_left
  · exact z_neT X 1248 dL_law_1233 (by decide) ha hend
  refine z_neF X 1248 dL_law_1233 (by decide) ha ?_
  refine z_aload_n X 5 dL_law_1236 rfl rfl ?_
  refine z_iconst X (0 : Int32) dL_law_1237 (by decide) ?_
  refine z_lald X IW_P dL_law_1238 LW_o (oki (i := 0) (by decide)) ?_
  refine z_iload X 0 dL_law_1239 rfl ?_
  refine z_i2l X dL_law_1241 ?_
  refine z_lcmpE X dL_law_1242 (hv ha) ?_
  exact z_eqT X 1248 dL_law_1243 (by decide) rfl hend
theorem k_L_dropPost : cardS yL_dropPost (Cond.codeWith yL_dropPost cL_dropPost 4 (some .int) [(0, 9, 12, 21)]) 3 := ⟨qs_L_dropPost, qw_L_dropPost, qn_L, by decide +kernel, by decide +kernel, by decide +kernel⟩
set_option maxHeartbeats 1000000 in
set_option maxRecDepth 100000 in
theorem lb_dropPost (B : LB p l s m args meth c D g ak av aS A b L xs) (hRm : RM R cells slots) (hR : Rel t x y) (h0 : 0 ≤ t) (h1 : t < 800000) {i : Int32} (hi : II i L) (kk : ∀ x' out' od' y', Rel (t + 300) x' y' → Z p l e R s m args below meth c Q 9 (cells + 4) (slots + 24) (IW D A s (LW g ax ad ay qo qd x' out' od' y')) 2579 (lv0 b ax ay qo qd i) []) : Z p l e R s m args below meth c Q 9 cells slots (IW D A s (LW g ax ad ay qo qd x out od y)) 1251 (lv0 b ax ay qo qd i) [] := by
  obtain ⟨X, hE, hA, hX, hb, hbA, hfl⟩ := B
  obtain ⟨a, x', out', v2, y', hF, hH, ht, hv, hR'⟩ := fl_dropPost hR h0 h1 (xs (i + (1 : Int32)).toNatClampNeg) out
  refine z_aload_n X 1 dL_law_1251 rfl rfl ?_
  refine z_aload_n X 0 dL_law_1252 rfl rfl ?_
  refine z_iload X 5 dL_law_1253 rfl ?_
  refine z_iconst X (1 : Int32) dL_law_1255 (by decide) ?_
  refine z_iadd X dL_law_1256 ?_
  refine z_sld X hX hb hbA dL_law_1257 hi.2.1 ?_
  refine z_aload_n X 3 dL_law_1258 rfl rfl ?_
  have f1 := bk_L (g := g) (ax := ax) (ad := ad) (ay := ay) (qo := qo) (qd := qd) (x := x) (x' := x') (out := out) (out' := out') (od := od) (y := y)
  refine z_mlS (rest := []) (ws' := LW g ax ad ay qo qd x' out' od y) X hE hA k_L_dropPost (c_L_dropPost l hfl ak av aS D g ad ax qo (xs (i + (1 : Int32)).toNatClampNeg) x out (a, x', out') hF) ql_L_L_dropPost dL_law_1259 f1.1 f1.2 rfl rfl (RM.fit (dc := 0) (ds := 0) hRm (Nat.le_of_ble_eq_true rfl) (Nat.le_of_ble_eq_true rfl) rfl rfl (Nat.le_of_ble_eq_true rfl) (Nat.le_of_ble_eq_true rfl)) (Nat.le_of_ble_eq_true rfl) ?_
  refine z_widen (k := cells + 4) (n := slots + 24) (Nat.add_le_add_left (Nat.le_of_ble_eq_true rfl) _) (Nat.add_le_add_left (Nat.le_of_ble_eq_true rfl) _) ?_
  refine z_istore X ((6, .int a) :: lv0 b ax ay qo qd i) dL_law_1262 (by decide) rfl ?_
  refine z_aload_n X 3 dL_law_1264 rfl rfl ?_
  refine z_aload_n X 1 dL_law_1265 rfl rfl ?_
  refine z_iload X 6 dL_law_1266 rfl ?_
  refine z_iconst X (1 : Int32) dL_law_1268 (by decide) ?_
  refine z_iadd X dL_law_1269 ?_
  refine z_sld X hX hb hbA dL_law_1270 hi.2.1 ?_
  obtain ⟨wc, wc', wr, hM, q1, q2, q3⟩ := m_dropPost l D g ay y (xs (i + (1 : Int32)).toNatClampNeg) v2 y' hH
  have f2 := bk_Y (g := g) (ax := ax) (ad := ad) (qo := qo) (qd := qd) (x := x') (out := out') (od := od) q1 q2 q3
  refine z_wgV (rest := []) (ci := 12) (ws' := LW g ax ad ay qo qd x' out' od y') X k_X12_dropPost hM ql_L_X12_dropPost dL_law_1271 f2.1 f2.2 rfl rfl LW_y0 rfl rfl (RM.fit (dc := 4) (ds := 24) hRm (Nat.le_of_ble_eq_true rfl) (Nat.le_of_ble_eq_true rfl) rfl rfl (Nat.le_of_ble_eq_true rfl) (Nat.le_of_ble_eq_true rfl)) (Nat.le_of_ble_eq_true rfl) ?_
  refine z_istore X ((7, .int v2) :: (6, .int a) :: lv0 b ax ay qo qd i) dL_law_1274 (by decide) rfl ?_
  refine z_aload_n X 4 dL_law_1276 rfl rfl ?_
  obtain ⟨wt, wu, hT, t1⟩ := m_thrown l D g ay y'
  have f3 := bk_Y (g := g) (ax := ax) (ad := ad) (qo := qo) (qd := qd) (x := x') (out := out') (od := od) t1 t1 rfl
  refine z_rgV (rest := []) (ci := 12) X k_X12_thrown hT ql_L_X12_thrown dL_law_1277 f3.1 rfl rfl LW_y0 rfl rfl (RM.fit (dc := 4) (ds := 24) hRm (Nat.le_of_ble_eq_true rfl) (Nat.le_of_ble_eq_true rfl) rfl rfl (Nat.le_of_ble_eq_true rfl) (Nat.le_of_ble_eq_true rfl)) (Nat.le_of_ble_eq_true rfl) ?_
  refine z_iload X 1 dL_law_1280 rfl ?_
  refine z_ceT X 1287 dL_law_1282 (by decide) ht ?_
  refine z_iload X 1 dL_law_1287 rfl ?_
  have hend : Z p l e R s m args below meth c Q 9 (cells + 4) (slots + 24) (IW D A s (LW g ax ad ay qo qd x' out' od y')) 1304 ((7, .int v2) :: (6, .int a) :: lv0 b ax ay qo qd i) [] := by
    refine z_goto X 2579 dL_law_1304 (by decide) ?_
    refine z_sub (lv' := lv0 b ax ay qo qd i) [2, 3, 4, 5, 6, 7] rfl ?_
    exact kk x' out' od y' hR'
  by_cases ha : a = 0
  rotate_left
  · exact z_neT X 1304 dL_law_1289 (by decide) ha hend
  refine z_neF X 1304 dL_law_1289 (by decide) ha ?_
  refine z_aload_n X 5 dL_law_1292 rfl rfl ?_
  refine z_iconst X (0 : Int32) dL_law_1293 (by decide) ?_
  refine z_lald X IW_P dL_law_1294 LW_o (oki (i := 0) (by decide)) ?_
  refine z_iload X 0 dL_law_1295 rfl ?_
  refine z_i2l X dL_law_1297 ?_
  refine z_lcmpE X dL_law_1298 (hv ha) ?_
  exact z_eqT X 1304 dL_law_1299 (by decide) rfl hend
theorem k_L_tell : cardS yL_tell (Cond.codeWith yL_tell cL_tell 5 (some .int) [(0, 10, 13, 21), (0, 10, 17, 13), (0, 10, 21, 15)]) 4 := ⟨qs_L_tell, qw_L_tell, qn_L, by decide +kernel, by decide +kernel, by decide +kernel⟩
set_option maxHeartbeats 1000000 in
set_option maxRecDepth 100000 in
theorem lb_tell (B : LB p l s m args meth c D g ak av aS A b L xs) (hRm : RM R cells slots) (hR : Rel t x y) (h0 : 0 ≤ t) (h1 : t < 800000) {i : Int32} (hi : II i L) (kk : ∀ x' out' od' y', Rel (t + 300) x' y' → Z p l e R s m args below meth c Q 9 (cells + 4) (slots + 24) (IW D A s (LW g ax ad ay qo qd x' out' od' y')) 2579 (lv0 b ax ay qo qd i) []) : Z p l e R s m args below meth c Q 9 cells slots (IW D A s (LW g ax ad ay qo qd x out od y)) 1307 (lv0 b ax ay qo qd i) [] := by
  obtain ⟨X, hE, hA, hX, hb, hbA, hfl⟩ := B
  obtain ⟨a, x', out', v2, y', hF, hH, ht, hv, hR'⟩ := fl_tell hR h0 h1 (xs (i + (1 : Int32)).toNatClampNeg) (xs (i + (2 : Int32)).toNatClampNeg) out
  refine z_aload_n X 1 dL_law_1307 rfl rfl ?_
  refine z_aload_n X 0 dL_law_1308 rfl rfl ?_
  refine z_iload X 5 dL_law_1309 rfl ?_
  refine z_iconst X (1 : Int32) dL_law_1311 (by decide) ?_
  refine z_iadd X dL_law_1312 ?_
  refine z_sld X hX hb hbA dL_law_1313 hi.2.1 ?_
  refine z_aload_n X 0 dL_law_1314 rfl rfl ?_
  refine z_iload X 5 dL_law_1315 rfl ?_
  refine z_iconst X (2 : Int32) dL_law_1317 (by decide) ?_
  refine z_iadd X dL_law_1318 ?_
  refine z_sld X hX hb hbA dL_law_1319 hi.2.2.1 ?_
  refine z_aload_n X 3 dL_law_1320 rfl rfl ?_
  have f1 := bk_L (g := g) (ax := ax) (ad := ad) (ay := ay) (qo := qo) (qd := qd) (x := x) (x' := x') (out := out) (out' := out') (od := od) (y := y)
  refine z_mlS (rest := []) (ws' := LW g ax ad ay qo qd x' out' od y) X hE hA k_L_tell (c_L_tell l hfl ak av aS D g ad ax qo (xs (i + (1 : Int32)).toNatClampNeg) (xs (i + (2 : Int32)).toNatClampNeg) x out (a, x', out') hF) ql_L_L_tell dL_law_1321 f1.1 f1.2 rfl rfl (RM.fit (dc := 0) (ds := 0) hRm (Nat.le_of_ble_eq_true rfl) (Nat.le_of_ble_eq_true rfl) rfl rfl (Nat.le_of_ble_eq_true rfl) (Nat.le_of_ble_eq_true rfl)) (Nat.le_of_ble_eq_true rfl) ?_
  refine z_widen (k := cells + 4) (n := slots + 24) (Nat.add_le_add_left (Nat.le_of_ble_eq_true rfl) _) (Nat.add_le_add_left (Nat.le_of_ble_eq_true rfl) _) ?_
  refine z_istore X ((6, .int a) :: lv0 b ax ay qo qd i) dL_law_1324 (by decide) rfl ?_
  refine z_aload_n X 3 dL_law_1326 rfl rfl ?_
  refine z_aload_n X 1 dL_law_1327 rfl rfl ?_
  refine z_iload X 6 dL_law_1328 rfl ?_
  refine z_iconst X (1 : Int32) dL_law_1330 (by decide) ?_
  refine z_iadd X dL_law_1331 ?_
  refine z_sld X hX hb hbA dL_law_1332 hi.2.1 ?_
  refine z_aload_n X 1 dL_law_1333 rfl rfl ?_
  refine z_iload X 6 dL_law_1334 rfl ?_
  refine z_iconst X (2 : Int32) dL_law_1336 (by decide) ?_
  refine z_iadd X dL_law_1337 ?_
  refine z_sld X hX hb hbA dL_law_1338 hi.2.2.1 ?_
  obtain ⟨wc, wc', wr, hM, q1, q2, q3⟩ := m_tell l D g ay y (xs (i + (1 : Int32)).toNatClampNeg) (xs (i + (2 : Int32)).toNatClampNeg) v2 y' hH
  have f2 := bk_Y (g := g) (ax := ax) (ad := ad) (qo := qo) (qd := qd) (x := x') (out := out') (od := od) q1 q2 q3
  refine z_wgV (rest := []) (ci := 12) (ws' := LW g ax ad ay qo qd x' out' od y') X k_X12_tell hM ql_L_X12_tell dL_law_1339 f2.1 f2.2 rfl rfl LW_y0 rfl rfl (RM.fit (dc := 4) (ds := 24) hRm (Nat.le_of_ble_eq_true rfl) (Nat.le_of_ble_eq_true rfl) rfl rfl (Nat.le_of_ble_eq_true rfl) (Nat.le_of_ble_eq_true rfl)) (Nat.le_of_ble_eq_true rfl) ?_
  refine z_istore X ((7, .int v2) :: (6, .int a) :: lv0 b ax ay qo qd i) dL_law_1342 (by decide) rfl ?_
  refine z_aload_n X 4 dL_law_1344 rfl rfl ?_
  obtain ⟨wt, wu, hT, t1⟩ := m_thrown l D g ay y'
  have f3 := bk_Y (g := g) (ax := ax) (ad := ad) (qo := qo) (qd := qd) (x := x') (out := out') (od := od) t1 t1 rfl
  refine z_rgV (rest := []) (ci := 12) X k_X12_thrown hT ql_L_X12_thrown dL_law_1345 f3.1 rfl rfl LW_y0 rfl rfl (RM.fit (dc := 4) (ds := 24) hRm (Nat.le_of_ble_eq_true rfl) (Nat.le_of_ble_eq_true rfl) rfl rfl (Nat.le_of_ble_eq_true rfl) (Nat.le_of_ble_eq_true rfl)) (Nat.le_of_ble_eq_true rfl) ?_
  refine z_iload X 1 dL_law_1348 rfl ?_
  refine z_ceT X 1355 dL_law_1350 (by decide) ht ?_
  refine z_iload X 1 dL_law_1355 rfl ?_
  have hend : Z p l e R s m args below meth c Q 9 (cells + 4) (slots + 24) (IW D A s (LW g ax ad ay qo qd x' out' od y')) 1372 ((7, .int v2) :: (6, .int a) :: lv0 b ax ay qo qd i) [] := by
    refine z_goto X 2579 dL_law_1372 (by decide) ?_
    refine z_sub (lv' := lv0 b ax ay qo qd i) [2, 3, 4, 5, 6, 7] rfl ?_
    exact kk x' out' od y' hR'
  by_cases ha : a = 0
  rotate_left
  · exact z_neT X 1372 dL_law_1357 (by decide) ha hend
  refine z_neF X 1372 dL_law_1357 (by decide) ha ?_
  refine z_aload_n X 5 dL_law_1360 rfl rfl ?_
  refine z_iconst X (0 : Int32) dL_law_1361 (by decide) ?_
  refine z_lald X IW_P dL_law_1362 LW_o (oki (i := 0) (by decide)) ?_
  refine z_iload X 0 dL_law_1363 rfl ?_
  refine z_i2l X dL_law_1365 ?_
  refine z_lcmpE X dL_law_1366 (hv ha) ?_
  exact z_eqT X 1372 dL_law_1367 (by decide) rfl hend
theorem k_L_postOf : cardS yL_postOf (Cond.codeWith yL_postOf cL_postOf 5 (some .int) [(0, 10, 13, 21), (0, 10, 17, 13), (0, 10, 21, 48)]) 4 := ⟨qs_L_postOf, qw_L_postOf, qn_L, by decide +kernel, by decide +kernel, by decide +kernel⟩
set_option maxHeartbeats 1000000 in
set_option maxRecDepth 100000 in
theorem lb_postOf (B : LB p l s m args meth c D g ak av aS A b L xs) (hRm : RM R cells slots) (hR : Rel t x y) (h0 : 0 ≤ t) (h1 : t < 800000) {i : Int32} (hi : II i L) (kk : ∀ x' out' od' y', Rel (t + 300) x' y' → Z p l e R s m args below meth c Q 9 (cells + 4) (slots + 24) (IW D A s (LW g ax ad ay qo qd x' out' od' y')) 2579 (lv0 b ax ay qo qd i) []) : Z p l e R s m args below meth c Q 9 cells slots (IW D A s (LW g ax ad ay qo qd x out od y)) 1375 (lv0 b ax ay qo qd i) [] := by
  obtain ⟨X, hE, hA, hX, hb, hbA, hfl⟩ := B
  obtain ⟨a, x', out', v2, y', hF, hH, ht, hv, hR'⟩ := fl_postOf hR h0 h1 (xs (i + (1 : Int32)).toNatClampNeg) (xs (i + (2 : Int32)).toNatClampNeg) out
  refine z_aload_n X 1 dL_law_1375 rfl rfl ?_
  refine z_aload_n X 0 dL_law_1376 rfl rfl ?_
  refine z_iload X 5 dL_law_1377 rfl ?_
  refine z_iconst X (1 : Int32) dL_law_1379 (by decide) ?_
  refine z_iadd X dL_law_1380 ?_
  refine z_sld X hX hb hbA dL_law_1381 hi.2.1 ?_
  refine z_aload_n X 0 dL_law_1382 rfl rfl ?_
  refine z_iload X 5 dL_law_1383 rfl ?_
  refine z_iconst X (2 : Int32) dL_law_1385 (by decide) ?_
  refine z_iadd X dL_law_1386 ?_
  refine z_sld X hX hb hbA dL_law_1387 hi.2.2.1 ?_
  refine z_aload_n X 3 dL_law_1388 rfl rfl ?_
  have f1 := bk_L (g := g) (ax := ax) (ad := ad) (ay := ay) (qo := qo) (qd := qd) (x := x) (x' := x') (out := out) (out' := out') (od := od) (y := y)
  refine z_mlS (rest := []) (ws' := LW g ax ad ay qo qd x' out' od y) X hE hA k_L_postOf (c_L_postOf l hfl ak av aS D g ad ax qo (xs (i + (1 : Int32)).toNatClampNeg) (xs (i + (2 : Int32)).toNatClampNeg) x out (a, x', out') hF) ql_L_L_postOf dL_law_1389 f1.1 f1.2 rfl rfl (RM.fit (dc := 0) (ds := 0) hRm (Nat.le_of_ble_eq_true rfl) (Nat.le_of_ble_eq_true rfl) rfl rfl (Nat.le_of_ble_eq_true rfl) (Nat.le_of_ble_eq_true rfl)) (Nat.le_of_ble_eq_true rfl) ?_
  refine z_widen (k := cells + 4) (n := slots + 24) (Nat.add_le_add_left (Nat.le_of_ble_eq_true rfl) _) (Nat.add_le_add_left (Nat.le_of_ble_eq_true rfl) _) ?_
  refine z_istore X ((6, .int a) :: lv0 b ax ay qo qd i) dL_law_1392 (by decide) rfl ?_
  refine z_aload_n X 3 dL_law_1394 rfl rfl ?_
  refine z_aload_n X 1 dL_law_1395 rfl rfl ?_
  refine z_iload X 6 dL_law_1396 rfl ?_
  refine z_iconst X (1 : Int32) dL_law_1398 (by decide) ?_
  refine z_iadd X dL_law_1399 ?_
  refine z_sld X hX hb hbA dL_law_1400 hi.2.1 ?_
  refine z_aload_n X 1 dL_law_1401 rfl rfl ?_
  refine z_iload X 6 dL_law_1402 rfl ?_
  refine z_iconst X (2 : Int32) dL_law_1404 (by decide) ?_
  refine z_iadd X dL_law_1405 ?_
  refine z_sld X hX hb hbA dL_law_1406 hi.2.2.1 ?_
  obtain ⟨wc, wc', wr, hM, q1, q2, q3⟩ := m_postOf l D g ay y (xs (i + (1 : Int32)).toNatClampNeg) (xs (i + (2 : Int32)).toNatClampNeg) v2 y' hH
  have f2 := bk_Y (g := g) (ax := ax) (ad := ad) (qo := qo) (qd := qd) (x := x') (out := out') (od := od) q1 q2 q3
  refine z_wgV (rest := []) (ci := 12) (ws' := LW g ax ad ay qo qd x' out' od y') X k_X12_postOf hM ql_L_X12_postOf dL_law_1407 f2.1 f2.2 rfl rfl LW_y0 rfl rfl (RM.fit (dc := 4) (ds := 24) hRm (Nat.le_of_ble_eq_true rfl) (Nat.le_of_ble_eq_true rfl) rfl rfl (Nat.le_of_ble_eq_true rfl) (Nat.le_of_ble_eq_true rfl)) (Nat.le_of_ble_eq_true rfl) ?_
  refine z_istore X ((7, .int v2) :: (6, .int a) :: lv0 b ax ay qo qd i) dL_law_1410 (by decide) rfl ?_
  refine z_aload_n X 4 dL_law_1412 rfl rfl ?_
  obtain ⟨wt, wu, hT, t1⟩ := m_thrown l D g ay y'
  have f3 := bk_Y (g := g) (ax := ax) (ad := ad) (qo := qo) (qd := qd) (x := x') (out := out') (od := od) t1 t1 rfl
  refine z_rgV (rest := []) (ci := 12) X k_X12_thrown hT ql_L_X12_thrown dL_law_1413 f3.1 rfl rfl LW_y0 rfl rfl (RM.fit (dc := 4) (ds := 24) hRm (Nat.le_of_ble_eq_true rfl) (Nat.le_of_ble_eq_true rfl) rfl rfl (Nat.le_of_ble_eq_true rfl) (Nat.le_of_ble_eq_true rfl)) (Nat.le_of_ble_eq_true rfl) ?_
  refine z_iload X 1 dL_law_1416 rfl ?_
  refine z_ceT X 1423 dL_law_1418 (by decide) ht ?_
  refine z_iload X 1 dL_law_1423 rfl ?_
  have hend : Z p l e R s m args below meth c Q 9 (cells + 4) (slots + 24) (IW D A s (LW g ax ad ay qo qd x' out' od y')) 1440 ((7, .int v2) :: (6, .int a) :: lv0 b ax ay qo qd i) [] := by
    refine z_goto X 2579 dL_law_1440 (by decide) ?_
    refine z_sub (lv' := lv0 b ax ay qo qd i) [2, 3, 4, 5, 6, 7] rfl ?_
    exact kk x' out' od y' hR'
  by_cases ha : a = 0
  rotate_left
  · exact z_neT X 1440 dL_law_1425 (by decide) ha hend
  refine z_neF X 1440 dL_law_1425 (by decide) ha ?_
  refine z_aload_n X 5 dL_law_1428 rfl rfl ?_
  refine z_iconst X (0 : Int32) dL_law_1429 (by decide) ?_
  refine z_lald X IW_P dL_law_1430 LW_o (oki (i := 0) (by decide)) ?_
  refine z_iload X 0 dL_law_1431 rfl ?_
  refine z_i2l X dL_law_1433 ?_
  refine z_lcmpE X dL_law_1434 (hv ha) ?_
  exact z_eqT X 1440 dL_law_1435 (by decide) rfl hend
theorem k_L_fits : cardS yL_fits (Cond.codeWith yL_fits cL_fits 4 (some .int) [(0, 16, 19, 13), (0, 16, 22, 48)]) 3 := ⟨qs_L_fits, qw_L_fits, qn_L, by decide +kernel, by decide +kernel, by decide +kernel⟩
set_option maxHeartbeats 1000000 in
set_option maxRecDepth 100000 in
theorem lb_fits (B : LB p l s m args meth c D g ak av aS A b L xs) (hRm : RM R cells slots) (hR : Rel t x y) (h0 : 0 ≤ t) (h1 : t < 800000) {i : Int32} (hi : II i L) (kk : ∀ x' out' od' y', Rel (t + 300) x' y' → Z p l e R s m args below meth c Q 9 (cells + 4) (slots + 24) (IW D A s (LW g ax ad ay qo qd x' out' od' y')) 2579 (lv0 b ax ay qo qd i) []) : Z p l e R s m args below meth c Q 9 cells slots (IW D A s (LW g ax ad ay qo qd x out od y)) 1443 (lv0 b ax ay qo qd i) [] := by
  obtain ⟨X, hE, hA, hX, hb, hbA, hfl⟩ := B
  obtain ⟨a, x', out', v2, y', hF, hH, ht, hv, hR'⟩ := fl_fits hR h0 h1 (xs (i + (1 : Int32)).toNatClampNeg) out
  refine z_aload_n X 1 dL_law_1443 rfl rfl ?_
  refine z_aload_n X 0 dL_law_1444 rfl rfl ?_
  refine z_iload X 5 dL_law_1445 rfl ?_
  refine z_iconst X (1 : Int32) dL_law_1447 (by decide) ?_
  refine z_iadd X dL_law_1448 ?_
  refine z_sld X hX hb hbA dL_law_1449 hi.2.1 ?_
  refine z_aload_n X 3 dL_law_1450 rfl rfl ?_
  have f1 := bk_L (g := g) (ax := ax) (ad := ad) (ay := ay) (qo := qo) (qd := qd) (x := x) (x' := x') (out := out) (out' := out') (od := od) (y := y)
  refine z_mlS (rest := []) (ws' := LW g ax ad ay qo qd x' out' od y) X hE hA k_L_fits (c_L_fits l hfl ak av aS D g ad ax qo (xs (i + (1 : Int32)).toNatClampNeg) x out (a, x', out') hF) ql_L_L_fits dL_law_1451 f1.1 f1.2 rfl rfl (RM.fit (dc := 0) (ds := 0) hRm (Nat.le_of_ble_eq_true rfl) (Nat.le_of_ble_eq_true rfl) rfl rfl (Nat.le_of_ble_eq_true rfl) (Nat.le_of_ble_eq_true rfl)) (Nat.le_of_ble_eq_true rfl) ?_
  refine z_widen (k := cells + 4) (n := slots + 24) (Nat.add_le_add_left (Nat.le_of_ble_eq_true rfl) _) (Nat.add_le_add_left (Nat.le_of_ble_eq_true rfl) _) ?_
  refine z_istore X ((6, .int a) :: lv0 b ax ay qo qd i) dL_law_1454 (by decide) rfl ?_
  refine z_aload_n X 3 dL_law_1456 rfl rfl ?_
  refine z_aload_n X 1 dL_law_1457 rfl rfl ?_
  refine z_iload X 6 dL_law_1458 rfl ?_
  refine z_iconst X (1 : Int32) dL_law_1460 (by decide) ?_
  refine z_iadd X dL_law_1461 ?_
  refine z_sld X hX hb hbA dL_law_1462 hi.2.1 ?_
  obtain ⟨wc, wc', wr, hM, q1, q2, q3⟩ := m_fits l D g ay y (xs (i + (1 : Int32)).toNatClampNeg) v2 y' hH
  have f2 := bk_Y (g := g) (ax := ax) (ad := ad) (qo := qo) (qd := qd) (x := x') (out := out') (od := od) q1 q2 q3
  refine z_wgV (rest := []) (ci := 12) (ws' := LW g ax ad ay qo qd x' out' od y') X k_X12_fits hM ql_L_X12_fits dL_law_1463 f2.1 f2.2 rfl rfl LW_y0 rfl rfl (RM.fit (dc := 4) (ds := 24) hRm (Nat.le_of_ble_eq_true rfl) (Nat.le_of_ble_eq_true rfl) rfl rfl (Nat.le_of_ble_eq_true rfl) (Nat.le_of_ble_eq_true rfl)) (Nat.le_of_ble_eq_true rfl) ?_
  refine z_istore X ((7, .int v2) :: (6, .int a) :: lv0 b ax ay qo qd i) dL_law_1466 (by decide) rfl ?_
  refine z_aload_n X 4 dL_law_1468 rfl rfl ?_
  obtain ⟨wt, wu, hT, t1⟩ := m_thrown l D g ay y'
  have f3 := bk_Y (g := g) (ax := ax) (ad := ad) (qo := qo) (qd := qd) (x := x') (out := out') (od := od) t1 t1 rfl
  refine z_rgV (rest := []) (ci := 12) X k_X12_thrown hT ql_L_X12_thrown dL_law_1469 f3.1 rfl rfl LW_y0 rfl rfl (RM.fit (dc := 4) (ds := 24) hRm (Nat.le_of_ble_eq_true rfl) (Nat.le_of_ble_eq_true rfl) rfl rfl (Nat.le_of_ble_eq_true rfl) (Nat.le_of_ble_eq_true rfl)) (Nat.le_of_ble_eq_true rfl) ?_
  refine z_iload X 1 dL_law_1472 rfl ?_
  refine z_ceT X 1479 dL_law_1474 (by decide) ht ?_
  refine z_iload X 1 dL_law_1479 rfl ?_
  have hend : Z p l e R s m args below meth c Q 9 (cells + 4) (slots + 24) (IW D A s (LW g ax ad ay qo qd x' out' od y')) 1503 ((7, .int v2) :: (6, .int a) :: lv0 b ax ay qo qd i) [] := by
    refine z_goto X 2579 dL_law_1503 (by decide) ?_
    refine z_sub (lv' := lv0 b ax ay qo qd i) [2, 3, 4, 5, 6, 7] rfl ?_
    exact kk x' out' od y' hR'
  by_cases ha : a = 0
  rotate_left
  · exact z_neT X 1503 dL_law_1481 (by decide) ha hend
  refine z_neF X 1503 dL_law_1481 (by decide) ha ?_
  refine z_aload_n X 5 dL_law_1484 rfl rfl ?_
  refine z_iconst X (0 : Int32) dL_law_1485 (by decide) ?_
  refine z_lald X IW_P dL_law_1486 LW_o (oki (i := 0) (by decide)) ?_
  refine z_iload X 0 dL_law_1487 rfl ?_
  by_cases hw : v2 = 0
  · refine z_eqT X 1496 dL_law_1489 (by decide) hw ?_
    refine z_lconst 0 X dL_law_1496 rfl ?_
    refine z_lcmpE X dL_law_1497 ((hv ha).trans (if_pos hw)) ?_
    exact z_eqT X 1503 dL_law_1498 (by decide) rfl hend
  · refine z_eqF X 1496 dL_law_1489 (by decide) hw ?_
    refine z_lconst 1 X dL_law_1492 rfl ?_
    refine z_goto X 1497 dL_law_1493 (by decide) ?_
    refine z_lcmpE X dL_law_1497 ((hv ha).trans (if_neg hw)) ?_
    exact z_eqT X 1503 dL_law_1498 (by decide) rfl hend
theorem k_L_fitting : cardS yL_fitting (Cond.codeWith yL_fitting cL_fitting 4 (some .int) [(0, 9, 12, 48)]) 3 := ⟨qs_L_fitting, qw_L_fitting, qn_L, by decide +kernel, by decide +kernel, by decide +kernel⟩
set_option maxHeartbeats 1000000 in
set_option maxRecDepth 100000 in
theorem lb_fitting (B : LB p l s m args meth c D g ak av aS A b L xs) (hRm : RM R cells slots) (hR : Rel t x y) (h0 : 0 ≤ t) (h1 : t < 800000) {i : Int32} (hi : II i L) (kk : ∀ x' out' od' y', Rel (t + 300) x' y' → Z p l e R s m args below meth c Q 9 (cells + 4) (slots + 24) (IW D A s (LW g ax ad ay qo qd x' out' od' y')) 2579 (lv0 b ax ay qo qd i) []) : Z p l e R s m args below meth c Q 9 cells slots (IW D A s (LW g ax ad ay qo qd x out od y)) 1506 (lv0 b ax ay qo qd i) [] := by
  obtain ⟨X, hE, hA, hX, hb, hbA, hfl⟩ := B
  by_cases hz : (xs (i + (1 : Int32)).toNatClampNeg) = 0
  · obtain ⟨a, x', out', v2, y', hF, hH, ht, hv, hR'⟩ := fl_fitting hR h0 h1 (0 : Int32) out
    refine z_aload_n X 1 dL_law_1506 rfl rfl ?_
    refine z_aload_n X 0 dL_law_1507 rfl rfl ?_
    refine z_iload X 5 dL_law_1508 rfl ?_
    refine z_iconst X (1 : Int32) dL_law_1510 (by decide) ?_
    refine z_iadd X dL_law_1511 ?_
    refine z_sld X hX hb hbA dL_law_1512 hi.2.1 ?_
    refine z_eqT X 1520 dL_law_1513 (by decide) hz ?_
    refine z_iconst X (0 : Int32) dL_law_1520 (by decide) ?_
    refine z_aload_n X 3 dL_law_1521 rfl rfl ?_
    have f1 := bk_L (g := g) (ax := ax) (ad := ad) (ay := ay) (qo := qo) (qd := qd) (x := x) (x' := x') (out := out) (out' := out') (od := od) (y := y)
    refine z_mlS (rest := []) (ws' := LW g ax ad ay qo qd x' out' od y) X hE hA k_L_fitting (c_L_fitting l hfl ak av aS D g ad ax qo (0 : Int32) x out (a, x', out') hF) ql_L_L_fitting dL_law_1522 f1.1 f1.2 rfl rfl (RM.fit (dc := 0) (ds := 0) hRm (Nat.le_of_ble_eq_true rfl) (Nat.le_of_ble_eq_true rfl) rfl rfl (Nat.le_of_ble_eq_true rfl) (Nat.le_of_ble_eq_true rfl)) (Nat.le_of_ble_eq_true rfl) ?_
    refine z_widen (k := cells + 4) (n := slots + 24) (Nat.add_le_add_left (Nat.le_of_ble_eq_true rfl) _) (Nat.add_le_add_left (Nat.le_of_ble_eq_true rfl) _) ?_
    refine z_istore X ((6, .int a) :: lv0 b ax ay qo qd i) dL_law_1525 (by decide) rfl ?_
    refine z_aload_n X 3 dL_law_1527 rfl rfl ?_
    refine z_aload_n X 1 dL_law_1528 rfl rfl ?_
    refine z_iload X 6 dL_law_1529 rfl ?_
    refine z_iconst X (1 : Int32) dL_law_1531 (by decide) ?_
    refine z_iadd X dL_law_1532 ?_
    refine z_sld X hX hb hbA dL_law_1533 hi.2.1 ?_
    refine z_eqT X 1541 dL_law_1534 (by decide) hz ?_
    refine z_iconst X (0 : Int32) dL_law_1541 (by decide) ?_
    obtain ⟨wc, wc', wr, hM, q1, q2, q3⟩ := m_fitting l D g ay y (0 : Int32) v2 y' hH
    have f2 := bk_Y (g := g) (ax := ax) (ad := ad) (qo := qo) (qd := qd) (x := x') (out := out') (od := od) q1 q2 q3
    refine z_wgV (rest := []) (ci := 12) (ws' := LW g ax ad ay qo qd x' out' od y') X k_X12_fitting hM ql_L_X12_fitting dL_law_1542 f2.1 f2.2 rfl rfl LW_y0 rfl rfl (RM.fit (dc := 4) (ds := 24) hRm (Nat.le_of_ble_eq_true rfl) (Nat.le_of_ble_eq_true rfl) rfl rfl (Nat.le_of_ble_eq_true rfl) (Nat.le_of_ble_eq_true rfl)) (Nat.le_of_ble_eq_true rfl) ?_
    refine z_istore X ((7, .int v2) :: (6, .int a) :: lv0 b ax ay qo qd i) dL_law_1545 (by decide) rfl ?_
    refine z_aload_n X 4 dL_law_1547 rfl rfl ?_
    obtain ⟨wt, wu, hT, t1⟩ := m_thrown l D g ay y'
    have f3 := bk_Y (g := g) (ax := ax) (ad := ad) (qo := qo) (qd := qd) (x := x') (out := out') (od := od) t1 t1 rfl
    refine z_rgV (rest := []) (ci := 12) X k_X12_thrown hT ql_L_X12_thrown dL_law_1548 f3.1 rfl rfl LW_y0 rfl rfl (RM.fit (dc := 4) (ds := 24) hRm (Nat.le_of_ble_eq_true rfl) (Nat.le_of_ble_eq_true rfl) rfl rfl (Nat.le_of_ble_eq_true rfl) (Nat.le_of_ble_eq_true rfl)) (Nat.le_of_ble_eq_true rfl) ?_
    refine z_iload X 1 dL_law_1551 rfl ?_
    refine z_ceT X 1558 dL_law_1553 (by decide) ht ?_
    refine z_iload X 1 dL_law_1558 rfl ?_
    have hend : Z p l e R s m args below meth c Q 9 (cells + 4) (slots + 24) (IW D A s (LW g ax ad ay qo qd x' out' od y')) 1575 ((7, .int v2) :: (6, .int a) :: lv0 b ax ay qo qd i) [] := by
      refine z_goto X 2579 dL_law_1575 (by decide) ?_
      refine z_sub (lv' := lv0 b ax ay qo qd i) [2, 3, 4, 5, 6, 7] rfl ?_
      exact kk x' out' od y' hR'
    by_cases ha : a = 0
    rotate_left
    · exact z_neT X 1575 dL_law_1560 (by decide) ha hend
    refine z_neF X 1575 dL_law_1560 (by decide) ha ?_
    refine z_aload_n X 5 dL_law_1563 rfl rfl ?_
    refine z_iconst X (0 : Int32) dL_law_1564 (by decide) ?_
    refine z_lald X IW_P dL_law_1565 LW_o (oki (i := 0) (by decide)) ?_
    refine z_iload X 0 dL_law_1566 rfl ?_
    refine z_i2l X dL_law_1568 ?_
    refine z_lcmpE X dL_law_1569 (hv ha) ?_
    exact z_eqT X 1575 dL_law_1570 (by decide) rfl hend
  · obtain ⟨a, x', out', v2, y', hF, hH, ht, hv, hR'⟩ := fl_fitting hR h0 h1 (1 : Int32) out
    refine z_aload_n X 1 dL_law_1506 rfl rfl ?_
    refine z_aload_n X 0 dL_law_1507 rfl rfl ?_
    refine z_iload X 5 dL_law_1508 rfl ?_
    refine z_iconst X (1 : Int32) dL_law_1510 (by decide) ?_
    refine z_iadd X dL_law_1511 ?_
    refine z_sld X hX hb hbA dL_law_1512 hi.2.1 ?_
    refine z_eqF X 1520 dL_law_1513 (by decide) hz ?_
    refine z_iconst X (1 : Int32) dL_law_1516 (by decide) ?_
    refine z_goto X 1521 dL_law_1517 (by decide) ?_
    refine z_aload_n X 3 dL_law_1521 rfl rfl ?_
    have f1 := bk_L (g := g) (ax := ax) (ad := ad) (ay := ay) (qo := qo) (qd := qd) (x := x) (x' := x') (out := out) (out' := out') (od := od) (y := y)
    refine z_mlS (rest := []) (ws' := LW g ax ad ay qo qd x' out' od y) X hE hA k_L_fitting (c_L_fitting l hfl ak av aS D g ad ax qo (1 : Int32) x out (a, x', out') hF) ql_L_L_fitting dL_law_1522 f1.1 f1.2 rfl rfl (RM.fit (dc := 0) (ds := 0) hRm (Nat.le_of_ble_eq_true rfl) (Nat.le_of_ble_eq_true rfl) rfl rfl (Nat.le_of_ble_eq_true rfl) (Nat.le_of_ble_eq_true rfl)) (Nat.le_of_ble_eq_true rfl) ?_
    refine z_widen (k := cells + 4) (n := slots + 24) (Nat.add_le_add_left (Nat.le_of_ble_eq_true rfl) _) (Nat.add_le_add_left (Nat.le_of_ble_eq_true rfl) _) ?_
    refine z_istore X ((6, .int a) :: lv0 b ax ay qo qd i) dL_law_1525 (by decide) rfl ?_
    refine z_aload_n X 3 dL_law_1527 rfl rfl ?_
    refine z_aload_n X 1 dL_law_1528 rfl rfl ?_
    refine z_iload X 6 dL_law_1529 rfl ?_
    refine z_iconst X (1 : Int32) dL_law_1531 (by decide) ?_
    refine z_iadd X dL_law_1532 ?_
    refine z_sld X hX hb hbA dL_law_1533 hi.2.1 ?_
    refine z_eqF X 1541 dL_law_1534 (by decide) hz ?_
    refine z_iconst X (1 : Int32) dL_law_1537 (by decide) ?_
    refine z_goto X 1542 dL_law_1538 (by decide) ?_
    obtain ⟨wc, wc', wr, hM, q1, q2, q3⟩ := m_fitting l D g ay y (1 : Int32) v2 y' hH
    have f2 := bk_Y (g := g) (ax := ax) (ad := ad) (qo := qo) (qd := qd) (x := x') (out := out') (od := od) q1 q2 q3
    refine z_wgV (rest := []) (ci := 12) (ws' := LW g ax ad ay qo qd x' out' od y') X k_X12_fitting hM ql_L_X12_fitting dL_law_1542 f2.1 f2.2 rfl rfl LW_y0 rfl rfl (RM.fit (dc := 4) (ds := 24) hRm (Nat.le_of_ble_eq_true rfl) (Nat.le_of_ble_eq_true rfl) rfl rfl (Nat.le_of_ble_eq_true rfl) (Nat.le_of_ble_eq_true rfl)) (Nat.le_of_ble_eq_true rfl) ?_
    refine z_istore X ((7, .int v2) :: (6, .int a) :: lv0 b ax ay qo qd i) dL_law_1545 (by decide) rfl ?_
    refine z_aload_n X 4 dL_law_1547 rfl rfl ?_
    obtain ⟨wt, wu, hT, t1⟩ := m_thrown l D g ay y'
    have f3 := bk_Y (g := g) (ax := ax) (ad := ad) (qo := qo) (qd := qd) (x := x') (out := out') (od := od) t1 t1 rfl
    refine z_rgV (rest := []) (ci := 12) X k_X12_thrown hT ql_L_X12_thrown dL_law_1548 f3.1 rfl rfl LW_y0 rfl rfl (RM.fit (dc := 4) (ds := 24) hRm (Nat.le_of_ble_eq_true rfl) (Nat.le_of_ble_eq_true rfl) rfl rfl (Nat.le_of_ble_eq_true rfl) (Nat.le_of_ble_eq_true rfl)) (Nat.le_of_ble_eq_true rfl) ?_
    refine z_iload X 1 dL_law_1551 rfl ?_
    refine z_ceT X 1558 dL_law_1553 (by decide) ht ?_
    refine z_iload X 1 dL_law_1558 rfl ?_
    have hend : Z p l e R s m args below meth c Q 9 (cells + 4) (slots + 24) (IW D A s (LW g ax ad ay qo qd x' out' od y')) 1575 ((7, .int v2) :: (6, .int a) :: lv0 b ax ay qo qd i) [] := by
      refine z_goto X 2579 dL_law_1575 (by decide) ?_
      refine z_sub (lv' := lv0 b ax ay qo qd i) [2, 3, 4, 5, 6, 7] rfl ?_
      exact kk x' out' od y' hR'
    by_cases ha : a = 0
    rotate_left
    · exact z_neT X 1575 dL_law_1560 (by decide) ha hend
    refine z_neF X 1575 dL_law_1560 (by decide) ha ?_
    refine z_aload_n X 5 dL_law_1563 rfl rfl ?_
    refine z_iconst X (0 : Int32) dL_law_1564 (by decide) ?_
    refine z_lald X IW_P dL_law_1565 LW_o (oki (i := 0) (by decide)) ?_
    refine z_iload X 0 dL_law_1566 rfl ?_
    refine z_i2l X dL_law_1568 ?_
    refine z_lcmpE X dL_law_1569 (hv ha) ?_
    exact z_eqT X 1575 dL_law_1570 (by decide) rfl hend
end LC10
