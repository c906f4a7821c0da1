/-! ===== the law: cases 20 to 29 ===== -/
section LC20
variable {p : Program} {l : Launch} {e : Env} {R : Room} {s : State} {m : MethodId} {args : Array Value} {below : List Frame} {meth : Method} {c : Code} {Q : State → Prop} {cells slots : Nat} {D : va_G} {g : Nat → ClassId} {A : Nat → Prop} {ak av : Nat → Nat} {aS b L : Nat} {xs : Nat → Int32} {ax ay : Nat → Nat} {ad : Nat → Nat → Nat} {qo qd : Nat} {x : XVal} {y : MVal} {out : Nat → Int64} {od : Nat → UInt64} {t : Int}
theorem k_L_fix : cardS yL_fix (Cond.codeWith yL_fix cL_fix 4 (some .int) [(0, 9, 12, 48)]) 3 := ⟨qs_L_fix, qw_L_fix, qn_L, by decide +kernel, by decide +kernel, by decide +kernel⟩
set_option maxHeartbeats 1000000 in
set_option maxRecDepth 100000 in
theorem lb_fix (B : LB p l s m args meth c D g ak av aS A b L xs) (hRm : RM R cells slots) (hR : Rel t x y) (h0 : 0 ≤ t) (h1 : t < 800000) {i : Int32} (hi : II i L) (kk : ∀ x' out' od' y', Rel (t + 300) x' y' → Z p l e R s m args below meth c Q 9 (cells + 4) (slots + 24) (IW D A s (LW g ax ad ay qo qd x' out' od' y')) 2579 (lv0 b ax ay qo qd i) []) : Z p l e R s m args below meth c Q 9 cells slots (IW D A s (LW g ax ad ay qo qd x out od y)) 1578 (lv0 b ax ay qo qd i) [] := by
  obtain ⟨X, hE, hA, hX, hb, hbA, hfl⟩ := B
  obtain ⟨a, x', out', v2, y', hF, hH, ht, hv, hR'⟩ := fl_fix hR h0 h1 (xs (i + (1 : Int32)).toNatClampNeg) out
  refine z_aload_n X 1 dL_law_1578 rfl rfl ?_
  refine z_aload_n X 0 dL_law_1579 rfl rfl ?_
  refine z_iload X 5 dL_law_1580 rfl ?_
  refine z_iconst X (1 : Int32) dL_law_1582 (by decide) ?_
  refine z_iadd X dL_law_1583 ?_
  refine z_sld X hX hb hbA dL_law_1584 hi.2.1 ?_
  refine z_aload_n X 3 dL_law_1585 rfl rfl ?_
  have f1 := bk_L (g := g) (ax := ax) (ad := ad) (ay := ay) (qo := qo) (qd := qd) (x := x) (x' := x') (out := out) (out' := out') (od := od) (y := y)
  refine z_mlS (rest := []) (ws' := LW g ax ad ay qo qd x' out' od y) X hE hA k_L_fix (c_L_fix l hfl ak av aS D g ad ax qo (xs (i + (1 : Int32)).toNatClampNeg) x out (a, x', out') hF) ql_L_L_fix dL_law_1586 f1.1 f1.2 rfl rfl (RM.fit (dc := 0) (ds := 0) hRm (Nat.le_of_ble_eq_true rfl) (Nat.le_of_ble_eq_true rfl) rfl rfl (Nat.le_of_ble_eq_true rfl) (Nat.le_of_ble_eq_true rfl)) (Nat.le_of_ble_eq_true rfl) ?_
  refine z_widen (k := cells + 4) (n := slots + 24) (Nat.add_le_add_left (Nat.le_of_ble_eq_true rfl) _) (Nat.add_le_add_left (Nat.le_of_ble_eq_true rfl) _) ?_
  refine z_istore X ((6, .int a) :: lv0 b ax ay qo qd i) dL_law_1589 (by decide) rfl ?_
  refine z_aload_n X 3 dL_law_1591 rfl rfl ?_
  refine z_aload_n X 1 dL_law_1592 rfl rfl ?_
  refine z_iload X 6 dL_law_1593 rfl ?_
  refine z_iconst X (1 : Int32) dL_law_1595 (by decide) ?_
  refine z_iadd X dL_law_1596 ?_
  refine z_sld X hX hb hbA dL_law_1597 hi.2.1 ?_
  obtain ⟨wc, wc', wr, hM, q1, q2, q3⟩ := m_fix l D g ay y (xs (i + (1 : Int32)).toNatClampNeg) v2 y' hH
  have f2 := bk_Y (g := g) (ax := ax) (ad := ad) (qo := qo) (qd := qd) (x := x') (out := out') (od := od) q1 q2 q3
  refine z_wgV (rest := []) (ci := 12) (ws' := LW g ax ad ay qo qd x' out' od y') X k_X12_fix hM ql_L_X12_fix dL_law_1598 f2.1 f2.2 rfl rfl LW_y0 rfl rfl (RM.fit (dc := 4) (ds := 24) hRm (Nat.le_of_ble_eq_true rfl) (Nat.le_of_ble_eq_true rfl) rfl rfl (Nat.le_of_ble_eq_true rfl) (Nat.le_of_ble_eq_true rfl)) (Nat.le_of_ble_eq_true rfl) ?_
  refine z_istore X ((7, .int v2) :: (6, .int a) :: lv0 b ax ay qo qd i) dL_law_1601 (by decide) rfl ?_
  refine z_aload_n X 4 dL_law_1603 rfl rfl ?_
  obtain ⟨wt, wu, hT, t1⟩ := m_thrown l D g ay y'
  have f3 := bk_Y (g := g) (ax := ax) (ad := ad) (qo := qo) (qd := qd) (x := x') (out := out') (od := od) t1 t1 rfl
  refine z_rgV (rest := []) (ci := 12) X k_X12_thrown hT ql_L_X12_thrown dL_law_1604 f3.1 rfl rfl LW_y0 rfl rfl (RM.fit (dc := 4) (ds := 24) hRm (Nat.le_of_ble_eq_true rfl) (Nat.le_of_ble_eq_true rfl) rfl rfl (Nat.le_of_ble_eq_true rfl) (Nat.le_of_ble_eq_true rfl)) (Nat.le_of_ble_eq_true rfl) ?_
  refine z_iload X 1 dL_law_1607 rfl ?_
  refine z_ceT X 1614 dL_law_1609 (by decide) ht ?_
  refine z_iload X 1 dL_law_1614 rfl ?_
  have hend : Z p l e R s m args below meth c Q 9 (cells + 4) (slots + 24) (IW D A s (LW g ax ad ay qo qd x' out' od y')) 1631 ((7, .int v2) :: (6, .int a) :: lv0 b ax ay qo qd i) [] := by
    refine z_goto X 2579 dL_law_1631 (by decide) ?_
    refine z_sub (lv' := lv0 b ax ay qo qd i) [2, 3, 4, 5, 6, 7] rfl ?_
    exact kk x' out' od y' hR'
  by_cases ha : a = 0
  rotate_left
  · exact z_neT X 1631 dL_law_1616 (by decide) ha hend
  refine z_neF X 1631 dL_law_1616 (by decide) ha ?_
  refine z_aload_n X 5 dL_law_1619 rfl rfl ?_
  refine z_iconst X (0 : Int32) dL_law_1620 (by decide) ?_
  refine z_lald X IW_P dL_law_1621 LW_o (oki (i := 0) (by decide)) ?_
  refine z_iload X 0 dL_law_1622 rfl ?_
  refine z_i2l X dL_law_1624 ?_
  refine z_lcmpE X dL_law_1625 (hv ha) ?_
  exact z_eqT X 1631 dL_law_1626 (by decide) rfl hend
theorem k_L_apart : cardS yL_apart (Cond.codeWith yL_apart cL_apart 5 (some .int) [(0, 10, 13, 13)]) 4 := ⟨qs_L_apart, qw_L_apart, qn_L, by decide +kernel, by decide +kernel, by decide +kernel⟩
set_option maxHeartbeats 1000000 in
set_option maxRecDepth 100000 in
theorem lb_apart (B : LB p l s m args meth c D g ak av aS A b L xs) (hRm : RM R cells slots) (hR : Rel t x y) (h0 : 0 ≤ t) (h1 : t < 800000) {i : Int32} (hi : II i L) (kk : ∀ x' out' od' y', Rel (t + 300) x' y' → Z p l e R s m args below meth c Q 9 (cells + 4) (slots + 24) (IW D A s (LW g ax ad ay qo qd x' out' od' y')) 2579 (lv0 b ax ay qo qd i) []) : Z p l e R s m args below meth c Q 9 cells slots (IW D A s (LW g ax ad ay qo qd x out od y)) 1634 (lv0 b ax ay qo qd i) [] := by
  obtain ⟨X, hE, hA, hX, hb, hbA, hfl⟩ := B
  obtain ⟨a, x', out', v2, y', hF, hH, ht, hv, hR'⟩ := fl_apart hR h0 h1 (xs (i + (1 : Int32)).toNatClampNeg) (xs (i + (2 : Int32)).toNatClampNeg) out
  refine z_aload_n X 1 dL_law_1634 rfl rfl ?_
  refine z_aload_n X 0 dL_law_1635 rfl rfl ?_
  refine z_iload X 5 dL_law_1636 rfl ?_
  refine z_iconst X (1 : Int32) dL_law_1638 (by decide) ?_
  refine z_iadd X dL_law_1639 ?_
  refine z_sld X hX hb hbA dL_law_1640 hi.2.1 ?_
  refine z_aload_n X 0 dL_law_1641 rfl rfl ?_
  refine z_iload X 5 dL_law_1642 rfl ?_
  refine z_iconst X (2 : Int32) dL_law_1644 (by decide) ?_
  refine z_iadd X dL_law_1645 ?_
  refine z_sld X hX hb hbA dL_law_1646 hi.2.2.1 ?_
  refine z_aload_n X 3 dL_law_1647 rfl rfl ?_
  have f1 := bk_L (g := g) (ax := ax) (ad := ad) (ay := ay) (qo := qo) (qd := qd) (x := x) (x' := x') (out := out) (out' := out') (od := od) (y := y)
  refine z_mlS (rest := []) (ws' := LW g ax ad ay qo qd x' out' od y) X hE hA k_L_apart (c_L_apart l hfl ak av aS D g ad ax qo (xs (i + (1 : Int32)).toNatClampNeg) (xs (i + (2 : Int32)).toNatClampNeg) x out (a, x', out') hF) ql_L_L_apart dL_law_1648 f1.1 f1.2 rfl rfl (RM.fit (dc := 0) (ds := 0) hRm (Nat.le_of_ble_eq_true rfl) (Nat.le_of_ble_eq_true rfl) rfl rfl (Nat.le_of_ble_eq_true rfl) (Nat.le_of_ble_eq_true rfl)) (Nat.le_of_ble_eq_true rfl) ?_
  refine z_widen (k := cells + 4) (n := slots + 24) (Nat.add_le_add_left (Nat.le_of_ble_eq_true rfl) _) (Nat.add_le_add_left (Nat.le_of_ble_eq_true rfl) _) ?_
  refine z_istore X ((6, .int a) :: lv0 b ax ay qo qd i) dL_law_1651 (by decide) rfl ?_
  refine z_aload_n X 3 dL_law_1653 rfl rfl ?_
  refine z_aload_n X 1 dL_law_1654 rfl rfl ?_
  refine z_iload X 6 dL_law_1655 rfl ?_
  refine z_iconst X (1 : Int32) dL_law_1657 (by decide) ?_
  refine z_iadd X dL_law_1658 ?_
  refine z_sld X hX hb hbA dL_law_1659 hi.2.1 ?_
  refine z_aload_n X 1 dL_law_1660 rfl rfl ?_
  refine z_iload X 6 dL_law_1661 rfl ?_
  refine z_iconst X (2 : Int32) dL_law_1663 (by decide) ?_
  refine z_iadd X dL_law_1664 ?_
  refine z_sld X hX hb hbA dL_law_1665 hi.2.2.1 ?_
  obtain ⟨wc, wc', wr, hM, q1, q2, q3⟩ := m_apart l D g ay y (xs (i + (1 : Int32)).toNatClampNeg) (xs (i + (2 : Int32)).toNatClampNeg) v2 y' hH
  have f2 := bk_Y (g := g) (ax := ax) (ad := ad) (qo := qo) (qd := qd) (x := x') (out := out') (od := od) q1 q2 q3
  refine z_wgV (rest := []) (ci := 12) (ws' := LW g ax ad ay qo qd x' out' od y') X k_X12_apart hM ql_L_X12_apart dL_law_1666 f2.1 f2.2 rfl rfl LW_y0 rfl rfl (RM.fit (dc := 4) (ds := 24) hRm (Nat.le_of_ble_eq_true rfl) (Nat.le_of_ble_eq_true rfl) rfl rfl (Nat.le_of_ble_eq_true rfl) (Nat.le_of_ble_eq_true rfl)) (Nat.le_of_ble_eq_true rfl) ?_
  refine z_istore X ((7, .int v2) :: (6, .int a) :: lv0 b ax ay qo qd i) dL_law_1669 (by decide) rfl ?_
  refine z_aload_n X 4 dL_law_1671 rfl rfl ?_
  obtain ⟨wt, wu, hT, t1⟩ := m_thrown l D g ay y'
  have f3 := bk_Y (g := g) (ax := ax) (ad := ad) (qo := qo) (qd := qd) (x := x') (out := out') (od := od) t1 t1 rfl
  refine z_rgV (rest := []) (ci := 12) X k_X12_thrown hT ql_L_X12_thrown dL_law_1672 f3.1 rfl rfl LW_y0 rfl rfl (RM.fit (dc := 4) (ds := 24) hRm (Nat.le_of_ble_eq_true rfl) (Nat.le_of_ble_eq_true rfl) rfl rfl (Nat.le_of_ble_eq_true rfl) (Nat.le_of_ble_eq_true rfl)) (Nat.le_of_ble_eq_true rfl) ?_
  refine z_iload X 1 dL_law_1675 rfl ?_
  refine z_ceT X 1682 dL_law_1677 (by decide) ht ?_
  refine z_iload X 1 dL_law_1682 rfl ?_
  have hend : Z p l e R s m args below meth c Q 9 (cells + 4) (slots + 24) (IW D A s (LW g ax ad ay qo qd x' out' od y')) 1699 ((7, .int v2) :: (6, .int a) :: lv0 b ax ay qo qd i) [] := by
    refine z_goto X 2579 dL_law_1699 (by decide) ?_
    refine z_sub (lv' := lv0 b ax ay qo qd i) [2, 3, 4, 5, 6, 7] rfl ?_
    exact kk x' out' od y' hR'
  by_cases ha : a = 0
  rotate_left
  · exact z_neT X 1699 dL_law_1684 (by decide) ha hend
  refine z_neF X 1699 dL_law_1684 (by decide) ha ?_
  refine z_aload_n X 5 dL_law_1687 rfl rfl ?_
  refine z_iconst X (0 : Int32) dL_law_1688 (by decide) ?_
  refine z_lald X IW_P dL_law_1689 LW_o (oki (i := 0) (by decide)) ?_
  refine z_iload X 0 dL_law_1690 rfl ?_
  refine z_i2l X dL_law_1692 ?_
  refine z_lcmpE X dL_law_1693 (hv ha) ?_
  exact z_eqT X 1699 dL_law_1694 (by decide) rfl hend
theorem k_L_way : cardS yL_way (Cond.codeWith yL_way cL_way 6 (some .int) [(0, 12, 15, 13), (0, 12, 19, 48)]) 5 := ⟨qs_L_way, qw_L_way, qn_L, by decide +kernel, by decide +kernel, by decide +kernel⟩
set_option maxHeartbeats 1000000 in
set_option maxRecDepth 100000 in
theorem lb_way (B : LB p l s m args meth c D g ak av aS A b L xs) (hRm : RM R cells slots) (hR : Rel t x y) (h0 : 0 ≤ t) (h1 : t < 800000) {i : Int32} (hi : II i L) (kk : ∀ x' out' od' y', Rel (t + 300) x' y' → Z p l e R s m args below meth c Q 9 (cells + 4) (slots + 24) (IW D A s (LW g ax ad ay qo qd x' out' od' y')) 2579 (lv0 b ax ay qo qd i) []) : Z p l e R s m args below meth c Q 9 cells slots (IW D A s (LW g ax ad ay qo qd x out od y)) 1702 (lv0 b ax ay qo qd i) [] := by
  obtain ⟨X, hE, hA, hX, hb, hbA, hfl⟩ := B
  by_cases hz : (xs (i + (3 : Int32)).toNatClampNeg) = 0
  · obtain ⟨a, x', out', v2, y', hF, hH, ht, hv, hR'⟩ := fl_way hR h0 h1 (xs (i + (1 : Int32)).toNatClampNeg) (xs (i + (2 : Int32)).toNatClampNeg) (0 : Int32) out
    refine z_aload_n X 1 dL_law_1702 rfl rfl ?_
    refine z_aload_n X 0 dL_law_1703 rfl rfl ?_
    refine z_iload X 5 dL_law_1704 rfl ?_
    refine z_iconst X (1 : Int32) dL_law_1706 (by decide) ?_
    refine z_iadd X dL_law_1707 ?_
    refine z_sld X hX hb hbA dL_law_1708 hi.2.1 ?_
    refine z_aload_n X 0 dL_law_1709 rfl rfl ?_
    refine z_iload X 5 dL_law_1710 rfl ?_
    refine z_iconst X (2 : Int32) dL_law_1712 (by decide) ?_
    refine z_iadd X dL_law_1713 ?_
    refine z_sld X hX hb hbA dL_law_1714 hi.2.2.1 ?_
    refine z_aload_n X 0 dL_law_1715 rfl rfl ?_
    refine z_iload X 5 dL_law_1716 rfl ?_
    refine z_iconst X (3 : Int32) dL_law_1718 (by decide) ?_
    refine z_iadd X dL_law_1719 ?_
    refine z_sld X hX hb hbA dL_law_1720 hi.2.2.2.1 ?_
    refine z_eqT X 1728 dL_law_1721 (by decide) hz ?_
    refine z_iconst X (0 : Int32) dL_law_1728 (by decide) ?_
    refine z_aload_n X 3 dL_law_1729 rfl rfl ?_
    have f1 := bk_L (g := g) (ax := ax) (ad := ad) (ay := ay) (qo := qo) (qd := qd) (x := x) (x' := x') (out := out) (out' := out') (od := od) (y := y)
    refine z_mlS (rest := []) (ws' := LW g ax ad ay qo qd x' out' od y) X hE hA k_L_way (c_L_way l hfl ak av aS D g ad ax qo (xs (i + (1 : Int32)).toNatClampNeg) (xs (i + (2 : Int32)).toNatClampNeg) (0 : Int32) x out (a, x', out') hF) ql_L_L_way dL_law_1730 f1.1 f1.2 rfl rfl (RM.fit (dc := 0) (ds := 0) hRm (Nat.le_of_ble_eq_true rfl) (Nat.le_of_ble_eq_true rfl) rfl rfl (Nat.le_of_ble_eq_true rfl) (Nat.le_of_ble_eq_true rfl)) (Nat.le_of_ble_eq_true rfl) ?_
    refine z_widen (k := cells + 4) (n := slots + 24) (Nat.add_le_add_left (Nat.le_of_ble_eq_true rfl) _) (Nat.add_le_add_left (Nat.le_of_ble_eq_true rfl) _) ?_
    refine z_istore X ((6, .int a) :: lv0 b ax ay qo qd i) dL_law_1733 (by decide) rfl ?_
    refine z_aload_n X 3 dL_law_1735 rfl rfl ?_
    refine z_aload_n X 1 dL_law_1736 rfl rfl ?_
    refine z_iload X 6 dL_law_1737 rfl ?_
    refine z_iconst X (1 : Int32) dL_law_1739 (by decide) ?_
    refine z_iadd X dL_law_1740 ?_
    refine z_sld X hX hb hbA dL_law_1741 hi.2.1 ?_
    refine z_aload_n X 1 dL_law_1742 rfl rfl ?_
    refine z_iload X 6 dL_law_1743 rfl ?_
    refine z_iconst X (2 : Int32) dL_law_1745 (by decide) ?_
    refine z_iadd X dL_law_1746 ?_
    refine z_sld X hX hb hbA dL_law_1747 hi.2.2.1 ?_
    refine z_aload_n X 1 dL_law_1748 rfl rfl ?_
    refine z_iload X 6 dL_law_1749 rfl ?_
    refine z_iconst X (3 : Int32) dL_law_1751 (by decide) ?_
    refine z_iadd X dL_law_1752 ?_
    refine z_sld X hX hb hbA dL_law_1753 hi.2.2.2.1 ?_
    refine z_eqT X 1761 dL_law_1754 (by decide) hz ?_
    refine z_iconst X (0 : Int32) dL_law_1761 (by decide) ?_
    obtain ⟨wc, wc', wr, hM, q1, q2, q3⟩ := m_way l D g ay y (xs (i + (1 : Int32)).toNatClampNeg) (xs (i + (2 : Int32)).toNatClampNeg) (0 : Int32) v2 y' hH
    have f2 := bk_Y (g := g) (ax := ax) (ad := ad) (qo := qo) (qd := qd) (x := x') (out := out') (od := od) q1 q2 q3
    refine z_wgV (rest := []) (ci := 12) (ws' := LW g ax ad ay qo qd x' out' od y') X k_X12_way hM ql_L_X12_way dL_law_1762 f2.1 f2.2 rfl rfl LW_y0 rfl rfl (RM.fit (dc := 4) (ds := 24) hRm (Nat.le_of_ble_eq_true rfl) (Nat.le_of_ble_eq_true rfl) rfl rfl (Nat.le_of_ble_eq_true rfl) (Nat.le_of_ble_eq_true rfl)) (Nat.le_of_ble_eq_true rfl) ?_
    refine z_istore X ((7, .int v2) :: (6, .int a) :: lv0 b ax ay qo qd i) dL_law_1765 (by decide) rfl ?_
    refine z_aload_n X 4 dL_law_1767 rfl rfl ?_
    obtain ⟨wt, wu, hT, t1⟩ := m_thrown l D g ay y'
    have f3 := bk_Y (g := g) (ax := ax) (ad := ad) (qo := qo) (qd := qd) (x := x') (out := out') (od := od) t1 t1 rfl
    refine z_rgV (rest := []) (ci := 12) X k_X12_thrown hT ql_L_X12_thrown dL_law_1768 f3.1 rfl rfl LW_y0 rfl rfl (RM.fit (dc := 4) (ds := 24) hRm (Nat.le_of_ble_eq_true rfl) (Nat.le_of_ble_eq_true rfl) rfl rfl (Nat.le_of_ble_eq_true rfl) (Nat.le_of_ble_eq_true rfl)) (Nat.le_of_ble_eq_true rfl) ?_
    refine z_iload X 1 dL_law_1771 rfl ?_
    refine z_ceT X 1778 dL_law_1773 (by decide) ht ?_
    refine z_iload X 1 dL_law_1778 rfl ?_
    have hend : Z p l e R s m args below meth c Q 9 (cells + 4) (slots + 24) (IW D A s (LW g ax ad ay qo qd x' out' od y')) 1795 ((7, .int v2) :: (6, .int a) :: lv0 b ax ay qo qd i) [] := by
      refine z_goto X 2579 dL_law_1795 (by decide) ?_
      refine z_sub (lv' := lv0 b ax ay qo qd i) [2, 3, 4, 5, 6, 7] rfl ?_
      exact kk x' out' od y' hR'
    by_cases ha : a = 0
    rotate_left
    · exact z_neT X 1795 dL_law_1780 (by decide) ha hend
    refine z_neF X 1795 dL_law_1780 (by decide) ha ?_
    refine z_aload_n X 5 dL_law_1783 rfl rfl ?_
    refine z_iconst X (0 : Int32) dL_law_1784 (by decide) ?_
    refine z_lald X IW_P dL_law_1785 LW_o (oki (i := 0) (by decide)) ?_
    refine z_iload X 0 dL_law_1786 rfl ?_
    refine z_i2l X dL_law_1788 ?_
    refine z_lcmpE X dL_law_1789 (hv ha) ?_
    exact z_eqT X 1795 dL_law_1790 (by decide) rfl hend
  · obtain ⟨a, x', out', v2, y', hF, hH, ht, hv, hR'⟩ := fl_way hR h0 h1 (xs (i + (1 : Int32)).toNatClampNeg) (xs (i + (2 : Int32)).toNatClampNeg) (1 : Int32) out
    refine z_aload_n X 1 dL_law_1702 rfl rfl ?_
    refine z_aload_n X 0 dL_law_1703 rfl rfl ?_
    refine z_iload X 5 dL_law_1704 rfl ?_
    refine z_iconst X (1 : Int32) dL_law_1706 (by decide) ?_
    refine z_iadd X dL_law_1707 ?_
    refine z_sld X hX hb hbA dL_law_1708 hi.2.1 ?_
    refine z_aload_n X 0 dL_law_1709 rfl rfl ?_
    refine z_iload X 5 dL_law_1710 rfl ?_
    refine z_iconst X (2 : Int32) dL_law_1712 (by decide) ?_
    refine z_iadd X dL_law_1713 ?_
    refine z_sld X hX hb hbA dL_law_1714 hi.2.2.1 ?_
    refine z_aload_n X 0 dL_law_1715 rfl rfl ?_
    refine z_iload X 5 dL_law_1716 rfl ?_
    refine z_iconst X (3 : Int32) dL_law_1718 (by decide) ?_
    refine z_iadd X dL_law_1719 ?_
    refine z_sld X hX hb hbA dL_law_1720 hi.2.2.2.1 ?_
    refine z_eqF X 1728 dL_law_1721 (by decide) hz ?_
    refine z_iconst X (1 : Int32) dL_law_1724 (by decide) ?_
    refine z_goto X 1729 dL_law_1725 (by decide) ?_
    refine z_aload_n X 3 dL_law_1729 rfl rfl ?_
    have f1 := bk_L (g := g) (ax := ax) (ad := ad) (ay := ay) (qo := qo) (qd := qd) (x := x) (x' := x') (out := out) (out' := out') (od := od) (y := y)
    refine z_mlS (rest := []) (ws' := LW g ax ad ay qo qd x' out' od y) X hE hA k_L_way (c_L_way l hfl ak av aS D g ad ax qo (xs (i + (1 : Int32)).toNatClampNeg) (xs (i + (2 : Int32)).toNatClampNeg) (1 : Int32) x out (a, x', out') hF) ql_L_L_way dL_law_1730 f1.1 f1.2 rfl rfl (RM.fit (dc := 0) (ds := 0) hRm (Nat.le_of_ble_eq_true rfl) (Nat.le_of_ble_eq_true rfl) rfl rfl (Nat.le_of_ble_eq_true rfl) (Nat.le_of_ble_eq_true rfl)) (Nat.le_of_ble_eq_true rfl) ?_
    refine z_widen (k := cells + 4) (n := slots + 24) (Nat.add_le_add_left (Nat.le_of_ble_eq_true rfl) _) (Nat.add_le_add_left (Nat.le_of_ble_eq_true rfl) _) ?_
    refine z_istore X ((6, .int a) :: lv0 b ax ay qo qd i) dL_law_1733 (by decide) rfl ?_
    refine z_aload_n X 3 dL_law_1735 rfl rfl ?_
    refine z_aload_n X 1 dL_law_1736 rfl rfl ?_
    refine z_iload X 6 dL_law_1737 rfl ?_
    refine z_iconst X (1 : Int32) dL_law_1739 (by decide) ?_
    refine z_iadd X dL_law_1740 ?_
    refine z_sld X hX hb hbA dL_law_1741 hi.2.1 ?_
    refine z_aload_n X 1 dL_law_1742 rfl rfl ?_
    refine z_iload X 6 dL_law_1743 rfl ?_
    refine z_iconst X (2 : Int32) dL_law_1745 (by decide) ?_
    refine z_iadd X dL_law_1746 ?_
    refine z_sld X hX hb hbA dL_law_1747 hi.2.2.1 ?_
    refine z_aload_n X 1 dL_law_1748 rfl rfl ?_
    refine z_iload X 6 dL_law_1749 rfl ?_
    refine z_iconst X (3 : Int32) dL_law_1751 (by decide) ?_
    refine z_iadd X dL_law_1752 ?_
    refine z_sld X hX hb hbA dL_law_1753 hi.2.2.2.1 ?_
    refine z_eqF X 1761 dL_law_1754 (by decide) hz ?_
    refine z_iconst X (1 : Int32) dL_law_1757 (by decide) ?_
    refine z_goto X 1762 dL_law_1758 (by decide) ?_
    obtain ⟨wc, wc', wr, hM, q1, q2, q3⟩ := m_way l D g ay y (xs (i + (1 : Int32)).toNatClampNeg) (xs (i + (2 : Int32)).toNatClampNeg) (1 : Int32) v2 y' hH
    have f2 := bk_Y (g := g) (ax := ax) (ad := ad) (qo := qo) (qd := qd) (x := x') (out := out') (od := od) q1 q2 q3
    refine z_wgV (rest := []) (ci := 12) (ws' := LW g ax ad ay qo qd x' out' od y') X k_X12_way hM ql_L_X12_way dL_law_1762 f2.1 f2.2 rfl rfl LW_y0 rfl rfl (RM.fit (dc := 4) (ds := 24) hRm (Nat.le_of_ble_eq_true rfl) (Nat.le_of_ble_eq_true rfl) rfl rfl (Nat.le_of_ble_eq_true rfl) (Nat.le_of_ble_eq_true rfl)) (Nat.le_of_ble_eq_true rfl) ?_
    refine z_istore X ((7, .int v2) :: (6, .int a) :: lv0 b ax ay qo qd i) dL_law_1765 (by decide) rfl ?_
    refine z_aload_n X 4 dL_law_1767 rfl rfl ?_
    obtain ⟨wt, wu, hT, t1⟩ := m_thrown l D g ay y'
    have f3 := bk_Y (g := g) (ax := ax) (ad := ad) (qo := qo) (qd := qd) (x := x') (out := out') (od := od) t1 t1 rfl
    refine z_rgV (rest := []) (ci := 12) X k_X12_thrown hT ql_L_X12_thrown dL_law_1768 f3.1 rfl rfl LW_y0 rfl rfl (RM.fit (dc := 4) (ds := 24) hRm (Nat.le_of_ble_eq_true rfl) (Nat.le_of_ble_eq_true rfl) rfl rfl (Nat.le_of_ble_eq_true rfl) (Nat.le_of_ble_eq_true rfl)) (Nat.le_of_ble_eq_true rfl) ?_
    refine z_iload X 1 dL_law_1771 rfl ?_
    refine z_ceT X 1778 dL_law_1773 (by decide) ht ?_
    refine z_iload X 1 dL_law_1778 rfl ?_
    have hend : Z p l e R s m args below meth c Q 9 (cells + 4) (slots + 24) (IW D A s (LW g ax ad ay qo qd x' out' od y')) 1795 ((7, .int v2) :: (6, .int a) :: lv0 b ax ay qo qd i) [] := by
      refine z_goto X 2579 dL_law_1795 (by decide) ?_
      refine z_sub (lv' := lv0 b ax ay qo qd i) [2, 3, 4, 5, 6, 7] rfl ?_
      exact kk x' out' od y' hR'
    by_cases ha : a = 0
    rotate_left
    · exact z_neT X 1795 dL_law_1780 (by decide) ha hend
    refine z_neF X 1795 dL_law_1780 (by decide) ha ?_
    refine z_aload_n X 5 dL_law_1783 rfl rfl ?_
    refine z_iconst X (0 : Int32) dL_law_1784 (by decide) ?_
    refine z_lald X IW_P dL_law_1785 LW_o (oki (i := 0) (by decide)) ?_
    refine z_iload X 0 dL_law_1786 rfl ?_
    refine z_i2l X dL_law_1788 ?_
    refine z_lcmpE X dL_law_1789 (hv ha) ?_
    exact z_eqT X 1795 dL_law_1790 (by decide) rfl hend
theorem k_L_round : cardS yL_round (Cond.codeWith yL_round cL_round 4 (some .int) [(0, 9, 12, 48)]) 3 := ⟨qs_L_round, qw_L_round, qn_L, by decide +kernel, by decide +kernel, by decide +kernel⟩
set_option maxHeartbeats 1000000 in
set_option maxRecDepth 100000 in
theorem lb_round (B : LB p l s m args meth c D g ak av aS A b L xs) (hRm : RM R cells slots) (hR : Rel t x y) (h0 : 0 ≤ t) (h1 : t < 800000) {i : Int32} (hi : II i L) (kk : ∀ x' out' od' y', Rel (t + 300) x' y' → Z p l e R s m args below meth c Q 9 (cells + 4) (slots + 24) (IW D A s (LW g ax ad ay qo qd x' out' od' y')) 2579 (lv0 b ax ay qo qd i) []) : Z p l e R s m args below meth c Q 9 cells slots (IW D A s (LW g ax ad ay qo qd x out od y)) 1798 (lv0 b ax ay qo qd i) [] := by
  obtain ⟨X, hE, hA, hX, hb, hbA, hfl⟩ := B
  obtain ⟨a, x', out', v2, y', hF, hH, ht, hv, hR'⟩ := fl_round hR h0 h1 (xs (i + (1 : Int32)).toNatClampNeg) out
  refine z_aload_n X 1 dL_law_1798 rfl rfl ?_
  refine z_aload_n X 0 dL_law_1799 rfl rfl ?_
  refine z_iload X 5 dL_law_1800 rfl ?_
  refine z_iconst X (1 : Int32) dL_law_1802 (by decide) ?_
  refine z_iadd X dL_law_1803 ?_
  refine z_sld X hX hb hbA dL_law_1804 hi.2.1 ?_
  refine z_aload_n X 3 dL_law_1805 rfl rfl ?_
  have f1 := bk_L (g := g) (ax := ax) (ad := ad) (ay := ay) (qo := qo) (qd := qd) (x := x) (x' := x') (out := out) (out' := out') (od := od) (y := y)
  refine z_mlS (rest := []) (ws' := LW g ax ad ay qo qd x' out' od y) X hE hA k_L_round (c_L_round l hfl ak av aS D g ad ax qo (xs (i + (1 : Int32)).toNatClampNeg) x out (a, x', out') hF) ql_L_L_round dL_law_1806 f1.1 f1.2 rfl rfl (RM.fit (dc := 0) (ds := 0) hRm (Nat.le_of_ble_eq_true rfl) (Nat.le_of_ble_eq_true rfl) rfl rfl (Nat.le_of_ble_eq_true rfl) (Nat.le_of_ble_eq_true rfl)) (Nat.le_of_ble_eq_true rfl) ?_
  refine z_widen (k := cells + 4) (n := slots + 24) (Nat.add_le_add_left (Nat.le_of_ble_eq_true rfl) _) (Nat.add_le_add_left (Nat.le_of_ble_eq_true rfl) _) ?_
  refine z_istore X ((6, .int a) :: lv0 b ax ay qo qd i) dL_law_1809 (by decide) rfl ?_
  refine z_aload_n X 3 dL_law_1811 rfl rfl ?_
  refine z_aload_n X 1 dL_law_1812 rfl rfl ?_
  refine z_iload X 6 dL_law_1813 rfl ?_
  refine z_iconst X (1 : Int32) dL_law_1815 (by decide) ?_
  refine z_iadd X dL_law_1816 ?_
  refine z_sld X hX hb hbA dL_law_1817 hi.2.1 ?_
  obtain ⟨wc, wc', wr, hM, q1, q2, q3⟩ := m_round l D g ay y (xs (i + (1 : Int32)).toNatClampNeg) v2 y' hH
  have f2 := bk_Y (g := g) (ax := ax) (ad := ad) (qo := qo) (qd := qd) (x := x') (out := out') (od := od) q1 q2 q3
  refine z_wgV (rest := []) (ci := 12) (ws' := LW g ax ad ay qo qd x' out' od y') X k_X12_round hM ql_L_X12_round dL_law_1818 f2.1 f2.2 rfl rfl LW_y0 rfl rfl (RM.fit (dc := 4) (ds := 24) hRm (Nat.le_of_ble_eq_true rfl) (Nat.le_of_ble_eq_true rfl) rfl rfl (Nat.le_of_ble_eq_true rfl) (Nat.le_of_ble_eq_true rfl)) (Nat.le_of_ble_eq_true rfl) ?_
  refine z_istore X ((7, .int v2) :: (6, .int a) :: lv0 b ax ay qo qd i) dL_law_1821 (by decide) rfl ?_
  refine z_aload_n X 4 dL_law_1823 rfl rfl ?_
  obtain ⟨wt, wu, hT, t1⟩ := m_thrown l D g ay y'
  have f3 := bk_Y (g := g) (ax := ax) (ad := ad) (qo := qo) (qd := qd) (x := x') (out := out') (od := od) t1 t1 rfl
  refine z_rgV (rest := []) (ci := 12) X k_X12_thrown hT ql_L_X12_thrown dL_law_1824 f3.1 rfl rfl LW_y0 rfl rfl (RM.fit (dc := 4) (ds := 24) hRm (Nat.le_of_ble_eq_true rfl) (Nat.le_of_ble_eq_true rfl) rfl rfl (Nat.le_of_ble_eq_true rfl) (Nat.le_of_ble_eq_true rfl)) (Nat.le_of_ble_eq_true rfl) ?_
  refine z_iload X 1 dL_law_1827 rfl ?_
  refine z_ceT X 1834 dL_law_1829 (by decide) ht ?_
  refine z_iload X 1 dL_law_1834 rfl ?_
  have hend : Z p l e R s m args below meth c Q 9 (cells + 4) (slots + 24) (IW D A s (LW g ax ad ay qo qd x' out' od y')) 1851 ((7, .int v2) :: (6, .int a) :: lv0 b ax ay qo qd i) [] := by
    refine z_goto X 2579 dL_law_1851 (by decide) ?_
    refine z_sub (lv' := lv0 b ax ay qo qd i) [2, 3, 4, 5, 6, 7] rfl ?_
    exact kk x' out' od y' hR'
  by_cases ha : a = 0
  rotate_left
  · exact z_neT X 1851 dL_law_1836 (by decide) ha hend
  refine z_neF X 1851 dL_law_1836 (by decide) ha ?_
  refine z_aload_n X 5 dL_law_1839 rfl rfl ?_
  refine z_iconst X (0 : Int32) dL_law_1840 (by decide) ?_
  refine z_lald X IW_P dL_law_1841 LW_o (oki (i := 0) (by decide)) ?_
  refine z_iload X 0 dL_law_1842 rfl ?_
  refine z_i2l X dL_law_1844 ?_
  refine z_lcmpE X dL_law_1845 (hv ha) ?_
  exact z_eqT X 1851 dL_law_1846 (by decide) rfl hend
set_option maxHeartbeats 1000000 in
set_option maxRecDepth 100000 in
theorem lb_steps (B : LB p l s m args meth c D g ak av aS A b L xs) (hRm : RM R cells slots) (hR : Rel t x y) (h0 : 0 ≤ t) (h1 : t < 800000) {i : Int32} (hi : II i L) (kk : ∀ x' out' od' y', Rel (t + 300) x' y' → Z p l e R s m args below meth c Q 9 (cells + 4) (slots + 24) (IW D A s (LW g ax ad ay qo qd x' out' od' y')) 2579 (lv0 b ax ay qo qd i) []) : Z p l e R s m args below meth c Q 9 cells slots (IW D A s (LW g ax ad ay qo qd x out od y)) 1854 (lv0 b ax ay qo qd i) [] := by
  obtain ⟨X, hE, hA, hX, hb, hbA, hfl⟩ := B
  obtain ⟨k, v, x', v2, y', t, hm, hG, hH, ht, hv, hR'⟩ := op_steps hR
  simp only [List.mem_cons, Prod.mk.injEq, List.not_mem_nil, or_false] at hm
  obtain ⟨rfl, rfl⟩ := hm
  obtain rfl := hv rfl
  refine z_aload_n X 1 dL_law_1854 rfl rfl ?_
  obtain ⟨wa, wa', wb, hN, r1, r2, r3, r4⟩ := n_steps l D g ad ax x v x' hG
  have f1 := bk_X (g := g) (ax := ax) (ad := ad) (ay := ay) (qo := qo) (qd := qd) (x := x) (x' := x') (out := out) (od := od) (y := y) r1 r2 r3 r4
  refine z_wgV (rest := []) (ci := 11) (ws' := LW g ax ad ay qo qd x' out od y) X k_X11_steps hN ql_L_X11_steps dL_law_1855 f1.1 f1.2 rfl rfl LW_x0 rfl rfl (RM.fit (dc := 0) (ds := 0) hRm (Nat.le_of_ble_eq_true rfl) (Nat.le_of_ble_eq_true rfl) rfl rfl (Nat.le_of_ble_eq_true rfl) (Nat.le_of_ble_eq_true rfl)) (Nat.le_of_ble_eq_true rfl) ?_
  refine z_aload_n X 2 dL_law_1858 rfl rfl ?_
  obtain ⟨wc, wc', wr, hM, q1, q2, q3⟩ := m_steps l D g ay y v y' hH
  have f2 := bk_Y (g := g) (ax := ax) (ad := ad) (qo := qo) (qd := qd) (x := x') (out := out) (od := od) q1 q2 q3
  refine z_wgV (rest := [.int v]) (ci := 12) (ws' := LW g ax ad ay qo qd x' out od y') X k_X12_steps hM ql_L_X12_steps dL_law_1859 f2.1 f2.2 rfl rfl LW_y0 rfl rfl (RM.fit (dc := 0) (ds := 0) hRm (Nat.le_of_ble_eq_true rfl) (Nat.le_of_ble_eq_true rfl) rfl rfl (Nat.le_of_ble_eq_true rfl) (Nat.le_of_ble_eq_true rfl)) (Nat.le_of_ble_eq_true rfl) ?_
  refine z_widen (k := cells + 4) (n := slots + 24) (Nat.le_add_right _ _) (Nat.le_add_right _ _) ?_
  refine z_ceT X 2579 dL_law_1862 (by decide) rfl ?_
  exact kk x' out od y' hR'
theorem k_L_ranked : cardS yL_ranked (Cond.codeWith yL_ranked cL_ranked 4 (some .int) [(0, 9, 12, 48)]) 3 := ⟨qs_L_ranked, qw_L_ranked, qn_L, by decide +kernel, by decide +kernel, by decide +kernel⟩
set_option maxHeartbeats 1000000 in
set_option maxRecDepth 100000 in
theorem lb_ranked (B : LB p l s m args meth c D g ak av aS A b L xs) (hRm : RM R cells slots) (hR : Rel t x y) (h0 : 0 ≤ t) (h1 : t < 800000) {i : Int32} (hi : II i L) (kk : ∀ x' out' od' y', Rel (t + 300) x' y' → Z p l e R s m args below meth c Q 9 (cells + 4) (slots + 24) (IW D A s (LW g ax ad ay qo qd x' out' od' y')) 2579 (lv0 b ax ay qo qd i) []) : Z p l e R s m args below meth c Q 9 cells slots (IW D A s (LW g ax ad ay qo qd x out od y)) 1867 (lv0 b ax ay qo qd i) [] := by
  obtain ⟨X, hE, hA, hX, hb, hbA, hfl⟩ := B
  obtain ⟨a, x', out', v2, y', hF, hH, ht, hv, hR'⟩ := fl_ranked hR h0 h1 (xs (i + (1 : Int32)).toNatClampNeg) out
  refine z_aload_n X 1 dL_law_1867 rfl rfl ?_
  refine z_aload_n X 0 dL_law_1868 rfl rfl ?_
  refine z_iload X 5 dL_law_1869 rfl ?_
  refine z_iconst X (1 : Int32) dL_law_1871 (by decide) ?_
  refine z_iadd X dL_law_1872 ?_
  refine z_sld X hX hb hbA dL_law_1873 hi.2.1 ?_
  refine z_aload_n X 3 dL_law_1874 rfl rfl ?_
  have f1 := bk_L (g := g) (ax := ax) (ad := ad) (ay := ay) (qo := qo) (qd := qd) (x := x) (x' := x') (out := out) (out' := out') (od := od) (y := y)
  refine z_mlS (rest := []) (ws' := LW g ax ad ay qo qd x' out' od y) X hE hA k_L_ranked (c_L_ranked l hfl ak av aS D g ad ax qo (xs (i + (1 : Int32)).toNatClampNeg) x out (a, x', out') hF) ql_L_L_ranked dL_law_1875 f1.1 f1.2 rfl rfl (RM.fit (dc := 0) (ds := 0) hRm (Nat.le_of_ble_eq_true rfl) (Nat.le_of_ble_eq_true rfl) rfl rfl (Nat.le_of_ble_eq_true rfl) (Nat.le_of_ble_eq_true rfl)) (Nat.le_of_ble_eq_true rfl) ?_
  refine z_widen (k := cells + 4) (n := slots + 24) (Nat.add_le_add_left (Nat.le_of_ble_eq_true rfl) _) (Nat.add_le_add_left (Nat.le_of_ble_eq_true rfl) _) ?_
  refine z_istore X ((6, .int a) :: lv0 b ax ay qo qd i) dL_law_1878 (by decide) rfl ?_
  refine z_aload_n X 3 dL_law_1880 rfl rfl ?_
  refine z_aload_n X 1 dL_law_1881 rfl rfl ?_
  refine z_iload X 6 dL_law_1882 rfl ?_
  refine z_iconst X (1 : Int32) dL_law_1884 (by decide) ?_
  refine z_iadd X dL_law_1885 ?_
  refine z_sld X hX hb hbA dL_law_1886 hi.2.1 ?_
  obtain ⟨wc, wc', wr, hM, q1, q2, q3⟩ := m_ranked l D g ay y (xs (i + (1 : Int32)).toNatClampNeg) v2 y' hH
  have f2 := bk_Y (g := g) (ax := ax) (ad := ad) (qo := qo) (qd := qd) (x := x') (out := out') (od := od) q1 q2 q3
  refine z_wgV (rest := []) (ci := 12) (ws' := LW g ax ad ay qo qd x' out' od y') X k_X12_ranked hM ql_L_X12_ranked dL_law_1887 f2.1 f2.2 rfl rfl LW_y0 rfl rfl (RM.fit (dc := 4) (ds := 24) hRm (Nat.le_of_ble_eq_true rfl) (Nat.le_of_ble_eq_true rfl) rfl rfl (Nat.le_of_ble_eq_true rfl) (Nat.le_of_ble_eq_true rfl)) (Nat.le_of_ble_eq_true rfl) ?_
  refine z_istore X ((7, .int v2) :: (6, .int a) :: lv0 b ax ay qo qd i) dL_law_1890 (by decide) rfl ?_
  refine z_aload_n X 4 dL_law_1892 rfl rfl ?_
  obtain ⟨wt, wu, hT, t1⟩ := m_thrown l D g ay y'
  have f3 := bk_Y (g := g) (ax := ax) (ad := ad) (qo := qo) (qd := qd) (x := x') (out := out') (od := od) t1 t1 rfl
  refine z_rgV (rest := []) (ci := 12) X k_X12_thrown hT ql_L_X12_thrown dL_law_1893 f3.1 rfl rfl LW_y0 rfl rfl (RM.fit (dc := 4) (ds := 24) hRm (Nat.le_of_ble_eq_true rfl) (Nat.le_of_ble_eq_true rfl) rfl rfl (Nat.le_of_ble_eq_true rfl) (Nat.le_of_ble_eq_true rfl)) (Nat.le_of_ble_eq_true rfl) ?_
  refine z_iload X 1 dL_law_1896 rfl ?_
  refine z_ceT X 1903 dL_law_1898 (by decide) ht ?_
  refine z_iload X 1 dL_law_1903 rfl ?_
  have hend : Z p l e R s m args below meth c Q 9 (cells + 4) (slots + 24) (IW D A s (LW g ax ad ay qo qd x' out' od y')) 1920 ((7, .int v2) :: (6, .int a) :: lv0 b ax ay qo qd i) [] := by
    refine z_goto X 2579 dL_law_1920 (by decide) ?_
    refine z_sub (lv' := lv0 b ax ay qo qd i) [2, 3, 4, 5, 6, 7] rfl ?_
    exact kk x' out' od y' hR'
  by_cases ha : a = 0
  rotate_left
  · exact z_neT X 1920 dL_law_1905 (by decide) ha hend
  refine z_neF X 1920 dL_law_1905 (by decide) ha ?_
  refine z_aload_n X 5 dL_law_1908 rfl rfl ?_
  refine z_iconst X (0 : Int32) dL_law_1909 (by decide) ?_
  refine z_lald X IW_P dL_law_1910 LW_o (oki (i := 0) (by decide)) ?_
  refine z_iload X 0 dL_law_1911 rfl ?_
  refine z_i2l X dL_law_1913 ?_
  refine z_lcmpE X dL_law_1914 (hv ha) ?_
  exact z_eqT X 1920 dL_law_1915 (by decide) rfl hend
theorem k_L_line : cardS yL_line (Cond.codeWith yL_line cL_line 4 (some .int) [(0, 9, 12, 13)]) 3 := ⟨qs_L_line, qw_L_line, qn_L, by decide +kernel, by decide +kernel, by decide +kernel⟩
set_option maxHeartbeats 1000000 in
set_option maxRecDepth 100000 in
theorem lb_line (B : LB p l s m args meth c D g ak av aS A b L xs) (hRm : RM R cells slots) (hR : Rel t x y) (h0 : 0 ≤ t) (h1 : t < 800000) {i : Int32} (hi : II i L) (kk : ∀ x' out' od' y', Rel (t + 300) x' y' → Z p l e R s m args below meth c Q 9 (cells + 4) (slots + 24) (IW D A s (LW g ax ad ay qo qd x' out' od' y')) 2579 (lv0 b ax ay qo qd i) []) : Z p l e R s m args below meth c Q 9 cells slots (IW D A s (LW g ax ad ay qo qd x out od y)) 1923 (lv0 b ax ay qo qd i) [] := by
  obtain ⟨X, hE, hA, hX, hb, hbA, hfl⟩ := B
  obtain ⟨a, x', out', v2, y', hF, hH, ht, hv, hR'⟩ := fl_line hR h0 h1 (xs (i + (1 : Int32)).toNatClampNeg) out
  refine z_aload_n X 1 dL_law_1923 rfl rfl ?_
  refine z_aload_n X 0 dL_law_1924 rfl rfl ?_
  refine z_iload X 5 dL_law_1925 rfl ?_
  refine z_iconst X (1 : Int32) dL_law_1927 (by decide) ?_
  refine z_iadd X dL_law_1928 ?_
  refine z_sld X hX hb hbA dL_law_1929 hi.2.1 ?_
  refine z_aload_n X 3 dL_law_1930 rfl rfl ?_
  have f1 := bk_L (g := g) (ax := ax) (ad := ad) (ay := ay) (qo := qo) (qd := qd) (x := x) (x' := x') (out := out) (out' := out') (od := od) (y := y)
  refine z_mlS (rest := []) (ws' := LW g ax ad ay qo qd x' out' od y) X hE hA k_L_line (c_L_line l hfl ak av aS D g ad ax qo (xs (i + (1 : Int32)).toNatClampNeg) x out (a, x', out') hF) ql_L_L_line dL_law_1931 f1.1 f1.2 rfl rfl (RM.fit (dc := 0) (ds := 0) hRm (Nat.le_of_ble_eq_true rfl) (Nat.le_of_ble_eq_true rfl) rfl rfl (Nat.le_of_ble_eq_true rfl) (Nat.le_of_ble_eq_true rfl)) (Nat.le_of_ble_eq_true rfl) ?_
  refine z_widen (k := cells + 4) (n := slots + 24) (Nat.add_le_add_left (Nat.le_of_ble_eq_true rfl) _) (Nat.add_le_add_left (Nat.le_of_ble_eq_true rfl) _) ?_
  refine z_istore X ((6, .int a) :: lv0 b ax ay qo qd i) dL_law_1934 (by decide) rfl ?_
  refine z_aload_n X 3 dL_law_1936 rfl rfl ?_
  refine z_aload_n X 1 dL_law_1937 rfl rfl ?_
  refine z_iload X 6 dL_law_1938 rfl ?_
  refine z_iconst X (1 : Int32) dL_law_1940 (by decide) ?_
  refine z_iadd X dL_law_1941 ?_
  refine z_sld X hX hb hbA dL_law_1942 hi.2.1 ?_
  obtain ⟨wc, wc', wr, hM, q1, q2, q3⟩ := m_line l D g ay y (xs (i + (1 : Int32)).toNatClampNeg) v2 y' hH
  have f2 := bk_Y (g := g) (ax := ax) (ad := ad) (qo := qo) (qd := qd) (x := x') (out := out') (od := od) q1 q2 q3
  refine z_wgV (rest := []) (ci := 12) (ws' := LW g ax ad ay qo qd x' out' od y') X k_X12_line hM ql_L_X12_line dL_law_1943 f2.1 f2.2 rfl rfl LW_y0 rfl rfl (RM.fit (dc := 4) (ds := 24) hRm (Nat.le_of_ble_eq_true rfl) (Nat.le_of_ble_eq_true rfl) rfl rfl (Nat.le_of_ble_eq_true rfl) (Nat.le_of_ble_eq_true rfl)) (Nat.le_of_ble_eq_true rfl) ?_
  refine z_istore X ((7, .int v2) :: (6, .int a) :: lv0 b ax ay qo qd i) dL_law_1946 (by decide) rfl ?_
  refine z_aload_n X 4 dL_law_1948 rfl rfl ?_
  obtain ⟨wt, wu, hT, t1⟩ := m_thrown l D g ay y'
  have f3 := bk_Y (g := g) (ax := ax) (ad := ad) (qo := qo) (qd := qd) (x := x') (out := out') (od := od) t1 t1 rfl
  refine z_rgV (rest := []) (ci := 12) X k_X12_thrown hT ql_L_X12_thrown dL_law_1949 f3.1 rfl rfl LW_y0 rfl rfl (RM.fit (dc := 4) (ds := 24) hRm (Nat.le_of_ble_eq_true rfl) (Nat.le_of_ble_eq_true rfl) rfl rfl (Nat.le_of_ble_eq_true rfl) (Nat.le_of_ble_eq_true rfl)) (Nat.le_of_ble_eq_true rfl) ?_
  refine z_iload X 1 dL_law_1952 rfl ?_
  refine z_ceT X 1959 dL_law_1954 (by decide) ht ?_
  refine z_iload X 1 dL_law_1959 rfl ?_
  have hend : Z p l e R s m args below meth c Q 9 (cells + 4) (slots + 24) (IW D A s (LW g ax ad ay qo qd x' out' od y')) 1976 ((7, .int v2) :: (6, .int a) :: lv0 b ax ay qo qd i) [] := by
    refine z_goto X 2579 dL_law_1976 (by decide) ?_
    refine z_sub (lv' := lv0 b ax ay qo qd i) [2, 3, 4, 5, 6, 7] rfl ?_
    exact kk x' out' od y' hR'
  by_cases ha : a = 0
  rotate_left
  · exact z_neT X 1976 dL_law_1961 (by decide) ha hend
  refine z_neF X 1976 dL_law_1961 (by decide) ha ?_
  refine z_aload_n X 5 dL_law_1964 rfl rfl ?_
  refine z_iconst X (0 : Int32) dL_law_1965 (by decide) ?_
  refine z_lald X IW_P dL_law_1966 LW_o (oki (i := 0) (by decide)) ?_
  refine z_iload X 0 dL_law_1967 rfl ?_
  refine z_i2l X dL_law_1969 ?_
  refine z_lcmpE X dL_law_1970 (hv ha) ?_
  exact z_eqT X 1976 dL_law_1971 (by decide) rfl hend
theorem k_L_houseLine : cardS yL_houseLine (Cond.codeWith yL_houseLine cL_houseLine 4 (some .int) [(0, 9, 12, 21)]) 3 := ⟨qs_L_houseLine, qw_L_houseLine, qn_L, by decide +kernel, by decide +kernel, by decide +kernel⟩
set_option maxHeartbeats 1000000 in
set_option maxRecDepth 100000 in
theorem lb_houseLine (B : LB p l s m args meth c D g ak av aS A b L xs) (hRm : RM R cells slots) (hR : Rel t x y) (h0 : 0 ≤ t) (h1 : t < 800000) {i : Int32} (hi : II i L) (kk : ∀ x' out' od' y', Rel (t + 300) x' y' → Z p l e R s m args below meth c Q 9 (cells + 4) (slots + 24) (IW D A s (LW g ax ad ay qo qd x' out' od' y')) 2579 (lv0 b ax ay qo qd i) []) : Z p l e R s m args below meth c Q 9 cells slots (IW D A s (LW g ax ad ay qo qd x out od y)) 1979 (lv0 b ax ay qo qd i) [] := by
  obtain ⟨X, hE, hA, hX, hb, hbA, hfl⟩ := B
  obtain ⟨a, x', out', v2, y', hF, hH, ht, hv, hR'⟩ := fl_houseLine hR h0 h1 (xs (i + (1 : Int32)).toNatClampNeg) out
  refine z_aload_n X 1 dL_law_1979 rfl rfl ?_
  refine z_aload_n X 0 dL_law_1980 rfl rfl ?_
  refine z_iload X 5 dL_law_1981 rfl ?_
  refine z_iconst X (1 : Int32) dL_law_1983 (by decide) ?_
  refine z_iadd X dL_law_1984 ?_
  refine z_sld X hX hb hbA dL_law_1985 hi.2.1 ?_
  refine z_aload_n X 3 dL_law_1986 rfl rfl ?_
  have f1 := bk_L (g := g) (ax := ax) (ad := ad) (ay := ay) (qo := qo) (qd := qd) (x := x) (x' := x') (out := out) (out' := out') (od := od) (y := y)
  refine z_mlS (rest := []) (ws' := LW g ax ad ay qo qd x' out' od y) X hE hA k_L_houseLine (c_L_houseLine l hfl ak av aS D g ad ax qo (xs (i + (1 : Int32)).toNatClampNeg) x out (a, x', out') hF) ql_L_L_houseLine dL_law_1987 f1.1 f1.2 rfl rfl (RM.fit (dc := 0) (ds := 0) hRm (Nat.le_of_ble_eq_true rfl) (Nat.le_of_ble_eq_true rfl) rfl rfl (Nat.le_of_ble_eq_true rfl) (Nat.le_of_ble_eq_true rfl)) (Nat.le_of_ble_eq_true rfl) ?_
  refine z_widen (k := cells + 4) (n := slots + 24) (Nat.add_le_add_left (Nat.le_of_ble_eq_true rfl) _) (Nat.add_le_add_left (Nat.le_of_ble_eq_true rfl) _) ?_
  refine z_istore X ((6, .int a) :: lv0 b ax ay qo qd i) dL_law_1990 (by decide) rfl ?_
  refine z_aload_n X 3 dL_law_1992 rfl rfl ?_
  refine z_aload_n X 1 dL_law_1993 rfl rfl ?_
  refine z_iload X 6 dL_law_1994 rfl ?_
  refine z_iconst X (1 : Int32) dL_law_1996 (by decide) ?_
  refine z_iadd X dL_law_1997 ?_
  refine z_sld X hX hb hbA dL_law_1998 hi.2.1 ?_
  obtain ⟨wc, wc', wr, hM, q1, q2, q3⟩ := m_houseLine l D g ay y (xs (i + (1 : Int32)).toNatClampNeg) v2 y' hH
  have f2 := bk_Y (g := g) (ax := ax) (ad := ad) (qo := qo) (qd := qd) (x := x') (out := out') (od := od) q1 q2 q3
  refine z_wgV (rest := []) (ci := 12) (ws' := LW g ax ad ay qo qd x' out' od y') X k_X12_houseLine hM ql_L_X12_houseLine dL_law_1999 f2.1 f2.2 rfl rfl LW_y0 rfl rfl (RM.fit (dc := 4) (ds := 24) hRm (Nat.le_of_ble_eq_true rfl) (Nat.le_of_ble_eq_true rfl) rfl rfl (Nat.le_of_ble_eq_true rfl) (Nat.le_of_ble_eq_true rfl)) (Nat.le_of_ble_eq_true rfl) ?_
  refine z_istore X ((7, .int v2) :: (6, .int a) :: lv0 b ax ay qo qd i) dL_law_2002 (by decide) rfl ?_
  refine z_aload_n X 4 dL_law_2004 rfl rfl ?_
  obtain ⟨wt, wu, hT, t1⟩ := m_thrown l D g ay y'
  have f3 := bk_Y (g := g) (ax := ax) (ad := ad) (qo := qo) (qd := qd) (x := x') (out := out') (od := od) t1 t1 rfl
  refine z_rgV (rest := []) (ci := 12) X k_X12_thrown hT ql_L_X12_thrown dL_law_2005 f3.1 rfl rfl LW_y0 rfl rfl (RM.fit (dc := 4) (ds := 24) hRm (Nat.le_of_ble_eq_true rfl) (Nat.le_of_ble_eq_true rfl) rfl rfl (Nat.le_of_ble_eq_true rfl) (Nat.le_of_ble_eq_true rfl)) (Nat.le_of_ble_eq_true rfl) ?_
  refine z_iload X 1 dL_law_2008 rfl ?_
  refine z_ceT X 2015 dL_law_2010 (by decide) ht ?_
  refine z_iload X 1 dL_law_2015 rfl ?_
  have hend : Z p l e R s m args below meth c Q 9 (cells + 4) (slots + 24) (IW D A s (LW g ax ad ay qo qd x' out' od y')) 2032 ((7, .int v2) :: (6, .int a) :: lv0 b ax ay qo qd i) [] := by
    refine z_goto X 2579 dL_law_2032 (by decide) ?_
    refine z_sub (lv' := lv0 b ax ay qo qd i) [2, 3, 4, 5, 6, 7] rfl ?_
    exact kk x' out' od y' hR'
  by_cases ha : a = 0
  rotate_left
  · exact z_neT X 2032 dL_law_2017 (by decide) ha hend
  refine z_neF X 2032 dL_law_2017 (by decide) ha ?_
  refine z_aload_n X 5 dL_law_2020 rfl rfl ?_
  refine z_iconst X (0 : Int32) dL_law_2021 (by decide) ?_
  refine z_lald X IW_P dL_law_2022 LW_o (oki (i := 0) (by decide)) ?_
  refine z_iload X 0 dL_law_2023 rfl ?_
  refine z_i2l X dL_law_2025 ?_
  refine z_lcmpE X dL_law_2026 (hv ha) ?_
  exact z_eqT X 2032 dL_law_2027 (by decide) rfl hend
theorem k_L_character : cardS yL_character (Cond.codeWith yL_character cL_character 4 (some .int) [(0, 9, 12, 21)]) 3 := ⟨qs_L_character, qw_L_character, qn_L, by decide +kernel, by decide +kernel, by decide +kernel⟩
set_option maxHeartbeats 1000000 in
set_option maxRecDepth 100000 in
theorem lb_character (B : LB p l s m args meth c D g ak av aS A b L xs) (hRm : RM R cells slots) (hR : Rel t x y) (h0 : 0 ≤ t) (h1 : t < 800000) {i : Int32} (hi : II i L) (kk : ∀ x' out' od' y', Rel (t + 300) x' y' → Z p l e R s m args below meth c Q 9 (cells + 4) (slots + 24) (IW D A s (LW g ax ad ay qo qd x' out' od' y')) 2579 (lv0 b ax ay qo qd i) []) : Z p l e R s m args below meth c Q 9 cells slots (IW D A s (LW g ax ad ay qo qd x out od y)) 2035 (lv0 b ax ay qo qd i) [] := by
  obtain ⟨X, hE, hA, hX, hb, hbA, hfl⟩ := B
  obtain ⟨a, x', out', v2, y', hF, hH, ht, hv, hR'⟩ := fl_character hR h0 h1 (xs (i + (1 : Int32)).toNatClampNeg) out
  refine z_aload_n X 1 dL_law_2035 rfl rfl ?_
  refine z_aload_n X 0 dL_law_2036 rfl rfl ?_
  refine z_iload X 5 dL_law_2037 rfl ?_
  refine z_iconst X (1 : Int32) dL_law_2039 (by decide) ?_
  refine z_iadd X dL_law_2040 ?_
  refine z_sld X hX hb hbA dL_law_2041 hi.2.1 ?_
  refine z_aload_n X 3 dL_law_2042 rfl rfl ?_
  have f1 := bk_L (g := g) (ax := ax) (ad := ad) (ay := ay) (qo := qo) (qd := qd) (x := x) (x' := x') (out := out) (out' := out') (od := od) (y := y)
  refine z_mlS (rest := []) (ws' := LW g ax ad ay qo qd x' out' od y) X hE hA k_L_character (c_L_character l hfl ak av aS D g ad ax qo (xs (i + (1 : Int32)).toNatClampNeg) x out (a, x', out') hF) ql_L_L_character dL_law_2043 f1.1 f1.2 rfl rfl (RM.fit (dc := 0) (ds := 0) hRm (Nat.le_of_ble_eq_true rfl) (Nat.le_of_ble_eq_true rfl) rfl rfl (Nat.le_of_ble_eq_true rfl) (Nat.le_of_ble_eq_true rfl)) (Nat.le_of_ble_eq_true rfl) ?_
  refine z_widen (k := cells + 4) (n := slots + 24) (Nat.add_le_add_left (Nat.le_of_ble_eq_true rfl) _) (Nat.add_le_add_left (Nat.le_of_ble_eq_true rfl) _) ?_
  refine z_istore X ((6, .int a) :: lv0 b ax ay qo qd i) dL_law_2046 (by decide) rfl ?_
  refine z_aload_n X 3 dL_law_2048 rfl rfl ?_
  refine z_aload_n X 1 dL_law_2049 rfl rfl ?_
  refine z_iload X 6 dL_law_2050 rfl ?_
  refine z_iconst X (1 : Int32) dL_law_2052 (by decide) ?_
  refine z_iadd X dL_law_2053 ?_
  refine z_sld X hX hb hbA dL_law_2054 hi.2.1 ?_
  obtain ⟨wc, wc', wr, hM, q1, q2, q3⟩ := m_character l D g ay y (xs (i + (1 : Int32)).toNatClampNeg) v2 y' hH
  have f2 := bk_Y (g := g) (ax := ax) (ad := ad) (qo := qo) (qd := qd) (x := x') (out := out') (od := od) q1 q2 q3
  refine z_wgV (rest := []) (ci := 12) (ws' := LW g ax ad ay qo qd x' out' od y') X k_X12_character hM ql_L_X12_character dL_law_2055 f2.1 f2.2 rfl rfl LW_y0 rfl rfl (RM.fit (dc := 4) (ds := 24) hRm (Nat.le_of_ble_eq_true rfl) (Nat.le_of_ble_eq_true rfl) rfl rfl (Nat.le_of_ble_eq_true rfl) (Nat.le_of_ble_eq_true rfl)) (Nat.le_of_ble_eq_true rfl) ?_
  refine z_istore X ((7, .int v2) :: (6, .int a) :: lv0 b ax ay qo qd i) dL_law_2058 (by decide) rfl ?_
  refine z_aload_n X 4 dL_law_2060 rfl rfl ?_
  obtain ⟨wt, wu, hT, t1⟩ := m_thrown l D g ay y'
  have f3 := bk_Y (g := g) (ax := ax) (ad := ad) (qo := qo) (qd := qd) (x := x') (out := out') (od := od) t1 t1 rfl
  refine z_rgV (rest := []) (ci := 12) X k_X12_thrown hT ql_L_X12_thrown dL_law_2061 f3.1 rfl rfl LW_y0 rfl rfl (RM.fit (dc := 4) (ds := 24) hRm (Nat.le_of_ble_eq_true rfl) (Nat.le_of_ble_eq_true rfl) rfl rfl (Nat.le_of_ble_eq_true rfl) (Nat.le_of_ble_eq_true rfl)) (Nat.le_of_ble_eq_true rfl) ?_
  refine z_iload X 1 dL_law_2064 rfl ?_
  refine z_ceT X 2071 dL_law_2066 (by decide) ht ?_
  refine z_iload X 1 dL_law_2071 rfl ?_
  have hend : Z p l e R s m args below meth c Q 9 (cells + 4) (slots + 24) (IW D A s (LW g ax ad ay qo qd x' out' od y')) 2088 ((7, .int v2) :: (6, .int a) :: lv0 b ax ay qo qd i) [] := by
    refine z_goto X 2579 dL_law_2088 (by decide) ?_
    refine z_sub (lv' := lv0 b ax ay qo qd i) [2, 3, 4, 5, 6, 7] rfl ?_
    exact kk x' out' od y' hR'
  by_cases ha : a = 0
  rotate_left
  · exact z_neT X 2088 dL_law_2073 (by decide) ha hend
  refine z_neF X 2088 dL_law_2073 (by decide) ha ?_
  refine z_aload_n X 5 dL_law_2076 rfl rfl ?_
  refine z_iconst X (0 : Int32) dL_law_2077 (by decide) ?_
  refine z_lald X IW_P dL_law_2078 LW_o (oki (i := 0) (by decide)) ?_
  refine z_iload X 0 dL_law_2079 rfl ?_
  refine z_i2l X dL_law_2081 ?_
  refine z_lcmpE X dL_law_2082 (hv ha) ?_
  exact z_eqT X 2088 dL_law_2083 (by decide) rfl hend
theorem k_L_append : cardS yL_append (Cond.codeWith yL_append cL_append 4 (some .int) [(0, 9, 12, 115)]) 3 := ⟨qs_L_append, qw_L_append, qn_L, by decide +kernel, by decide +kernel, by decide +kernel⟩
set_option maxHeartbeats 1000000 in
set_option maxRecDepth 100000 in
theorem lb_append (B : LB p l s m args meth c D g ak av aS A b L xs) (hRm : RM R cells slots) (hR : Rel t x y) (h0 : 0 ≤ t) (h1 : t < 800000) {i : Int32} (hi : II i L) (kk : ∀ x' out' od' y', Rel (t + 300) x' y' → Z p l e R s m args below meth c Q 9 (cells + 4) (slots + 24) (IW D A s (LW g ax ad ay qo qd x' out' od' y')) 2579 (lv0 b ax ay qo qd i) []) : Z p l e R s m args below meth c Q 9 cells slots (IW D A s (LW g ax ad ay qo qd x out od y)) 2091 (lv0 b ax ay qo qd i) [] := by
  obtain ⟨X, hE, hA, hX, hb, hbA, hfl⟩ := B
  obtain ⟨a, x', out', v2, y', hF, hH, ht, hv, hR'⟩ := fl_append hR h0 h1 ((xs (i + (1 : Int32)).toNatClampNeg).toUInt32 % 65536).toInt32 out
  refine z_aload_n X 1 dL_law_2091 rfl rfl ?_
  refine z_aload_n X 0 dL_law_2092 rfl rfl ?_
  refine z_iload X 5 dL_law_2093 rfl ?_
  refine z_iconst X (1 : Int32) dL_law_2095 (by decide) ?_
  refine z_iadd X dL_law_2096 ?_
  refine z_sld X hX hb hbA dL_law_2097 hi.2.1 ?_
  refine z_i2c X dL_law_2098 ?_
  refine z_aload_n X 3 dL_law_2099 rfl rfl ?_
  have f1 := bk_L (g := g) (ax := ax) (ad := ad) (ay := ay) (qo := qo) (qd := qd) (x := x) (x' := x') (out := out) (out' := out') (od := od) (y := y)
  refine z_mlS (rest := []) (ws' := LW g ax ad ay qo qd x' out' od y) X hE hA k_L_append (c_L_append l hfl ak av aS D g ad ax qo ((xs (i + (1 : Int32)).toNatClampNeg).toUInt32 % 65536).toInt32 x out (a, x', out') hF) ql_L_L_append dL_law_2100 f1.1 f1.2 rfl rfl (RM.fit (dc := 0) (ds := 0) hRm (Nat.le_of_ble_eq_true rfl) (Nat.le_of_ble_eq_true rfl) rfl rfl (Nat.le_of_ble_eq_true rfl) (Nat.le_of_ble_eq_true rfl)) (Nat.le_of_ble_eq_true rfl) ?_
  refine z_widen (k := cells + 4) (n := slots + 24) (Nat.add_le_add_left (Nat.le_of_ble_eq_true rfl) _) (Nat.add_le_add_left (Nat.le_of_ble_eq_true rfl) _) ?_
  refine z_istore X ((6, .int a) :: lv0 b ax ay qo qd i) dL_law_2103 (by decide) rfl ?_
  refine z_aload_n X 3 dL_law_2105 rfl rfl ?_
  refine z_aload_n X 1 dL_law_2106 rfl rfl ?_
  refine z_iload X 6 dL_law_2107 rfl ?_
  refine z_iconst X (1 : Int32) dL_law_2109 (by decide) ?_
  refine z_iadd X dL_law_2110 ?_
  refine z_sld X hX hb hbA dL_law_2111 hi.2.1 ?_
  refine z_i2c X dL_law_2112 ?_
  obtain ⟨wc, wc', wr, hM, q1, q2, q3⟩ := m_append l D g ay y ((xs (i + (1 : Int32)).toNatClampNeg).toUInt32 % 65536).toInt32 v2 y' hH
  have f2 := bk_Y (g := g) (ax := ax) (ad := ad) (qo := qo) (qd := qd) (x := x') (out := out') (od := od) q1 q2 q3
  refine z_wgV (rest := []) (ci := 12) (ws' := LW g ax ad ay qo qd x' out' od y') X k_X12_append hM ql_L_X12_append dL_law_2113 f2.1 f2.2 rfl rfl LW_y0 rfl rfl (RM.fit (dc := 4) (ds := 24) hRm (Nat.le_of_ble_eq_true rfl) (Nat.le_of_ble_eq_true rfl) rfl rfl (Nat.le_of_ble_eq_true rfl) (Nat.le_of_ble_eq_true rfl)) (Nat.le_of_ble_eq_true rfl) ?_
  refine z_istore X ((7, .int v2) :: (6, .int a) :: lv0 b ax ay qo qd i) dL_law_2116 (by decide) rfl ?_
  refine z_aload_n X 4 dL_law_2118 rfl rfl ?_
  obtain ⟨wt, wu, hT, t1⟩ := m_thrown l D g ay y'
  have f3 := bk_Y (g := g) (ax := ax) (ad := ad) (qo := qo) (qd := qd) (x := x') (out := out') (od := od) t1 t1 rfl
  refine z_rgV (rest := []) (ci := 12) X k_X12_thrown hT ql_L_X12_thrown dL_law_2119 f3.1 rfl rfl LW_y0 rfl rfl (RM.fit (dc := 4) (ds := 24) hRm (Nat.le_of_ble_eq_true rfl) (Nat.le_of_ble_eq_true rfl) rfl rfl (Nat.le_of_ble_eq_true rfl) (Nat.le_of_ble_eq_true rfl)) (Nat.le_of_ble_eq_true rfl) ?_
  refine z_iload X 1 dL_law_2122 rfl ?_
  refine z_ceT X 2129 dL_law_2124 (by decide) ht ?_
  refine z_iload X 1 dL_law_2129 rfl ?_
  have hend : Z p l e R s m args below meth c Q 9 (cells + 4) (slots + 24) (IW D A s (LW g ax ad ay qo qd x' out' od y')) 2146 ((7, .int v2) :: (6, .int a) :: lv0 b ax ay qo qd i) [] := by
    refine z_goto X 2579 dL_law_2146 (by decide) ?_
    refine z_sub (lv' := lv0 b ax ay qo qd i) [2, 3, 4, 5, 6, 7] rfl ?_
    exact kk x' out' od y' hR'
  by_cases ha : a = 0
  rotate_left
  · exact z_neT X 2146 dL_law_2131 (by decide) ha hend
  refine z_neF X 2146 dL_law_2131 (by decide) ha ?_
  refine z_aload_n X 5 dL_law_2134 rfl rfl ?_
  refine z_iconst X (0 : Int32) dL_law_2135 (by decide) ?_
  refine z_lald X IW_P dL_law_2136 LW_o (oki (i := 0) (by decide)) ?_
  refine z_iload X 0 dL_law_2137 rfl ?_
  refine z_i2l X dL_law_2139 ?_
  refine z_lcmpE X dL_law_2140 (hv ha) ?_
  exact z_eqT X 2146 dL_law_2141 (by decide) rfl hend
end LC20
