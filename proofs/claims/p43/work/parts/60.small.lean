def F_L_cell (L : Nat) (xs : Nat → Int32) (p1 : Int32) : Option (Int32) :=
  brn ((Int32.ofNat L) ≤ p1) (some ((40503 : Int32) * p1)) (grd (inb p1 L) (some (xs p1.toNatClampNeg)))

theorem dL_cell_0 : decode cL_cell 0 = .ok (.iload_n 1, 1) := by decide +kernel
theorem dL_cell_1 : decode cL_cell 1 = .ok (.aload_n 0, 1) := by decide +kernel
theorem dL_cell_2 : decode cL_cell 2 = .ok (.arraylength, 1) := by decide +kernel
theorem dL_cell_3 : decode cL_cell 3 = .ok (.if_icmp .ge 9, 3) := by decide +kernel
theorem dL_cell_6 : decode cL_cell 6 = .ok (.aload_n 0, 1) := by decide +kernel
theorem dL_cell_7 : decode cL_cell 7 = .ok (.iload_n 1, 1) := by decide +kernel
theorem dL_cell_8 : decode cL_cell 8 = .ok (.iaload, 1) := by decide +kernel
theorem dL_cell_9 : decode cL_cell 9 = .ok (.goto 7, 3) := by decide +kernel
theorem dL_cell_12 : decode cL_cell 12 = .ok (.ldc 7, 2) := by decide +kernel
theorem dL_cell_14 : decode cL_cell 14 = .ok (.iload_n 1, 1) := by decide +kernel
theorem dL_cell_15 : decode cL_cell 15 = .ok (.imul, 1) := by decide +kernel
theorem dL_cell_16 : decode cL_cell 16 = .ok (.ireturn, 1) := by decide +kernel
theorem k_L_cell : cardS yL_cell (Cond.code yL_cell cL_cell 2 (some .int)) 2 := ⟨qs_L_cell, qc_L_cell, qn_L, by decide +kernel, by decide +kernel, by decide +kernel⟩
set_option maxHeartbeats 4000000 in
set_option maxRecDepth 100000 in
theorem c_L_cell (l : Launch) (hfl : l.stackTraces = false) (ev : LEv) (D : va_G) (g : Nat → ClassId) (p1 : Int32) (o : Int32) (h : F_L_cell ev.L ev.xs p1 = some o) : MG l yL_cell (Cond.code yL_cell cL_cell 2 (some .int)) { frames := 0, cells := 0, slots := 0, locals := 0 } (KF ev) D g [.ref ev.b, .int p1] [] (some (.int o)) [] 0 0 := by
  refine z_g_start (by decide) (Nat.le_of_ble_eq_true rfl) ?_
  intro p e s m args below meth c Q A X hr hK hA hQ
  refine z_lv (lv' := [(0, .ref ev.b), (1, .int p1)]) rfl ?_
  refine z_iload_n X 1 dL_cell_0 rfl rfl ?_
  refine z_aload_n X 0 dL_cell_1 rfl rfl ?_
  refine z_slenG X hK.2.1 dL_cell_2 ?_
  refine z_icmp_ge X 12 dL_cell_3 (by decide) h (fun _ h => ?_) (fun _ h => ?_)
  · refine z_ldcI (40503 : Int32) X qK_L_7 dL_cell_12 ?_
    refine z_iload_n X 1 dL_cell_14 rfl rfl ?_
    refine z_imul X dL_cell_15 ?_
    cases h
    exact z_lret X hQ (by first | exact Nat.le_of_ble_eq_true rfl | omega) (by first | exact Nat.le_of_ble_eq_true rfl | omega) hr dL_cell_16
  · refine z_aload_n X 0 dL_cell_6 rfl rfl ?_
    refine z_iload_n X 1 dL_cell_7 rfl rfl ?_
    refine z_sldG X hK.2.1 dL_cell_8 h (fun h => ?_)
    refine z_goto X 16 dL_cell_9 (by decide) ?_
    cases h
    exact z_lret X hQ (by first | exact Nat.le_of_ble_eq_true rfl | omega) (by first | exact Nat.le_of_ble_eq_true rfl | omega) hr dL_cell_16
def F_L_far (p0 : Int32) (p1 : Int32) : Option (Int32) :=
  some ((if 0 ≤ ((p0 / (8 : Int32)) - (p1 / (8 : Int32))) then ((p0 / (8 : Int32)) - (p1 / (8 : Int32))) else 0 - ((p0 / (8 : Int32)) - (p1 / (8 : Int32)))) + (if 0 ≤ ((p0 - p0 / (8 : Int32) * (8 : Int32)) - (p1 - p1 / (8 : Int32) * (8 : Int32))) then ((p0 - p0 / (8 : Int32) * (8 : Int32)) - (p1 - p1 / (8 : Int32) * (8 : Int32))) else 0 - ((p0 - p0 / (8 : Int32) * (8 : Int32)) - (p1 - p1 / (8 : Int32) * (8 : Int32)))))

theorem dL_far_0 : decode cL_far 0 = .ok (.iload_n 0, 1) := by decide +kernel
theorem dL_far_1 : decode cL_far 1 = .ok (.bipush 8, 2) := by decide +kernel
theorem dL_far_3 : decode cL_far 3 = .ok (.idiv, 1) := by decide +kernel
theorem dL_far_4 : decode cL_far 4 = .ok (.iload_n 1, 1) := by decide +kernel
theorem dL_far_5 : decode cL_far 5 = .ok (.bipush 8, 2) := by decide +kernel
theorem dL_far_7 : decode cL_far 7 = .ok (.idiv, 1) := by decide +kernel
theorem dL_far_8 : decode cL_far 8 = .ok (.isub, 1) := by decide +kernel
theorem dL_far_9 : decode cL_far 9 = .ok (.invokestatic 175, 3) := by decide +kernel
theorem dL_far_12 : decode cL_far 12 = .ok (.iload_n 0, 1) := by decide +kernel
theorem dL_far_13 : decode cL_far 13 = .ok (.bipush 8, 2) := by decide +kernel
theorem dL_far_15 : decode cL_far 15 = .ok (.irem, 1) := by decide +kernel
theorem dL_far_16 : decode cL_far 16 = .ok (.iload_n 1, 1) := by decide +kernel
theorem dL_far_17 : decode cL_far 17 = .ok (.bipush 8, 2) := by decide +kernel
theorem dL_far_19 : decode cL_far 19 = .ok (.irem, 1) := by decide +kernel
theorem dL_far_20 : decode cL_far 20 = .ok (.isub, 1) := by decide +kernel
theorem dL_far_21 : decode cL_far 21 = .ok (.invokestatic 175, 3) := by decide +kernel
theorem dL_far_24 : decode cL_far 24 = .ok (.iadd, 1) := by decide +kernel
theorem dL_far_25 : decode cL_far 25 = .ok (.ireturn, 1) := by decide +kernel
theorem k_L_far : cardS yL_far (Cond.code yL_far cL_far 2 (some .int)) 2 := ⟨qs_L_far, qc_L_far, qn_L, by decide +kernel, by decide +kernel, by decide +kernel⟩
set_option maxHeartbeats 4000000 in
set_option maxRecDepth 100000 in
theorem c_L_far (l : Launch) (hfl : l.stackTraces = false) (ev : LEv) (D : va_G) (g : Nat → ClassId) (p0 : Int32) (p1 : Int32) (o : Int32) (h : F_L_far p0 p1 = some o) : MG l yL_far (Cond.code yL_far cL_far 2 (some .int)) { frames := 1, cells := 0, slots := 0, locals := 40 } (KF ev) D g [.int p0, .int p1] [] (some (.int o)) [] 0 0 := by
  refine z_g_start (by decide) (Nat.le_of_ble_eq_true rfl) ?_
  intro p e s m args below meth c Q A X hr hK hA hQ
  refine z_lv (lv' := [(0, .int p0), (1, .int p1)]) rfl ?_
  refine z_iload_n X 0 dL_far_0 rfl rfl ?_
  refine z_bipush X (8 : Int32) dL_far_1 (by decide) ?_
  refine z_idiv X dL_far_3 (by decide) ?_
  refine z_iload_n X 1 dL_far_4 rfl rfl ?_
  refine z_bipush X (8 : Int32) dL_far_5 (by decide) ?_
  refine z_idiv X dL_far_7 (by decide) ?_
  refine z_isub X dL_far_8 ?_
  refine z_mabs X ql_L_mabs dL_far_9 (Nat.le_of_ble_eq_true rfl) (Nat.le_of_ble_eq_true rfl) (Nat.le_of_ble_eq_true rfl) (Nat.le_of_ble_eq_true rfl) ?_
  refine z_iload_n X 0 dL_far_12 rfl rfl ?_
  refine z_bipush X (8 : Int32) dL_far_13 (by decide) ?_
  refine z_irem X dL_far_15 (by decide) ?_
  refine z_iload_n X 1 dL_far_16 rfl rfl ?_
  refine z_bipush X (8 : Int32) dL_far_17 (by decide) ?_
  refine z_irem X dL_far_19 (by decide) ?_
  refine z_isub X dL_far_20 ?_
  refine z_mabs X ql_L_mabs dL_far_21 (Nat.le_of_ble_eq_true rfl) (Nat.le_of_ble_eq_true rfl) (Nat.le_of_ble_eq_true rfl) (Nat.le_of_ble_eq_true rfl) ?_
  refine z_iadd X dL_far_24 ?_
  cases h
  exact z_lret X hQ (by first | exact Nat.le_of_ble_eq_true rfl | omega) (by first | exact Nat.le_of_ble_eq_true rfl | omega) hr dL_far_25
def F_L_sleeps (p1 : Int32) (p2 : Int32) (x : XVal) : Option (Int32) :=
  bnd (F_L_of p1 (1 : Int32) x) (fun o1 => bnd (F_L_of p1 (2 : Int32) x) (fun o4 => brn (o4 < o1) (brn (o1 ≤ p2) (some ((1 : Int32))) (brn (o4 ≤ p2) (some ((0 : Int32))) (some ((1 : Int32))))) (brn (p2 < o1) (some ((0 : Int32))) (brn (o4 ≤ p2) (some ((0 : Int32))) (some ((1 : Int32)))))))

theorem dL_sleeps_0 : decode cL_sleeps 0 = .ok (.aload_n 0, 1) := by decide +kernel
theorem dL_sleeps_1 : decode cL_sleeps 1 = .ok (.iload_n 1, 1) := by decide +kernel
theorem dL_sleeps_2 : decode cL_sleeps 2 = .ok (.iconst 1, 1) := by decide +kernel
theorem dL_sleeps_3 : decode cL_sleeps 3 = .ok (.invokestatic 172, 3) := by decide +kernel
theorem dL_sleeps_6 : decode cL_sleeps 6 = .ok (.istore_n 3, 1) := by decide +kernel
theorem dL_sleeps_7 : decode cL_sleeps 7 = .ok (.aload_n 0, 1) := by decide +kernel
theorem dL_sleeps_8 : decode cL_sleeps 8 = .ok (.iload_n 1, 1) := by decide +kernel
theorem dL_sleeps_9 : decode cL_sleeps 9 = .ok (.iconst 2, 1) := by decide +kernel
theorem dL_sleeps_10 : decode cL_sleeps 10 = .ok (.invokestatic 172, 3) := by decide +kernel
theorem dL_sleeps_13 : decode cL_sleeps 13 = .ok (.istore 4, 2) := by decide +kernel
theorem dL_sleeps_15 : decode cL_sleeps 15 = .ok (.iload_n 3, 1) := by decide +kernel
theorem dL_sleeps_16 : decode cL_sleeps 16 = .ok (.iload 4, 2) := by decide +kernel
theorem dL_sleeps_18 : decode cL_sleeps 18 = .ok (.if_icmp .gt 22, 3) := by decide +kernel
theorem dL_sleeps_21 : decode cL_sleeps 21 = .ok (.iload_n 2, 1) := by decide +kernel
theorem dL_sleeps_22 : decode cL_sleeps 22 = .ok (.iload_n 3, 1) := by decide +kernel
theorem dL_sleeps_23 : decode cL_sleeps 23 = .ok (.if_icmp .lt 13, 3) := by decide +kernel
theorem dL_sleeps_26 : decode cL_sleeps 26 = .ok (.iload_n 2, 1) := by decide +kernel
theorem dL_sleeps_27 : decode cL_sleeps 27 = .ok (.iload 4, 2) := by decide +kernel
theorem dL_sleeps_29 : decode cL_sleeps 29 = .ok (.if_icmp .ge 7, 3) := by decide +kernel
theorem dL_sleeps_32 : decode cL_sleeps 32 = .ok (.iconst 1, 1) := by decide +kernel
theorem dL_sleeps_33 : decode cL_sleeps 33 = .ok (.goto 23, 3) := by decide +kernel
theorem dL_sleeps_36 : decode cL_sleeps 36 = .ok (.iconst 0, 1) := by decide +kernel
theorem dL_sleeps_37 : decode cL_sleeps 37 = .ok (.goto 19, 3) := by decide +kernel
theorem dL_sleeps_40 : decode cL_sleeps 40 = .ok (.iload_n 2, 1) := by decide +kernel
theorem dL_sleeps_41 : decode cL_sleeps 41 = .ok (.iload_n 3, 1) := by decide +kernel
theorem dL_sleeps_42 : decode cL_sleeps 42 = .ok (.if_icmp .ge 9, 3) := by decide +kernel
theorem dL_sleeps_45 : decode cL_sleeps 45 = .ok (.iload_n 2, 1) := by decide +kernel
theorem dL_sleeps_46 : decode cL_sleeps 46 = .ok (.iload 4, 2) := by decide +kernel
theorem dL_sleeps_48 : decode cL_sleeps 48 = .ok (.if_icmp .ge 7, 3) := by decide +kernel
theorem dL_sleeps_51 : decode cL_sleeps 51 = .ok (.iconst 1, 1) := by decide +kernel
theorem dL_sleeps_52 : decode cL_sleeps 52 = .ok (.goto 4, 3) := by decide +kernel
theorem dL_sleeps_55 : decode cL_sleeps 55 = .ok (.iconst 0, 1) := by decide +kernel
theorem dL_sleeps_56 : decode cL_sleeps 56 = .ok (.ireturn, 1) := by decide +kernel
theorem k_L_sleeps : cardS yL_sleeps (Cond.code yL_sleeps cL_sleeps 5 (some .boolean)) 3 := ⟨qs_L_sleeps, qc_L_sleeps, qn_L, by decide +kernel, by decide +kernel, by decide +kernel⟩
set_option maxHeartbeats 4000000 in
set_option maxRecDepth 100000 in
theorem c_L_sleeps (l : Launch) (hfl : l.stackTraces = false) (ev : LEv) (D : va_G) (g : Nat → ClassId) (ad : Nat → Nat → Nat) (ax : Nat → Nat) (p1 : Int32) (p2 : Int32) (x : XVal) (o : Int32) (h : F_L_sleeps p1 p2 x = some o) : MG l yL_sleeps (Cond.code yL_sleeps cL_sleeps 5 (some .boolean)) { frames := 10, cells := 4, slots := 24, locals := 175 } (KF ev) D g [.ref (ax 0), .int p1, .int p2] ([] ++ OW g ax ad x) (some (.int o)) ([] ++ OW g ax ad x) 4 24 := by
  refine z_g_start (by decide) (Nat.le_of_ble_eq_true rfl) ?_
  intro p e s m args below meth c Q A X hr hK hA hQ
  refine z_lv (lv' := [(0, .ref (ax 0)), (1, .int p1), (2, .int p2)]) rfl ?_
  refine z_aload_n X 0 dL_sleeps_0 rfl rfl ?_
  refine z_iload_n X 1 dL_sleeps_1 rfl rfl ?_
  refine z_iconst X (1 : Int32) dL_sleeps_2 (by decide) ?_
  obtain ⟨o1, e2, h⟩ := bnd_p h
  have f3 := bk_appP (X := OW g ax ad x) (X' := OW g ax ad x) (perm_of (n := 0) (E := []) (wc := []) (wr := []) [] [] rfl rfl rfl (by decide +kernel)) (perm_of (n := 0) (E := []) (wc := []) (wr := []) [] [] rfl rfl rfl (by decide +kernel)) rfl OW_fst
  refine z_gSH (rest := []) (ws' := ([] ++ OW g ax ad x)) X (KF_ok ev) (kc_of (KF_ok ev) (fun _ _ _ q => q) hK hA f3.1) hA k_L_of (c_L_of l hfl ev D g ad ax p1 (1 : Int32) x o1 e2) ql_L_L_of dL_sleeps_3 f3.1 f3.2 rfl rfl ⟨Nat.le_of_ble_eq_true rfl, Nat.le_of_ble_eq_true rfl, rfl, rfl, (Nat.le_trans (m := 4) (by first | exact Nat.le_of_ble_eq_true rfl | omega) (Nat.le_of_ble_eq_true rfl)), (Nat.le_trans (m := 24) (by first | exact Nat.le_of_ble_eq_true rfl | omega) (Nat.le_of_ble_eq_true rfl))⟩ (Nat.le_of_ble_eq_true rfl) ?_
  refine z_istore_n X [(3, .int o1), (0, .ref (ax 0)), (1, .int p1), (2, .int p2)] dL_sleeps_6 rfl (by decide) rfl ?_
  refine z_aload_n X 1 dL_sleeps_7 rfl rfl ?_
  refine z_iload_n X 2 dL_sleeps_8 rfl rfl ?_
  refine z_iconst X (2 : Int32) dL_sleeps_9 (by decide) ?_
  obtain ⟨o4, e5, h⟩ := bnd_p h
  have f6 := bk_appP (X := OW g ax ad x) (X' := OW g ax ad x) (perm_of (n := 0) (E := []) (wc := []) (wr := []) [] [] rfl rfl rfl (by decide +kernel)) (perm_of (n := 0) (E := []) (wc := []) (wr := []) [] [] rfl rfl rfl (by decide +kernel)) rfl OW_fst
  refine z_gSH (rest := []) (ws' := ([] ++ OW g ax ad x)) X (KF_ok ev) (kc_of (KF_ok ev) (fun _ _ _ q => q) hK hA f6.1) hA k_L_of (c_L_of l hfl ev D g ad ax p1 (2 : Int32) x o4 e5) ql_L_L_of dL_sleeps_10 f6.1 f6.2 rfl rfl ⟨Nat.le_of_ble_eq_true rfl, Nat.le_of_ble_eq_true rfl, rfl, rfl, (Nat.le_trans (m := 4) (by first | exact Nat.le_of_ble_eq_true rfl | omega) (Nat.le_of_ble_eq_true rfl)), (Nat.le_trans (m := 24) (by first | exact Nat.le_of_ble_eq_true rfl | omega) (Nat.le_of_ble_eq_true rfl))⟩ (Nat.le_of_ble_eq_true rfl) ?_
  refine z_istore X [(4, .int o4), (3, .int o1), (0, .ref (ax 0)), (1, .int p1), (2, .int p2)] dL_sleeps_13 (by decide) rfl ?_
  refine z_iload_n X 1 dL_sleeps_15 rfl rfl ?_
  refine z_iload X 0 dL_sleeps_16 rfl ?_
  refine z_icmp_gt X 40 dL_sleeps_18 (by decide) h (fun _ h => ?_) (fun _ h => ?_)
  · refine z_iload_n X 4 dL_sleeps_40 rfl rfl ?_
    refine z_iload_n X 1 dL_sleeps_41 rfl rfl ?_
    refine z_icmp_ge X 51 dL_sleeps_42 (by decide) h (fun _ h => ?_) (fun _ h => ?_)
    · refine z_iconst X (1 : Int32) dL_sleeps_51 (by decide) ?_
      refine z_goto X 56 dL_sleeps_52 (by decide) ?_
      cases h
      exact z_lzret X hQ (by first | exact Nat.le_of_ble_eq_true rfl | omega) (by first | exact Nat.le_of_ble_eq_true rfl | omega) hr dL_sleeps_56 rfl
    · refine z_iload_n X 4 dL_sleeps_45 rfl rfl ?_
      refine z_iload X 0 dL_sleeps_46 rfl ?_
      refine z_icmp_ge X 55 dL_sleeps_48 (by decide) h (fun _ h => ?_) (fun _ h => ?_)
      · refine z_iconst X (0 : Int32) dL_sleeps_55 (by decide) ?_
        cases h
        exact z_lzret X hQ (by first | exact Nat.le_of_ble_eq_true rfl | omega) (by first | exact Nat.le_of_ble_eq_true rfl | omega) hr dL_sleeps_56 rfl
      · refine z_iconst X (1 : Int32) dL_sleeps_51 (by decide) ?_
        refine z_goto X 56 dL_sleeps_52 (by decide) ?_
        cases h
        exact z_lzret X hQ (by first | exact Nat.le_of_ble_eq_true rfl | omega) (by first | exact Nat.le_of_ble_eq_true rfl | omega) hr dL_sleeps_56 rfl
  · refine z_iload_n X 4 dL_sleeps_21 rfl rfl ?_
    refine z_iload_n X 1 dL_sleeps_22 rfl rfl ?_
    refine z_icmp_lt X 36 dL_sleeps_23 (by decide) h (fun _ h => ?_) (fun _ h => ?_)
    · refine z_iconst X (0 : Int32) dL_sleeps_36 (by decide) ?_
      refine z_goto X 56 dL_sleeps_37 (by decide) ?_
      cases h
      exact z_lzret X hQ (by first | exact Nat.le_of_ble_eq_true rfl | omega) (by first | exact Nat.le_of_ble_eq_true rfl | omega) hr dL_sleeps_56 rfl
    · refine z_iload_n X 4 dL_sleeps_26 rfl rfl ?_
      refine z_iload X 0 dL_sleeps_27 rfl ?_
      refine z_icmp_ge X 36 dL_sleeps_29 (by decide) h (fun _ h => ?_) (fun _ h => ?_)
      · refine z_iconst X (0 : Int32) dL_sleeps_36 (by decide) ?_
        refine z_goto X 56 dL_sleeps_37 (by decide) ?_
        cases h
        exact z_lzret X hQ (by first | exact Nat.le_of_ble_eq_true rfl | omega) (by first | exact Nat.le_of_ble_eq_true rfl | omega) hr dL_sleeps_56 rfl
      · refine z_iconst X (1 : Int32) dL_sleeps_32 (by decide) ?_
        refine z_goto X 56 dL_sleeps_33 (by decide) ?_
        cases h
        exact z_lzret X hQ (by first | exact Nat.le_of_ble_eq_true rfl | omega) (by first | exact Nat.le_of_ble_eq_true rfl | omega) hr dL_sleeps_56 rfl
def J_L_kind_42 (p1 : Int32) (p2 : Int32) (p3 : Int32) (p4 : Int32) (x : XVal) : Option (Int32) :=
  brn (p3 = 0) (brn (p4 < (3 : Int32)) (some ((3 : Int32))) (some ((2 : Int32)))) (some ((3 : Int32)))

def J_L_kind_20 (p1 : Int32) (p2 : Int32) (p3 : Int32) (p4 : Int32) (x : XVal) (t0 : Int32) : Option (Int32) :=
  brn (t0 = 0) (J_L_kind_42 p1 p2 p3 p4 x) (bnd (F_L_sleeps p1 p2 x) (fun o1 => brn (o1 = 0) (some (p3 - (1 : Int32))) (J_L_kind_42 p1 p2 p3 p4 x)))

def J_L_kind_15 (p1 : Int32) (p2 : Int32) (p3 : Int32) (p4 : Int32) (x : XVal) : Option (Int32) :=
  J_L_kind_20 p1 p2 p3 p4 x (1 : Int32)

def J_L_kind_19 (p1 : Int32) (p2 : Int32) (p3 : Int32) (p4 : Int32) (x : XVal) : Option (Int32) :=
  J_L_kind_20 p1 p2 p3 p4 x (0 : Int32)

def F_L_kind (p1 : Int32) (p2 : Int32) (p3 : Int32) (p4 : Int32) (x : XVal) : Option (Int32) :=
  brn (p4 = 0) (brn (p3 = (1 : Int32)) (J_L_kind_15 p1 p2 p3 p4 x) (brn (p3 = (2 : Int32)) (J_L_kind_15 p1 p2 p3 p4 x) (J_L_kind_19 p1 p2 p3 p4 x))) (J_L_kind_19 p1 p2 p3 p4 x)

theorem dL_kind_0 : decode cL_kind 0 = .ok (.iload 4, 2) := by decide +kernel
theorem dL_kind_2 : decode cL_kind 2 = .ok (.ifCond .ne 17, 3) := by decide +kernel
theorem dL_kind_5 : decode cL_kind 5 = .ok (.iload_n 3, 1) := by decide +kernel
theorem dL_kind_6 : decode cL_kind 6 = .ok (.iconst 1, 1) := by decide +kernel
theorem dL_kind_7 : decode cL_kind 7 = .ok (.if_icmp .eq 8, 3) := by decide +kernel
theorem dL_kind_10 : decode cL_kind 10 = .ok (.iload_n 3, 1) := by decide +kernel
theorem dL_kind_11 : decode cL_kind 11 = .ok (.iconst 2, 1) := by decide +kernel
theorem dL_kind_12 : decode cL_kind 12 = .ok (.if_icmp .ne 7, 3) := by decide +kernel
theorem dL_kind_15 : decode cL_kind 15 = .ok (.iconst 1, 1) := by decide +kernel
theorem dL_kind_16 : decode cL_kind 16 = .ok (.goto 4, 3) := by decide +kernel
theorem dL_kind_19 : decode cL_kind 19 = .ok (.iconst 0, 1) := by decide +kernel
theorem dL_kind_20 : decode cL_kind 20 = .ok (.istore 5, 2) := by decide +kernel
theorem dL_kind_22 : decode cL_kind 22 = .ok (.iload 5, 2) := by decide +kernel
theorem dL_kind_24 : decode cL_kind 24 = .ok (.ifCond .eq 18, 3) := by decide +kernel
theorem dL_kind_27 : decode cL_kind 27 = .ok (.aload_n 0, 1) := by decide +kernel
theorem dL_kind_28 : decode cL_kind 28 = .ok (.iload_n 1, 1) := by decide +kernel
theorem dL_kind_29 : decode cL_kind 29 = .ok (.iload_n 2, 1) := by decide +kernel
theorem dL_kind_30 : decode cL_kind 30 = .ok (.invokestatic 180, 3) := by decide +kernel
theorem dL_kind_33 : decode cL_kind 33 = .ok (.ifCond .ne 9, 3) := by decide +kernel
theorem dL_kind_36 : decode cL_kind 36 = .ok (.iload_n 3, 1) := by decide +kernel
theorem dL_kind_37 : decode cL_kind 37 = .ok (.iconst 1, 1) := by decide +kernel
theorem dL_kind_38 : decode cL_kind 38 = .ok (.isub, 1) := by decide +kernel
theorem dL_kind_39 : decode cL_kind 39 = .ok (.goto 18, 3) := by decide +kernel
theorem dL_kind_42 : decode cL_kind 42 = .ok (.iload_n 3, 1) := by decide +kernel
theorem dL_kind_43 : decode cL_kind 43 = .ok (.ifCond .ne 13, 3) := by decide +kernel
theorem dL_kind_46 : decode cL_kind 46 = .ok (.iload 4, 2) := by decide +kernel
theorem dL_kind_48 : decode cL_kind 48 = .ok (.iconst 3, 1) := by decide +kernel
theorem dL_kind_49 : decode cL_kind 49 = .ok (.if_icmp .lt 7, 3) := by decide +kernel
theorem dL_kind_52 : decode cL_kind 52 = .ok (.iconst 2, 1) := by decide +kernel
theorem dL_kind_53 : decode cL_kind 53 = .ok (.goto 4, 3) := by decide +kernel
theorem dL_kind_56 : decode cL_kind 56 = .ok (.iconst 3, 1) := by decide +kernel
theorem dL_kind_57 : decode cL_kind 57 = .ok (.ireturn, 1) := by decide +kernel
theorem k_L_kind : cardS yL_kind (Cond.code yL_kind cL_kind 6 (some .int)) 5 := ⟨qs_L_kind, qc_L_kind, qn_L, by decide +kernel, by decide +kernel, by decide +kernel⟩
set_option maxHeartbeats 4000000 in
set_option maxRecDepth 100000 in
theorem c_L_kind (l : Launch) (hfl : l.stackTraces = false) (ev : LEv) (D : va_G) (g : Nat → ClassId) (ad : Nat → Nat → Nat) (ax : Nat → Nat) (p1 : Int32) (p2 : Int32) (p3 : Int32) (p4 : Int32) (x : XVal) (o : Int32) (h : F_L_kind p1 p2 p3 p4 x = some o) : MG l yL_kind (Cond.code yL_kind cL_kind 6 (some .int)) { frames := 11, cells := 4, slots := 24, locals := 199 } (KF ev) D g [.ref (ax 0), .int p1, .int p2, .int p3, .int p4] ([] ++ OW g ax ad x) (some (.int o)) ([] ++ OW g ax ad x) 4 24 := by
  refine z_g_start (by decide) (Nat.le_of_ble_eq_true rfl) ?_
  intro p e s m args below meth c Q A X hr hK hA hQ
  refine z_lv (lv' := [(0, .ref (ax 0)), (1, .int p1), (2, .int p2), (3, .int p3), (4, .int p4)]) rfl ?_
  have H42 : J_L_kind_42 p1 p2 p3 p4 x = some o → Z p l e { frames := 11, cells := 4, slots := 24, locals := 199 } s m args below meth c Q 6 4 24 (IW D A s ([] ++ OW g ax ad x)) 42 [(3, .int p3), (4, .int p4)] [] := by
    intro  h
    refine z_iload_n X 0 dL_kind_42 rfl rfl ?_
    refine z_if_ne X 56 dL_kind_43 (by decide) h (fun _ h => ?_) (fun _ h => ?_)
    · refine z_iload X 1 dL_kind_46 rfl ?_
      refine z_iconst X (3 : Int32) dL_kind_48 (by decide) ?_
      refine z_icmp_lt X 56 dL_kind_49 (by decide) h (fun _ h => ?_) (fun _ h => ?_)
      · refine z_iconst X (3 : Int32) dL_kind_56 (by decide) ?_
        cases h
        exact z_lret X hQ (by first | exact Nat.le_of_ble_eq_true rfl | omega) (by first | exact Nat.le_of_ble_eq_true rfl | omega) hr dL_kind_57
      · refine z_iconst X (2 : Int32) dL_kind_52 (by decide) ?_
        refine z_goto X 57 dL_kind_53 (by decide) ?_
        cases h
        exact z_lret X hQ (by first | exact Nat.le_of_ble_eq_true rfl | omega) (by first | exact Nat.le_of_ble_eq_true rfl | omega) hr dL_kind_57
    · refine z_iconst X (3 : Int32) dL_kind_56 (by decide) ?_
      cases h
      exact z_lret X hQ (by first | exact Nat.le_of_ble_eq_true rfl | omega) (by first | exact Nat.le_of_ble_eq_true rfl | omega) hr dL_kind_57
  have H20 : ∀ (t0 : Int32), J_L_kind_20 p1 p2 p3 p4 x t0 = some o → Z p l e { frames := 11, cells := 4, slots := 24, locals := 199 } s m args below meth c Q 6 0 0 (IW D A s ([] ++ OW g ax ad x)) 20 [(0, .ref (ax 0)), (1, .int p1), (2, .int p2), (3, .int p3), (4, .int p4)] [.int t0] := by
    intro t0 h
    refine z_istore X [(5, .int t0), (0, .ref (ax 0)), (1, .int p1), (2, .int p2), (3, .int p3), (4, .int p4)] dL_kind_20 (by decide) rfl ?_
    refine z_iload X 0 dL_kind_22 rfl ?_
    refine z_if_eq X 42 dL_kind_24 (by decide) h (fun _ h => ?_) (fun _ h => ?_)
    · refine z_widen (k := 4) (n := 24) (by first | exact Nat.le_of_ble_eq_true rfl | omega) (by first | exact Nat.le_of_ble_eq_true rfl | omega) ?_
      refine z_sub (lv' := [(3, .int p3), (4, .int p4)]) [4, 5] rfl ?_
      exact H42  h
    · refine z_aload_n X 1 dL_kind_27 rfl rfl ?_
      refine z_iload_n X 2 dL_kind_28 rfl rfl ?_
      refine z_iload_n X 3 dL_kind_29 rfl rfl ?_
      obtain ⟨o1, e2, h⟩ := bnd_p h
      have f3 := bk_appP (X := OW g ax ad x) (X' := OW g ax ad x) (perm_of (n := 0) (E := []) (wc := []) (wr := []) [] [] rfl rfl rfl (by decide +kernel)) (perm_of (n := 0) (E := []) (wc := []) (wr := []) [] [] rfl rfl rfl (by decide +kernel)) rfl OW_fst
      refine z_gS (rest := []) (ws' := ([] ++ OW g ax ad x)) X (KF_ok ev) (kc_of (KF_ok ev) (fun _ _ _ q => q) hK hA f3.1) hA k_L_sleeps (c_L_sleeps l hfl ev D g ad ax p1 p2 x o1 e2) ql_L_L_sleeps dL_kind_30 f3.1 f3.2 rfl rfl ⟨Nat.le_of_ble_eq_true rfl, Nat.le_of_ble_eq_true rfl, rfl, rfl, (Nat.le_trans (m := 4) (by first | exact Nat.le_of_ble_eq_true rfl | omega) (Nat.le_of_ble_eq_true rfl)), (Nat.le_trans (m := 24) (by first | exact Nat.le_of_ble_eq_true rfl | omega) (Nat.le_of_ble_eq_true rfl))⟩ (Nat.le_of_ble_eq_true rfl) ?_
      refine z_if_ne X 42 dL_kind_33 (by decide) h (fun _ h => ?_) (fun _ h => ?_)
      · refine z_iload_n X 4 dL_kind_36 rfl rfl ?_
        refine z_iconst X (1 : Int32) dL_kind_37 (by decide) ?_
        refine z_isub X dL_kind_38 ?_
        refine z_goto X 57 dL_kind_39 (by decide) ?_
        cases h
        exact z_lret X hQ (by first | exact Nat.le_of_ble_eq_true rfl | omega) (by first | exact Nat.le_of_ble_eq_true rfl | omega) hr dL_kind_57
      · refine z_widen (k := 4) (n := 24) (by first | exact Nat.le_of_ble_eq_true rfl | omega) (by first | exact Nat.le_of_ble_eq_true rfl | omega) ?_
        refine z_sub (lv' := [(3, .int p3), (4, .int p4)]) [4, 5] rfl ?_
        exact H42  h
  have H15 : J_L_kind_15 p1 p2 p3 p4 x = some o → Z p l e { frames := 11, cells := 4, slots := 24, locals := 199 } s m args below meth c Q 6 0 0 (IW D A s ([] ++ OW g ax ad x)) 15 [(0, .ref (ax 0)), (1, .int p1), (2, .int p2), (3, .int p3), (4, .int p4)] [] := by
    intro  h
    refine z_iconst X (1 : Int32) dL_kind_15 (by decide) ?_
    refine z_goto X 20 dL_kind_16 (by decide) ?_
    refine z_widen (k := 0) (n := 0) (by first | exact Nat.le_of_ble_eq_true rfl | omega) (by first | exact Nat.le_of_ble_eq_true rfl | omega) ?_
    exact H20 (1 : Int32) h
  have H19 : J_L_kind_19 p1 p2 p3 p4 x = some o → Z p l e { frames := 11, cells := 4, slots := 24, locals := 199 } s m args below meth c Q 6 0 0 (IW D A s ([] ++ OW g ax ad x)) 19 [(0, .ref (ax 0)), (1, .int p1), (2, .int p2), (3, .int p3), (4, .int p4)] [] := by
    intro  h
    refine z_iconst X (0 : Int32) dL_kind_19 (by decide) ?_
    refine z_widen (k := 0) (n := 0) (by first | exact Nat.le_of_ble_eq_true rfl | omega) (by first | exact Nat.le_of_ble_eq_true rfl | omega) ?_
    exact H20 (0 : Int32) h
  refine z_iload X 4 dL_kind_0 rfl ?_
  refine z_if_ne X 19 dL_kind_2 (by decide) h (fun _ h => ?_) (fun _ h => ?_)
  · refine z_iload_n X 3 dL_kind_5 rfl rfl ?_
    refine z_iconst X (1 : Int32) dL_kind_6 (by decide) ?_
    refine z_icmp_eq X 15 dL_kind_7 (by decide) h (fun _ h => ?_) (fun _ h => ?_)
    · refine z_widen (k := 0) (n := 0) (by first | exact Nat.le_of_ble_eq_true rfl | omega) (by first | exact Nat.le_of_ble_eq_true rfl | omega) ?_
      exact H15  h
    · refine z_iload_n X 3 dL_kind_10 rfl rfl ?_
      refine z_iconst X (2 : Int32) dL_kind_11 (by decide) ?_
      refine z_icmp_ne X 19 dL_kind_12 (by decide) h (fun _ h => ?_) (fun _ h => ?_)
      · refine z_widen (k := 0) (n := 0) (by first | exact Nat.le_of_ble_eq_true rfl | omega) (by first | exact Nat.le_of_ble_eq_true rfl | omega) ?_
        exact H15  h
      · refine z_widen (k := 0) (n := 0) (by first | exact Nat.le_of_ble_eq_true rfl | omega) (by first | exact Nat.le_of_ble_eq_true rfl | omega) ?_
        exact H19  h
  · refine z_widen (k := 0) (n := 0) (by first | exact Nat.le_of_ble_eq_true rfl | omega) (by first | exact Nat.le_of_ble_eq_true rfl | omega) ?_
    exact H19  h
def F_L_areInHall (p1 : Int32) (p2 : Int32) (x : XVal) : Option (Int32) :=
  brn (p1 = p2) (some ((0 : Int32))) (bnd (F_L_of p1 (5 : Int32) x) (fun o1 => brn (o1 < 0) (some ((0 : Int32))) (bnd (F_L_of p1 (5 : Int32) x) (fun o4 => bnd (F_L_of p2 (5 : Int32) x) (fun o7 => brn (o4 = o7) (some ((1 : Int32))) (some ((0 : Int32))))))))

theorem dL_areInHall_0 : decode cL_areInHall 0 = .ok (.iload_n 1, 1) := by decide +kernel
theorem dL_areInHall_1 : decode cL_areInHall 1 = .ok (.iload_n 2, 1) := by decide +kernel
theorem dL_areInHall_2 : decode cL_areInHall 2 = .ok (.if_icmp .eq 31, 3) := by decide +kernel
theorem dL_areInHall_5 : decode cL_areInHall 5 = .ok (.aload_n 0, 1) := by decide +kernel
theorem dL_areInHall_6 : decode cL_areInHall 6 = .ok (.iload_n 1, 1) := by decide +kernel
theorem dL_areInHall_7 : decode cL_areInHall 7 = .ok (.iconst 5, 1) := by decide +kernel
theorem dL_areInHall_8 : decode cL_areInHall 8 = .ok (.invokestatic 172, 3) := by decide +kernel
theorem dL_areInHall_11 : decode cL_areInHall 11 = .ok (.ifCond .lt 22, 3) := by decide +kernel
theorem dL_areInHall_14 : decode cL_areInHall 14 = .ok (.aload_n 0, 1) := by decide +kernel
theorem dL_areInHall_15 : decode cL_areInHall 15 = .ok (.iload_n 1, 1) := by decide +kernel
theorem dL_areInHall_16 : decode cL_areInHall 16 = .ok (.iconst 5, 1) := by decide +kernel
theorem dL_areInHall_17 : decode cL_areInHall 17 = .ok (.invokestatic 172, 3) := by decide +kernel
theorem dL_areInHall_20 : decode cL_areInHall 20 = .ok (.aload_n 0, 1) := by decide +kernel
theorem dL_areInHall_21 : decode cL_areInHall 21 = .ok (.iload_n 2, 1) := by decide +kernel
theorem dL_areInHall_22 : decode cL_areInHall 22 = .ok (.iconst 5, 1) := by decide +kernel
theorem dL_areInHall_23 : decode cL_areInHall 23 = .ok (.invokestatic 172, 3) := by decide +kernel
theorem dL_areInHall_26 : decode cL_areInHall 26 = .ok (.if_icmp .ne 7, 3) := by decide +kernel
theorem dL_areInHall_29 : decode cL_areInHall 29 = .ok (.iconst 1, 1) := by decide +kernel
theorem dL_areInHall_30 : decode cL_areInHall 30 = .ok (.goto 4, 3) := by decide +kernel
theorem dL_areInHall_33 : decode cL_areInHall 33 = .ok (.iconst 0, 1) := by decide +kernel
theorem dL_areInHall_34 : decode cL_areInHall 34 = .ok (.ireturn, 1) := by decide +kernel
theorem k_L_areInHall : cardS yL_areInHall (Cond.code yL_areInHall cL_areInHall 3 (some .boolean)) 3 := ⟨qs_L_areInHall, qc_L_areInHall, qn_L, by decide +kernel, by decide +kernel, by decide +kernel⟩
set_option maxHeartbeats 4000000 in
set_option maxRecDepth 100000 in
theorem c_L_areInHall (l : Launch) (hfl : l.stackTraces = false) (ev : LEv) (D : va_G) (g : Nat → ClassId) (ad : Nat → Nat → Nat) (ax : Nat → Nat) (p1 : Int32) (p2 : Int32) (x : XVal) (o : Int32) (h : F_L_areInHall p1 p2 x = some o) : MG l yL_areInHall (Cond.code yL_areInHall cL_areInHall 3 (some .boolean)) { frames := 10, cells := 6, slots := 36, locals := 175 } (KF ev) D g [.ref (ax 0), .int p1, .int p2] ([] ++ OW g ax ad x) (some (.int o)) ([] ++ OW g ax ad x) 6 36 := by
  refine z_g_start (by decide) (Nat.le_of_ble_eq_true rfl) ?_
  intro p e s m args below meth c Q A X hr hK hA hQ
  refine z_lv (lv' := [(0, .ref (ax 0)), (1, .int p1), (2, .int p2)]) rfl ?_
  refine z_iload_n X 1 dL_areInHall_0 rfl rfl ?_
  refine z_iload_n X 2 dL_areInHall_1 rfl rfl ?_
  refine z_icmp_eq X 33 dL_areInHall_2 (by decide) h (fun _ h => ?_) (fun _ h => ?_)
  · refine z_iconst X (0 : Int32) dL_areInHall_33 (by decide) ?_
    cases h
    exact z_lzret X hQ (by first | exact Nat.le_of_ble_eq_true rfl | omega) (by first | exact Nat.le_of_ble_eq_true rfl | omega) hr dL_areInHall_34 rfl
  · refine z_aload_n X 0 dL_areInHall_5 rfl rfl ?_
    refine z_iload_n X 1 dL_areInHall_6 rfl rfl ?_
    refine z_iconst X (5 : Int32) dL_areInHall_7 (by decide) ?_
    obtain ⟨o1, e2, h⟩ := bnd_p h
    have f3 := bk_appP (X := OW g ax ad x) (X' := OW g ax ad x) (perm_of (n := 0) (E := []) (wc := []) (wr := []) [] [] rfl rfl rfl (by decide +kernel)) (perm_of (n := 0) (E := []) (wc := []) (wr := []) [] [] rfl rfl rfl (by decide +kernel)) rfl OW_fst
    refine z_gSH (rest := []) (ws' := ([] ++ OW g ax ad x)) X (KF_ok ev) (kc_of (KF_ok ev) (fun _ _ _ q => q) hK hA f3.1) hA k_L_of (c_L_of l hfl ev D g ad ax p1 (5 : Int32) x o1 e2) ql_L_L_of dL_areInHall_8 f3.1 f3.2 rfl rfl ⟨Nat.le_of_ble_eq_true rfl, Nat.le_of_ble_eq_true rfl, rfl, rfl, (Nat.le_trans (m := 6) (by first | exact Nat.le_of_ble_eq_true rfl | omega) (Nat.le_of_ble_eq_true rfl)), (Nat.le_trans (m := 36) (by first | exact Nat.le_of_ble_eq_true rfl | omega) (Nat.le_of_ble_eq_true rfl))⟩ (Nat.le_of_ble_eq_true rfl) ?_
    refine z_if_lt X 33 dL_areInHall_11 (by decide) h (fun _ h => ?_) (fun _ h => ?_)
    · refine z_iconst X (0 : Int32) dL_areInHall_33 (by decide) ?_
      cases h
      exact z_lzret X hQ (by first | exact Nat.le_of_ble_eq_true rfl | omega) (by first | exact Nat.le_of_ble_eq_true rfl | omega) hr dL_areInHall_34 rfl
    · refine z_aload_n X 0 dL_areInHall_14 rfl rfl ?_
      refine z_iload_n X 1 dL_areInHall_15 rfl rfl ?_
      refine z_iconst X (5 : Int32) dL_areInHall_16 (by decide) ?_
      obtain ⟨o4, e5, h⟩ := bnd_p h
      have f6 := bk_appP (X := OW g ax ad x) (X' := OW g ax ad x) (perm_of (n := 0) (E := []) (wc := []) (wr := []) [] [] rfl rfl rfl (by decide +kernel)) (perm_of (n := 0) (E := []) (wc := []) (wr := []) [] [] rfl rfl rfl (by decide +kernel)) rfl OW_fst
      refine z_gSH (rest := []) (ws' := ([] ++ OW g ax ad x)) X (KF_ok ev) (kc_of (KF_ok ev) (fun _ _ _ q => q) hK hA f6.1) hA k_L_of (c_L_of l hfl ev D g ad ax p1 (5 : Int32) x o4 e5) ql_L_L_of dL_areInHall_17 f6.1 f6.2 rfl rfl ⟨Nat.le_of_ble_eq_true rfl, Nat.le_of_ble_eq_true rfl, rfl, rfl, (Nat.le_trans (m := 6) (by first | exact Nat.le_of_ble_eq_true rfl | omega) (Nat.le_of_ble_eq_true rfl)), (Nat.le_trans (m := 36) (by first | exact Nat.le_of_ble_eq_true rfl | omega) (Nat.le_of_ble_eq_true rfl))⟩ (Nat.le_of_ble_eq_true rfl) ?_
      refine z_aload_n X 0 dL_areInHall_20 rfl rfl ?_
      refine z_iload_n X 2 dL_areInHall_21 rfl rfl ?_
      refine z_iconst X (5 : Int32) dL_areInHall_22 (by decide) ?_
      obtain ⟨o7, e8, h⟩ := bnd_p h
      have f9 := bk_appP (X := OW g ax ad x) (X' := OW g ax ad x) (perm_of (n := 0) (E := []) (wc := []) (wr := []) [] [] rfl rfl rfl (by decide +kernel)) (perm_of (n := 0) (E := []) (wc := []) (wr := []) [] [] rfl rfl rfl (by decide +kernel)) rfl OW_fst
      refine z_gSH (rest := [.int o4]) (ws' := ([] ++ OW g ax ad x)) X (KF_ok ev) (kc_of (KF_ok ev) (fun _ _ _ q => q) hK hA f9.1) hA k_L_of (c_L_of l hfl ev D g ad ax p2 (5 : Int32) x o7 e8) ql_L_L_of dL_areInHall_23 f9.1 f9.2 rfl rfl ⟨Nat.le_of_ble_eq_true rfl, Nat.le_of_ble_eq_true rfl, rfl, rfl, (Nat.le_trans (m := 6) (by first | exact Nat.le_of_ble_eq_true rfl | omega) (Nat.le_of_ble_eq_true rfl)), (Nat.le_trans (m := 36) (by first | exact Nat.le_of_ble_eq_true rfl | omega) (Nat.le_of_ble_eq_true rfl))⟩ (Nat.le_of_ble_eq_true rfl) ?_
      refine z_icmp_ne X 33 dL_areInHall_26 (by decide) h (fun _ h => ?_) (fun _ h => ?_)
      · refine z_iconst X (1 : Int32) dL_areInHall_29 (by decide) ?_
        refine z_goto X 34 dL_areInHall_30 (by decide) ?_
        cases h
        exact z_lzret X hQ (by first | exact Nat.le_of_ble_eq_true rfl | omega) (by first | exact Nat.le_of_ble_eq_true rfl | omega) hr dL_areInHall_34 rfl
      · refine z_iconst X (0 : Int32) dL_areInHall_33 (by decide) ?_
        cases h
        exact z_lzret X hQ (by first | exact Nat.le_of_ble_eq_true rfl | omega) (by first | exact Nat.le_of_ble_eq_true rfl | omega) hr dL_areInHall_34 rfl
